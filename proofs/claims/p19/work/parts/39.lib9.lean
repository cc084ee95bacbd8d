/-! weights: parts, sums, products -/
theorem mz_nxt {h : Int32} (hh : ∀ j, j < 32 → mz_t h j = true → j < 8) {i : Nat} (hi : i < 2 ^ (mz_pc h 8)) : (nI (mz_dp h i) - h) &&& h = nI (mz_dp h (i + 1)) := by
  obtain ⟨a, ha, rfl⟩ := mz_256 hh
  exact mz_nxt256 a ha i hi
theorem mz_inj {h : Int32} (hh : ∀ j, j < 32 → mz_t h j = true → j < 8) {i j : Nat} (hi : i < 2 ^ (mz_pc h 8)) (hj : j < 2 ^ (mz_pc h 8)) (e : mz_dp h i = mz_dp h j) : i = j := by
  obtain ⟨a, ha, rfl⟩ := mz_256 hh
  rw [← mz_inj256 a ha i hi, ← mz_inj256 a ha j hj, e]
theorem mz_sur {h : Int32} (hh : ∀ j, j < 32 → mz_t h j = true → j < 8) {c : Nat} (hc : c < 256) (hs : ∀ j, c.testBit j = true → mz_t h j = true) : ∃ i, i < 2 ^ (mz_pc h 8) ∧ mz_dp h i = c := by
  obtain ⟨a, ha, rfl⟩ := mz_256 hh
  refine ⟨mz_rw (nI a) (nI c) 8, mz_rw_lt _ _ 8, mz_sur256 a ha c hc ?_⟩
  apply Nat.eq_of_testBit_eq
  intro j
  rw [Nat.testBit_and]
  cases e : c.testBit j
  · rfl
  · have := hs j e
    rw [mz_t_nI (by omega)] at this
    rw [this]
    rfl
theorem mz_dp_0 (h : Int32) : mz_dp h 0 = 0 := by
  have h1 : ∀ k, mz_bn (mz_db h 0) k = 0 := by
    intro k
    induction k with
    | zero => rfl
    | succ k ih =>
      show mz_bn (mz_db h 0) k + _ = 0
      rw [ih, if_neg (by unfold mz_db; simp)]
  exact h1 8
theorem mz_dp_in {h : Int32} {i j : Nat} (e : (mz_dp h i).testBit j = true) : j < 8 ∧ mz_t h j = true := by
  unfold mz_dp at e
  rw [mz_bn_t, Bool.and_eq_true] at e
  obtain ⟨e1, e2⟩ := e
  unfold mz_db at e2
  rw [Bool.and_eq_true] at e2
  exact ⟨by simpa using e1, e2.1⟩
/-! sums -/
def mz_su (g : Nat → Int64) : Nat → Int64
  | 0 => 0
  | k + 1 => mz_su g k + g k
theorem mz_su_cg {g g1 : Nat → Int64} (k : Nat) (h : ∀ i, i < k → g i = g1 i) : mz_su g k = mz_su g1 k := by
  induction k with
  | zero => rfl
  | succ k ih =>
    show mz_su g k + g k = mz_su g1 k + g1 k
    rw [ih (fun i hi => h i (by omega)), h k (by omega)]
theorem mz_su_add (g : Nat → Int64) (a b : Nat) : mz_su g (a + b) = mz_su g a + mz_su (fun i => g (a + i)) b := by
  induction b with
  | zero =>
    show mz_su g a = mz_su g a + 0
    rw [Int64.add_zero]
  | succ b ih =>
    show mz_su g (a + b) + g (a + b) = mz_su g a + (mz_su (fun i => g (a + i)) b + g (a + b))
    rw [ih, Int64.add_assoc]
/-- does a case agree with a setting on the first k things? -/
def mz_mtc (h o : Int32) (c : Nat) : Nat → Bool
  | 0 => true
  | k + 1 => mz_mtc h o c k && (!mz_t h k || (c.testBit k == mz_t o k))
theorem mz_mt_iff {h o : Int32} {c : Nat} (k : Nat) : mz_mtc h o c k = true ↔ ∀ j, j < k → mz_t h j = true → c.testBit j = mz_t o j := by
  induction k with
  | zero =>
    constructor
    · intro _ j hj
      omega
    · intro _
      rfl
  | succ k ih =>
    show (mz_mtc h o c k && _) = true ↔ _
    rw [Bool.and_eq_true, ih]
    constructor
    · intro ⟨h1, h2⟩ j hj hx
      rcases Nat.lt_or_ge j k with q | q
      · exact h1 j q hx
      · have e : j = k := by omega
        subst e
        rw [hx] at h2
        simpa using h2
    · intro h1
      refine ⟨fun j hj => h1 j (by omega), ?_⟩
      cases e : mz_t h k
      · rfl
      · have := h1 k (by omega) e
        rw [this]
        simp
theorem mz_mt_cg {h o : Int32} {c d : Nat} (k : Nat) (e : ∀ j, j < k → c.testBit j = d.testBit j) : mz_mtc h o c k = mz_mtc h o d k := by
  induction k with
  | zero => rfl
  | succ k ih =>
    show (mz_mtc h o c k && _) = (mz_mtc h o d k && _)
    rw [ih (fun j hj => e j (by omega)), e k (by omega)]
/-- all cases that agree with a setting -/
def mz_cs (g : Nat → Int64) (h o : Int32) (k : Nat) : Int64 := mz_su (fun c => if mz_mtc h o c k = true then g c else 0) (2 ^ k)
/-- the same sum, thing by thing -/
def mz_T (g : Nat → Int64) (h o : Int32) : Nat → Nat → Int64
  | 0, acc => g acc
  | k + 1, acc => if mz_t h k = true then mz_T g h o k (acc + (if mz_t o k = true then 2 ^ k else 0)) else mz_T g h o k acc + mz_T g h o k (acc + 2 ^ k)
theorem mz_T_cs (g : Nat → Int64) (h o : Int32) (k acc : Nat) : mz_su (fun c => if mz_mtc h o c k = true then g (acc + c) else 0) (2 ^ k) = mz_T g h o k acc := by
  induction k generalizing acc with
  | zero =>
    show (0 : Int64) + (if true = true then g (acc + 0) else 0) = g acc
    rw [if_pos rfl, Int64.zero_add]
    rfl
  | succ k ih =>
    rw [Nat.pow_succ, Nat.mul_two, mz_su_add]
    have lo : ∀ c, c < 2 ^ k → mz_mtc h o c (k + 1) = (mz_mtc h o c k && (!mz_t h k || !mz_t o k)) := by
      intro c hc
      show (mz_mtc h o c k && (!mz_t h k || (c.testBit k == mz_t o k))) = _
      rw [Nat.testBit_lt_two_pow hc]
      cases mz_t o k <;> rfl
    have hi : ∀ c, c < 2 ^ k → mz_mtc h o (2 ^ k + c) (k + 1) = (mz_mtc h o c k && (!mz_t h k || mz_t o k)) := by
      intro c hc
      show (mz_mtc h o (2 ^ k + c) k && (!mz_t h k || ((2 ^ k + c).testBit k == mz_t o k))) = _
      rw [mz_mt_cg (c := 2 ^ k + c) (d := c) k (fun j hj => Nat.testBit_two_pow_add_gt hj c), Nat.testBit_two_pow_add_eq, Nat.testBit_lt_two_pow hc]
      cases mz_t o k <;> rfl
    have e1 : mz_su (fun c => if mz_mtc h o c (k + 1) = true then g (acc + c) else 0) (2 ^ k) = if (!mz_t h k || !mz_t o k) = true then mz_T g h o k acc else 0 := by
      rw [← ih acc]
      cases q : (!mz_t h k || !mz_t o k)
      · rw [if_neg (by decide)]
        have z : ∀ m, m ≤ 2 ^ k → mz_su (fun c => if mz_mtc h o c (k + 1) = true then g (acc + c) else 0) m = 0 := by
          intro m
          induction m with
          | zero => intro _; rfl
          | succ m im =>
            intro hm
            show mz_su _ m + (if mz_mtc h o m (k + 1) = true then g (acc + m) else 0) = 0
            rw [im (by omega), lo m (by omega), q, Bool.and_false, if_neg (by decide), Int64.add_zero]
        exact z _ (Nat.le_refl _)
      · rw [if_pos rfl]
        exact mz_su_cg _ (fun c hc => by rw [lo c hc, q, Bool.and_true])
    have e2 : mz_su (fun c => if mz_mtc h o (2 ^ k + c) (k + 1) = true then g (acc + (2 ^ k + c)) else 0) (2 ^ k) = if (!mz_t h k || mz_t o k) = true then mz_T g h o k (acc + 2 ^ k) else 0 := by
      rw [← ih (acc + 2 ^ k)]
      cases q : (!mz_t h k || mz_t o k)
      · rw [if_neg (by decide)]
        have z : ∀ m, m ≤ 2 ^ k → mz_su (fun c => if mz_mtc h o (2 ^ k + c) (k + 1) = true then g (acc + (2 ^ k + c)) else 0) m = 0 := by
          intro m
          induction m with
          | zero => intro _; rfl
          | succ m im =>
            intro hm
            show mz_su _ m + (if mz_mtc h o (2 ^ k + m) (k + 1) = true then g (acc + (2 ^ k + m)) else 0) = 0
            rw [im (by omega), hi m (by omega), q, Bool.and_false, if_neg (by decide), Int64.add_zero]
        exact z _ (Nat.le_refl _)
      · rw [if_pos rfl]
        exact mz_su_cg _ (fun c hc => by rw [hi c hc, q, Bool.and_true, Nat.add_assoc])
    rw [e1, e2]
    show _ = if mz_t h k = true then mz_T g h o k (acc + (if mz_t o k = true then 2 ^ k else 0)) else mz_T g h o k acc + mz_T g h o k (acc + 2 ^ k)
    cases mz_t h k <;> cases mz_t o k <;> simp
/-- bit j of a case: what the setting says, and the i-th part of what is free -/
def mz_hb (h o f : Int32) (i j : Nat) : Bool := (mz_t h j && mz_t o j) || mz_db f i j
theorem mz_T_dp (g : Nat → Int64) (h o f : Int32) (k acc : Nat) (hf : ∀ j, j < k → mz_t f j = !mz_t h j) : mz_su (fun i => g (acc + mz_bn (mz_hb h o f i) k)) (2 ^ (mz_pc f k)) = mz_T g h o k acc := by
  induction k generalizing acc with
  | zero =>
    show (0 : Int64) + g (acc + 0) = g acc
    rw [Int64.zero_add]
    rfl
  | succ k ih =>
    have ih := fun a => ih a (fun j hj => hf j (by omega))
    show _ = if mz_t h k = true then mz_T g h o k (acc + (if mz_t o k = true then 2 ^ k else 0)) else mz_T g h o k acc + mz_T g h o k (acc + 2 ^ k)
    cases e : mz_t h k
    · have ef : mz_t f k = true := by
        rw [hf k (by omega), e]
        rfl
      rw [if_neg (by decide), mz_pc_y ef, Nat.pow_succ, Nat.mul_two, mz_su_add, ← ih acc, ← ih (acc + 2 ^ k)]
      have hm : ∀ j, j < k → mz_t f j = true → mz_pc f j < mz_pc f k := by
        intro j hj hx
        have mono : ∀ d, mz_pc f (j + 1) ≤ mz_pc f (j + 1 + d) := by
          intro d
          induction d with
          | zero => exact Nat.le_refl _
          | succ d id =>
            show _ ≤ mz_pc f (j + 1 + d) + _
            omega
        have h1 := mono (k - (j + 1))
        rw [show j + 1 + (k - (j + 1)) = k by omega, mz_pc_y hx] at h1
        omega
      congr 1
      · apply mz_su_cg
        intro i hi
        show g (acc + (mz_bn (mz_hb h o f i) k + (if mz_hb h o f i k = true then 2 ^ k else 0))) = _
        rw [if_neg (by
          unfold mz_hb mz_db
          rw [e, ef, Nat.testBit_lt_two_pow hi]
          simp), Nat.add_zero]
      · apply mz_su_cg
        intro i hi
        show g (acc + (mz_bn (mz_hb h o f (2 ^ (mz_pc f k) + i)) k + (if mz_hb h o f (2 ^ (mz_pc f k) + i) k = true then 2 ^ k else 0))) = _
        rw [if_pos (by
          unfold mz_hb mz_db
          rw [ef, Nat.testBit_two_pow_add_eq, Nat.testBit_lt_two_pow hi]
          simp), mz_bn_cg (P := mz_hb h o f (2 ^ (mz_pc f k) + i)) (Q := mz_hb h o f i) k (fun j hj => by
            unfold mz_hb mz_db
            cases ej : mz_t f j
            · rfl
            · rw [Nat.testBit_two_pow_add_gt (hm j hj ej) i])]
        congr 1
        omega
    · have ef : mz_t f k = false := by
        rw [hf k (by omega), e]
        rfl
      rw [if_pos rfl, mz_pc_n ef, ← ih]
      apply mz_su_cg
      intro i hi
      show g (acc + (mz_bn (mz_hb h o f i) k + (if mz_hb h o f i k = true then 2 ^ k else 0))) = _
      have e3 : mz_hb h o f i k = mz_t o k := by
        unfold mz_hb mz_db
        rw [e, ef]
        simp
      rw [e3]
      congr 1
      omega
/-! products -/
def mz_pr (F : Nat → Int64) (S : Int32) : Nat → Int64
  | 0 => 1
  | k + 1 => if mz_t S k = true then mz_pr F S k * F k else mz_pr F S k
theorem mz_pr_cg {F G : Nat → Int64} {S R : Int32} (n : Nat) (h1 : ∀ k, k < n → mz_t S k = mz_t R k) (h2 : ∀ k, k < n → mz_t S k = true → F k = G k) : mz_pr F S n = mz_pr G R n := by
  induction n with
  | zero => rfl
  | succ n ih =>
    show (if mz_t S n = true then mz_pr F S n * F n else mz_pr F S n) = (if mz_t R n = true then mz_pr G R n * G n else mz_pr G R n)
    rw [ih (fun k hk => h1 k (by omega)) (fun k hk => h2 k (by omega)), ← h1 n (by omega)]
    cases e : mz_t S n
    · rfl
    · rw [if_pos rfl, if_pos rfl, h2 n (by omega) e]
theorem mz_pr_ins {F : Nat → Int64} {S : Int32} {t : Nat} (n : Nat) (ht : t < n) (h32 : t < 32) (hS : mz_t S t = false) : mz_pr F (S ||| ((1 : Int32) <<< (nI t &&& 31))) n = mz_pr F S n * F t := by
  have hb : ∀ k, k ≠ t → mz_t (S ||| ((1 : Int32) <<< (nI t &&& 31))) k = mz_t S k := by
    intro k hk
    rw [mz_t_or, mz_t_1 h32]
    simp [hk]
  have hbt : mz_t (S ||| ((1 : Int32) <<< (nI t &&& 31))) t = true := by
    rw [mz_t_or, mz_t_1 h32]
    simp
  induction n with
  | zero => omega
  | succ n ih =>
    show (if mz_t (S ||| ((1 : Int32) <<< (nI t &&& 31))) n = true then mz_pr F (S ||| ((1 : Int32) <<< (nI t &&& 31))) n * F n else mz_pr F (S ||| ((1 : Int32) <<< (nI t &&& 31))) n) = (if mz_t S n = true then mz_pr F S n * F n else mz_pr F S n) * F t
    by_cases e : t = n
    · subst e
      rw [if_pos hbt, if_neg (by rw [hS]; decide), mz_pr_cg t (fun k hk => hb k (by omega)) (fun _ _ _ => rfl)]
    · rw [hb n (fun q => e q.symm), ih (by omega)]
      cases mz_t S n
      · rfl
      · rw [if_pos rfl, if_pos rfl, Int64.mul_assoc, Int64.mul_comm (F t) (F n), ← Int64.mul_assoc]
theorem mz_pr_z {F : Nat → Int64} {S : Int32} {t : Nat} (n : Nat) (ht : t < n) (hS : mz_t S t = true) (hF : F t = 0) : mz_pr F S n = 0 := by
  induction n with
  | zero => omega
  | succ n ih =>
    show (if mz_t S n = true then mz_pr F S n * F n else mz_pr F S n) = 0
    by_cases e : t = n
    · subst e
      rw [if_pos hS, hF, Int64.mul_zero]
    · rw [ih (by omega), Int64.zero_mul]
      split <;> rfl
theorem mz_rw_cg {pa on on1 : Int32} (k : Nat) (h : ∀ j, j < k → mz_t pa j = true → mz_t on j = mz_t on1 j) : mz_rw pa on k = mz_rw pa on1 k := by
  induction k with
  | zero => rfl
  | succ k ih =>
    show mz_rw pa on k + _ = mz_rw pa on1 k + _
    rw [ih (fun j hj => h j (by omega))]
    cases e : mz_t pa k
    · rw [if_neg (by intro q; cases q.1), if_neg (by intro q; cases q.1)]
    · rw [h k (by omega) e]
theorem mz_pu_on {fp fb : Nat → Int32} {deed on on1 : Int32} {k : Nat} (h : ∀ j, j < 8 → mz_t (fp k) j = true → mz_t on j = mz_t on1 j) : mz_pu fp fb deed k on = mz_pu fp fb deed k on1 := by
  unfold mz_pu
  rw [mz_rw_cg 8 h]
/-- what thing k gives to the weight of a case -/
def mz_fac (fp fb : Nat → Int32) (deed : Int32) (c k : Nat) : Int64 := if c.testBit k = true then (mz_pu fp fb deed k (nI c)).toInt64 else (100 - mz_pu fp fb deed k (nI c)).toInt64
/-- the weight of a case -/
def mz_wt (n : Nat) (fp fb : Nat → Int32) (deed : Int32) (c : Nat) : Int64 := mz_pr (mz_fac fp fb deed c) (nI (2 ^ n - 1)) n
def mz_cl3 (n : Nat) (fp : Nat → Int32) (came : Int32) : Prop := ∀ k, k < n → mz_t came k = true → ∀ j, j < 32 → mz_t (fp k) j = true → mz_t came j = true
def mz_wv (n : Nat) (fp fb : Nat → Int32) (deed came : Int32) (f : Nat → Int64) : Prop := ∀ c, c < 256 → (∀ j, c.testBit j = true → mz_t came j = true) → f c = mz_pr (mz_fac fp fb deed c) came n
theorem mz_wv_0 {n : Nat} {fp fb : Nat → Int32} {deed : Int32} {f : Nat → Int64} : mz_wv n fp fb deed 0 (vp_updL f 0 1) := by
  intro c hc hs
  have e : c = 0 := by
    apply Nat.eq_of_testBit_eq
    intro j
    cases e : c.testBit j
    · simp
    · have := hs j e
      rw [mz_t_0] at this
      cases this
  subst e
  rw [pk_uLs]
  have h1 : ∀ m, mz_pr (mz_fac fp fb deed 0) 0 m = 1 := by
    intro m
    induction m with
    | zero => rfl
    | succ m ih =>
      show (if mz_t 0 m = true then _ else mz_pr (mz_fac fp fb deed 0) 0 m) = 1
      rw [mz_t_0, if_neg (by decide), ih]
  exact (h1 n).symm
/-- the weights while one more thing is split off: i parts are done -/
def mz_sp (came : Int32) (t : Nat) (P : Nat → Int32) (f0 : Nat → Int64) (i : Nat) (f : Nat → Int64) : Prop := (∀ j, j < i → f (mz_dp came j) = f0 (mz_dp came j) * (100 - P (mz_dp came j)).toInt64 ∧ f (mz_dp came j + 2 ^ t) = f0 (mz_dp came j) * (P (mz_dp came j)).toInt64) ∧ ∀ j, i ≤ j → j < 2 ^ (mz_pc came 8) → f (mz_dp came j) = f0 (mz_dp came j)
theorem mz_sp_0 {came : Int32} {t : Nat} {P : Nat → Int32} {f0 : Nat → Int64} : mz_sp came t P f0 0 f0 := ⟨fun j hj => absurd hj (Nat.not_lt_zero j), fun _ _ _ => rfl⟩
theorem mz_mi256 (t : Nat) (ht : t < 8) (c : Nat) (hc : c < 256) (h : c.testBit t = true) : c - 2 ^ t < 256 ∧ c = c - 2 ^ t + 2 ^ t ∧ (c - 2 ^ t).testBit t = false ∧ ∀ j : Nat, j < 8 → j ≠ t → (c - 2 ^ t).testBit j = c.testBit j := by
  obtain ⟨h1, h2, h3⟩ := mz_ma256 t ht c hc h
  exact ⟨h1, h2, h3, fun j hj hne => mz_mb256 t ht c hc j hj h hne⟩
theorem mz_dp_nt {came : Int32} {t j : Nat} (htc : mz_t came t = false) : (mz_dp came j).testBit t = false := by
  cases e : (mz_dp came j).testBit t
  · rfl
  · have := (mz_dp_in e).2
    rw [htc] at this
    cases this
theorem mz_sp_s {came : Int32} {t i : Nat} {P : Nat → Int32} {f0 f : Nat → Int64} (hh : ∀ j, j < 32 → mz_t came j = true → j < 8) (ht : t < 8) (htc : mz_t came t = false) (hi : i < 2 ^ (mz_pc came 8)) (h : mz_sp came t P f0 i f) : mz_sp came t P f0 (i + 1) (vp_updL (vp_updL f (mz_dp came i + 2 ^ t) (f (mz_dp came i) * (P (mz_dp came i)).toInt64)) (mz_dp came i) (f (mz_dp came i) * (100 - P (mz_dp came i)).toInt64)) := by
  have b0 : ∀ j, (mz_dp came j).testBit t = false := fun j => mz_dp_nt htc
  have b1 : ∀ j, (mz_dp came j + 2 ^ t).testBit t = true := fun j => mz_pl256 t ht _ (mz_dp_lt _ _) (b0 j)
  have ne1 : ∀ j k, mz_dp came j ≠ mz_dp came k + 2 ^ t := by
    intro j k e
    have h1 := b0 j
    rw [e, b1 k] at h1
    cases h1
  constructor
  · intro j hj
    by_cases e : j = i
    · subst e
      have h2 := h.2 j (Nat.le_refl j) hi
      constructor
      · rw [pk_uLs, h2]
      · rw [pk_uLn (fun q => ne1 j j q.symm), pk_uLs, h2]
    · have h2 := h.1 j (by omega)
      have ne2 : mz_dp came j ≠ mz_dp came i := fun q => e (mz_inj hh (by omega) hi q)
      constructor
      · rw [pk_uLn ne2, pk_uLn (ne1 j i)]
        exact h2.1
      · rw [pk_uLn (fun q => ne1 i j q.symm), pk_uLn (fun q => ne2 (by omega))]
        exact h2.2
  · intro j hj hk
    have ne2 : mz_dp came j ≠ mz_dp came i := fun q => absurd (mz_inj hh hk hi q) (by omega)
    rw [pk_uLn ne2, pk_uLn (ne1 j i)]
    exact h.2 j (by omega) hk
theorem mz_ok_t {fp : Nat → Int32} {came : Int32} {t : Nat} (h : mz_ok fp came t = true) : mz_t came t = false ∧ ∀ j, j < 32 → mz_t (fp t) j = true → mz_t came j = true := by
  unfold mz_ok at h
  rw [Bool.and_eq_true] at h
  obtain ⟨h1, h2⟩ := h
  constructor
  · simpa using h1
  · have h3 : (fp t) &&& (came ^^^ (-1)) = 0 := of_decide_eq_true h2
    exact fun j hj hx => mz_sub.mp h3 j hj hx
theorem mz_wv_s {n t : Nat} {fp fb : Nat → Int32} {deed came : Int32} {f0 f : Nat → Int64} (hn : n ≤ 8) (ht : t < n) (hok : mz_ok fp came t = true) (hcl : mz_cl3 n fp came) (hcm : ∀ j, j < 32 → mz_t came j = true → j < n) (h0 : mz_wv n fp fb deed came f0) (hsp : mz_sp came t (fun c => mz_pu fp fb deed t (nI c)) f0 (2 ^ (mz_pc came 8)) f) : mz_wv n fp fb deed (came ||| ((1 : Int32) <<< (nI t &&& 31))) f := by
  obtain ⟨htc, hpa⟩ := mz_ok_t hok
  have hh : ∀ j, j < 32 → mz_t came j = true → j < 8 := fun j hj hx => Nat.lt_of_lt_of_le (hcm j hj hx) hn
  intro c hc hs
  rw [mz_pr_ins n ht (by omega) htc]
  have hor : ∀ j, c.testBit j = true → mz_t came j = true ∨ j = t := by
    intro j hj
    have h1 := hs j hj
    rw [mz_t_or, mz_t_1 (by omega), Bool.or_eq_true] at h1
    rcases h1 with h1 | h1
    · exact Or.inl h1
    · exact Or.inr (by simpa using h1)
  cases e : c.testBit t
  · have hs1 : ∀ j, c.testBit j = true → mz_t came j = true := by
      intro j hj
      rcases hor j hj with h1 | h1
      · exact h1
      · subst h1
        rw [e] at hj
        cases hj
    obtain ⟨i, hi, hd⟩ := mz_sur hh hc hs1
    have h1 := (hsp.1 i hi).1
    rw [hd] at h1
    rw [h1, h0 c hc hs1]
    have h2 : mz_fac fp fb deed c t = (100 - mz_pu fp fb deed t (nI c)).toInt64 := by
      unfold mz_fac
      rw [e, if_neg (by decide)]
    rw [h2]
  · obtain ⟨d1, d2, d3, d4⟩ := mz_mi256 t (by omega) c hc e
    generalize c - 2 ^ t = d at d1 d2 d3 d4
    have hs1 : ∀ j, d.testBit j = true → mz_t came j = true := by
      intro j hj
      have hj8 : j < 8 := by
        rcases Nat.lt_or_ge j 8 with q | q
        · exact q
        · rw [Nat.testBit_lt_two_pow (Nat.lt_of_lt_of_le d1 (by
            have : 2 ^ 8 ≤ 2 ^ j := Nat.pow_le_pow_right (by decide) q
            exact this))] at hj
          cases hj
      have hjt : j ≠ t := by
        intro q
        subst q
        rw [d3] at hj
        cases hj
      rw [d4 j hj8 hjt] at hj
      rcases hor j hj with h1 | h1
      · exact h1
      · exact absurd h1 hjt
    have bits : ∀ j, j < 8 → mz_t came j = true → mz_t (nI d) j = mz_t (nI c) j := by
      intro j hj hx
      have hjt : j ≠ t := by
        intro q
        subst q
        rw [htc] at hx
        cases hx
      rw [mz_t_nI (by omega), mz_t_nI (by omega), d4 j hj hjt]
    obtain ⟨i, hi, hd⟩ := mz_sur hh d1 hs1
    have h1 := (hsp.1 i hi).2
    rw [hd, ← d2] at h1
    rw [h1, h0 d d1 hs1]
    have h2 : mz_fac fp fb deed c t = (mz_pu fp fb deed t (nI d)).toInt64 := by
      unfold mz_fac
      rw [e, if_pos rfl, mz_pu_on (on := nI c) (on1 := nI d) (fun j hj hx => (bits j hj (hpa j (by omega) hx)).symm)]
    rw [h2]
    congr 1
    apply mz_pr_cg n (fun _ _ => rfl)
    intro k hk hx
    have hkt : k ≠ t := by
      intro q
      subst q
      rw [htc] at hx
      cases hx
    unfold mz_fac
    rw [d4 k (by omega) hkt, mz_pu_on (on := nI d) (on1 := nI c) (fun j hj hy => bits j hj (hcl k hk hx j (by omega) hy))]
theorem mz_cl3_s {n t : Nat} {fp : Nat → Int32} {came : Int32} (hok : mz_ok fp came t = true) (ht : t < 32) (h : mz_cl3 n fp came) : mz_cl3 n fp (came ||| ((1 : Int32) <<< (nI t &&& 31))) := by
  obtain ⟨htc, hpa⟩ := mz_ok_t hok
  intro k hk hx j hj hy
  rw [mz_t_or, mz_t_1 ht, Bool.or_eq_true] at hx ⊢
  rcases hx with hx | hx
  · exact Or.inl (h k hk hx j hj hy)
  · have e : k = t := by simpa using hx
    subst e
    exact Or.inl (hpa j hj hy)
theorem mz_cl3_0 {n : Nat} {fp : Nat → Int32} : mz_cl3 n fp 0 := by
  intro k hk hx
  rw [mz_t_0] at hx
  cases hx
theorem mz_wv_end {n : Nat} {fp fb : Nat → Int32} {deed came : Int32} {f : Nat → Int64} (hn : n ≤ 8) (hfull : mz_un came n = 0) (h : mz_wv n fp fb deed came f) : ∀ c, c < 2 ^ n → f c = mz_wt n fp fb deed c := by
  have full : ∀ k, k < n → mz_t came k = true := by
    intro k hk
    cases e : mz_t came k
    · have := mz_un_set (F := came) (k := k) ((mz_b0 (show k < 32 by omega)).mpr e) (n := n) (by omega) hk
      omega
    · rfl
  intro c hc
  have h256 := mz_2n hn
  rw [h c (by omega) (fun j hj => by
    rcases Nat.lt_or_ge j n with q | q
    · exact full j q
    · rw [Nat.testBit_lt_two_pow (Nat.lt_of_lt_of_le hc (Nat.pow_le_pow_right (by decide) q))] at hj
      cases hj)]
  unfold mz_wt
  exact mz_pr_cg n (fun k hk => by rw [full k hk, mz_t_all hn (by omega)]; simpa using hk) (fun _ _ _ => rfl)
/-! what is summed -/
theorem mz_pc_up {x : Int32} {n : Nat} (hn : n ≤ 8) (hb : ∀ q, q < 32 → mz_t x q = true → q < n) : mz_pc x n = mz_pc x 8 := by
  have h1 : ∀ d, n + d ≤ 8 → mz_pc x (n + d) = mz_pc x n := by
    intro d
    induction d with
    | zero => intro _; rfl
    | succ d ih =>
      intro h
      have h2 : mz_t x (n + d) = false := by
        cases e : mz_t x (n + d)
        · rfl
        · have := hb (n + d) (by omega) e
          omega
      rw [← ih (by omega)]
      exact mz_pc_n h2
  have h2 := h1 (8 - n) (by omega)
  rw [show n + (8 - n) = 8 by omega] at h2
  exact h2.symm
theorem mz_bn_up {P : Nat → Bool} {n : Nat} (hn : n ≤ 8) (hb : ∀ q, n ≤ q → q < 8 → P q = false) : mz_bn P n = mz_bn P 8 := by
  have h1 : ∀ d, n + d ≤ 8 → mz_bn P (n + d) = mz_bn P n := by
    intro d
    induction d with
    | zero => intro _; rfl
    | succ d ih =>
      intro h
      show mz_bn P (n + d) + (if P (n + d) = true then 2 ^ (n + d) else 0) = _
      rw [ih (by omega), hb (n + d) (by omega) (by omega), if_neg (by decide), Nat.add_zero]
  have h2 := h1 (8 - n) (by omega)
  rw [show n + (8 - n) = 8 by omega] at h2
  exact h2.symm
/-- the case at which a sum reads: what is 1 by the setting, and the i-th part of what is free -/
def mz_hx (f o : Int32) (i : Nat) : Nat := mz_bn (fun j => mz_t o j || mz_db f i j) 8
theorem mz_hx_lt (f o : Int32) (i : Nat) : mz_hx f o i < 256 := mz_bn_lt _ 8
theorem mz_hx_i {f o : Int32} {i : Nat} : (o ||| nI (mz_dp f i)) &&& 255 = nI (mz_hx f o i) := by
  have h1 := mz_dp_lt f i
  have h2 := mz_hx_lt f o i
  apply mz_t_eq
  intro j hj
  rw [mz_t_and, mz_t_or, mz_t_255 hj, mz_t_nI (by omega), mz_t_nI (by omega)]
  unfold mz_dp mz_hx
  rw [mz_bn_t, mz_bn_t]
  by_cases c : j < 8
  · simp [c]
  · simp [c]
theorem mz_fr8 {E : Nat} {x : Int32} (hE : E < 256) : ∀ j, j < 32 → mz_t (nI E &&& x) j = true → j < 8 := by
  intro j hj h
  rw [mz_t_and, mz_t_nI (by omega), Bool.and_eq_true] at h
  rcases Nat.lt_or_ge j 8 with q | q
  · exact q
  · rw [Nat.testBit_lt_two_pow (Nat.lt_of_lt_of_le hE (by
      have : 2 ^ 8 ≤ 2 ^ j := Nat.pow_le_pow_right (by decide) q
      exact this))] at h
    cases h.1
def mz_hv (e : Int32) (fw : Nat → Int64) (h o : Int32) : Int64 := mz_su (fun i => fw (mz_hx (e &&& (h ^^^ (-1))) o i)) (2 ^ (mz_pc (e &&& (h ^^^ (-1))) 8))
theorem mz_hv_cs {n : Nat} {fw : Nat → Int64} {h o : Int32} (hn : n ≤ 8) (hh : mz_hp n h) (ho : ∀ j, j < 32 → mz_t o j = true → mz_t h j = true) : mz_hv (nI (2 ^ n - 1)) fw h o = mz_cs fw h o n := by
  obtain ⟨F, hF⟩ : ∃ F : Int32, F = nI (2 ^ n - 1) &&& (h ^^^ (-1)) := ⟨_, rfl⟩
  have bF : ∀ j, j < 32 → mz_t F j = (decide (j < n) && !mz_t h j) := by
    intro j hj
    rw [hF, mz_t_and, mz_t_all hn hj, mz_t_not hj]
  have e0 : mz_cs fw h o n = mz_T fw h o n 0 := by
    rw [← mz_T_cs]
    unfold mz_cs
    exact mz_su_cg _ (fun c _ => by rw [Nat.zero_add])
  rw [e0, ← mz_T_dp fw h o F n 0 (fun j hj => by rw [bF j (by omega)]; simp [hj])]
  unfold mz_hv
  rw [← hF, mz_pc_up hn (fun q hq hx => by
    rw [bF q hq, Bool.and_eq_true] at hx
    simpa using hx.1)]
  apply mz_su_cg
  intro i hi
  rw [Nat.zero_add]
  congr 1
  unfold mz_hx
  rw [← mz_bn_up hn (fun q h1 h2 => by
    have a1 : mz_t o q = false := by
      cases e : mz_t o q
      · rfl
      · have := hh q (by omega) (ho q (by omega) e)
        omega
    have a2 : mz_t F q = false := by
      rw [bF q (by omega)]
      simp [show ¬ q < n by omega]
    unfold mz_db
    rw [a1, a2]
    rfl)]
  apply mz_bn_cg
  intro j hj
  unfold mz_hb
  cases e : mz_t o j
  · simp
  · rw [ho j (by omega) e]
    simp
theorem mz_cs_cg {f g : Nat → Int64} {h o : Int32} {n : Nat} (e : ∀ c, c < 2 ^ n → f c = g c) : mz_cs f h o n = mz_cs g h o n := by
  unfold mz_cs
  exact mz_su_cg _ (fun c hc => by rw [e c hc])
theorem mz_set_ho {n : Nat} {s : Int32} (h : mz_stg n s) : ∀ j, j < 32 → mz_t ((s >>> ((8 : Int32) &&& 31)) &&& 255) j = true → mz_t (s &&& 255) j = true := by
  intro j hj hx
  have h8 := mz_t_and8 hj hx
  rw [mz_t_ones h8] at hx
  rw [mz_t_heap h8]
  exact h.2.2 j h8 hx
theorem mz_hv_wt {n : Nat} {fp fb : Nat → Int32} {s d : Int32} {gw : Nat → Int64} (hn : n ≤ 8) (hs : mz_stg n s) (hg : ∀ c, c < 2 ^ n → gw c = mz_wt n fp fb d c) : mz_hv (nI (2 ^ n - 1)) gw (s &&& 255) ((s >>> ((8 : Int32) &&& 31)) &&& 255) = mz_cs (mz_wt n fp fb d) (s &&& 255) ((s >>> ((8 : Int32) &&& 31)) &&& 255) n := by
  rw [mz_hv_cs hn (mz_set_hp hs) (mz_set_ho hs)]
  exact mz_cs_cg hg
theorem mz_un_le (F : Int32) (n : Nat) : mz_un F n ≤ n := by
  induction n with
  | zero => exact Nat.le_refl _
  | succ n ih =>
    unfold mz_un
    split <;> omega
theorem mz_un_dn {F : Int32} {k n i : Nat} (hn : n ≤ 8) (hk : k < n) (hb : mz_t F k = false) (h : mz_un F n + i ≤ n) : mz_un (F ||| ((1 : Int32) <<< (nI k &&& 31))) n + (i + 1) ≤ n := by
  have := mz_un_set (F := F) (k := k) ((mz_b0 (show k < 32 by omega)).mpr hb) (n := n) (by omega) hk
  omega
/-! as the reference weighs -/
theorem mz_t_xor {a b : Int32} {j : Nat} : mz_t (a ^^^ b) j = (mz_t a j ^^ mz_t b j) := by
  unfold mz_t
  rw [Int32.toBitVec_xor, BitVec.getLsbD_xor]
theorem mz_zero {x : Int32} : x = 0 ↔ ∀ j, j < 32 → mz_t x j = false := by
  constructor
  · intro h j hj
    rw [h, mz_t_0]
  · intro h
    exact mz_t_eq (fun j hj => by rw [h j hj, mz_t_0])
theorem mz_agr {c : Nat} {s : Int32} (hc : c < 256) : ((nI c ^^^ (s >>> ((8 : Int32) &&& 31))) &&& s) &&& 255 = 0 ↔ ∀ j, j < 8 → mz_t s j = true → c.testBit j = mz_t s (8 + j) := by
  have hb : ∀ j, j < 8 → mz_t (((nI c ^^^ (s >>> ((8 : Int32) &&& 31))) &&& s) &&& 255) j = ((c.testBit j ^^ mz_t s (8 + j)) && mz_t s j) := by
    intro j hj
    have h1 : mz_t (s >>> ((8 : Int32) &&& 31)) j = mz_t s (8 + j) := mz_t_shr (k := 8) (by decide) (by omega)
    rw [mz_t_and, mz_t_and, mz_t_xor, mz_t_nI (by omega), h1, mz_t_255 (by omega)]
    simp [hj]
  rw [mz_zero]
  constructor
  · intro h j hj hx
    have h1 := h j (by omega)
    rw [hb j hj, hx, Bool.and_true] at h1
    cases e1 : c.testBit j <;> cases e2 : mz_t s (8 + j) <;> simp_all
  · intro h j hj
    by_cases h8 : j < 8
    · rw [hb j h8]
      cases e : mz_t s j
      · simp
      · rw [h j h8 e]
        simp
    · rw [mz_t_and, mz_t_255 hj]
      simp [h8]
theorem mz_cond {n c : Nat} {s : Int32} (hn : n ≤ 8) (hc : c < 2 ^ n) (hs : mz_stg n s) : ((nI c ^^^ (s >>> ((8 : Int32) &&& 31))) &&& s) &&& 255 = 0 ↔ mz_mtc (s &&& 255) ((s >>> ((8 : Int32) &&& 31)) &&& 255) c n = true := by
  have h256 := mz_2n hn
  rw [mz_agr (by omega), mz_mt_iff]
  constructor
  · intro h j hj hx
    rw [mz_t_heap (by omega)] at hx
    rw [mz_t_ones (by omega)]
    exact h j (by omega) hx
  · intro h j hj hx
    have h1 := h j (hs.2.1 j hj hx) (by rw [mz_t_heap hj]; exact hx)
    rw [mz_t_ones hj] at h1
    exact h1
theorem mz_all_t {n k : Nat} (hn : n ≤ 8) (hk : k < n) : mz_t (nI (2 ^ n - 1)) k = true := by
  rw [mz_t_all hn (by omega)]
  simpa using hk
theorem mz_wt_z {n c : Nat} {fp fb : Nat → Int32} {d : Int32} (hn : n ≤ 8) (hc : c < 2 ^ n) (hd : mz_stg n d) (h : ¬ ((nI c ^^^ (d >>> ((8 : Int32) &&& 31))) &&& d) &&& 255 = 0) : 0 = mz_wt n fp fb d c := by
  have h256 := mz_2n hn
  have h1 : ∃ j, j < 8 ∧ mz_t d j = true ∧ ¬ c.testBit j = mz_t d (8 + j) := by
    apply Classical.byContradiction
    intro hno
    apply h
    rw [mz_agr (by omega)]
    intro j hj hx
    apply Classical.byContradiction
    intro q
    exact hno ⟨j, hj, hx, q⟩
  obtain ⟨j, hj, hx, hne⟩ := h1
  have hjn := hd.2.1 j hj hx
  symm
  unfold mz_wt
  apply mz_pr_z n hjn (mz_all_t hn hjn)
  unfold mz_fac mz_pu
  cases e : c.testBit j
  · rw [if_neg (by decide), if_pos hx]
    rw [e] at hne
    cases e2 : mz_t d (8 + j)
    · exact absurd e2.symm hne
    · rfl
  · rw [if_pos rfl, if_pos hx]
    rw [e] at hne
    cases e2 : mz_t d (8 + j)
    · rfl
    · exact absurd e2.symm hne
theorem mz_pr_s {F : Nat → Int64} {S : Int32} {i : Nat} {x y : Int64} (hx : x = mz_pr F S i) (hS : mz_t S i = true) (hy : y = F i) : x * y = mz_pr F S (i + 1) := by
  show _ = if mz_t S i = true then mz_pr F S i * F i else mz_pr F S i
  rw [if_pos hS, hx, hy]
theorem mz_fa_d {fp fb : Nat → Int32} {d : Int32} {c i : Nat} (h1 : mz_t d i = true) (h2 : c.testBit i = mz_t d (8 + i)) : 100 = mz_fac fp fb d c i := by
  unfold mz_fac mz_pu
  rw [if_pos h1, h2]
  cases mz_t d (8 + i) <;> rfl
theorem mz_fa_1 {fp fb : Nat → Int32} {d : Int32} {c i : Nat} {v : Int64} (h1 : mz_t d i = false) (h2 : c.testBit i = true) (e : v = (fb (128 * i + mz_rw (fp i) (nI c) 8)).toInt64) : v = mz_fac fp fb d c i := by
  have q : mz_pu fp fb d i (nI c) = fb (128 * i + mz_rw (fp i) (nI c) 8) := by
    unfold mz_pu
    rw [if_neg (by rw [h1]; decide)]
  unfold mz_fac
  rw [q, if_pos h2, e]
theorem mz_fa_0 {fp fb : Nat → Int32} {d : Int32} {c i : Nat} {v : Int64} (h1 : mz_t d i = false) (h2 : c.testBit i = false) (e : v = (100 - fb (128 * i + mz_rw (fp i) (nI c) 8)).toInt64) : v = mz_fac fp fb d c i := by
  have q : mz_pu fp fb d i (nI c) = fb (128 * i + mz_rw (fp i) (nI c) 8) := by
    unfold mz_pu
    rw [if_neg (by rw [h1]; decide)]
  unfold mz_fac
  rw [q, if_neg (by rw [h2]; decide), e]
theorem mz_tc_y {c i : Nat} (hc : c < 256) (hi : i < 32) (h : ((nI c) >>> (nI i &&& 31)) &&& 1 = 1) : c.testBit i = true := by
  rw [← mz_t_nI (a := c) (by omega)]
  exact mz_t_y hi h
theorem mz_tc_n {c i : Nat} (hc : c < 256) (hi : i < 32) (h : ¬ ((nI c) >>> (nI i &&& 31)) &&& 1 = 1) : c.testBit i = false := by
  rw [← mz_t_nI (a := c) (by omega)]
  exact mz_t_n hi h
theorem mz_su_y {g : Nat → Int64} {P : Nat → Bool} {i : Nat} {x y : Int64} (hx : x = mz_su (fun c => if P c = true then g c else 0) i) (hP : P i = true) (hy : y = g i) : x + y = mz_su (fun c => if P c = true then g c else 0) (i + 1) := by
  show _ = mz_su (fun c => if P c = true then g c else 0) i + (if P i = true then g i else 0)
  rw [if_pos hP, hx, hy]
theorem mz_su_n {g : Nat → Int64} {P : Nat → Bool} {i : Nat} {x : Int64} (hx : x = mz_su (fun c => if P c = true then g c else 0) i) (hP : ¬ P i = true) : x = mz_su (fun c => if P c = true then g c else 0) (i + 1) := by
  show _ = mz_su (fun c => if P c = true then g c else 0) i + (if P i = true then g i else 0)
  rw [if_neg hP, Int64.add_zero]
  exact hx
theorem mz_wt_cg {n : Nat} {fp fb gp gb : Nat → Int32} {d : Int32} (hp : ∀ k, k < n → fp k = gp k) (hb : mz_be n fb gb) (hr : ∀ k, k < n → ∀ on, mz_rw (fp k) on 8 < 128) : mz_wt n gp gb d = mz_wt n fp fb d := by
  funext c
  unfold mz_wt
  apply mz_pr_cg n (fun _ _ => rfl)
  intro k hk _
  unfold mz_fac
  rw [mz_pu_cg hk hp hb hr]
theorem mz_lcs (x : Int64) : lg_cmp x x = 0 := by simp [lg_cmp]
