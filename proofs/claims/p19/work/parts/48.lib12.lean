/-! ways: walks that are open, and that the shortest one comes to nothing twice -/
/-- is there an arrow from i to j? -/
def mz_ar (G : Nat → Int32) (i j : Nat) : Bool := mz_t (G j) i
/-- a drawing in which nothing leads round has a rank for each thing -/
theorem mz_rank {n : Nat} {G : Nat → Int32} (hn : n ≤ 8) (ha : mz_acy n G) : ∃ rk : Nat → Nat, ∀ i j, i < n → j < n → mz_ar G i j = true → rk i < rk j := by
  have step : ∀ i, i ≤ n → ∃ (S : Int32) (rk : Nat → Nat), n ≤ mz_un S n + i ∧ mz_un S n + i ≤ n ∧ (∀ k, k < n → mz_t S k = true → rk k < i) ∧ (∀ k, k < n → mz_t S k = true → ∀ q, q < n → mz_ar G q k = true → mz_t S q = true ∧ rk q < rk k) := by
    intro i
    induction i with
    | zero =>
      intro _
      refine ⟨0, fun _ => 0, mz_un_0 hn, mz_un_le _ n, fun k _ h => ?_, fun k _ h => ?_⟩
      · rw [mz_t_0] at h
        cases h
      · rw [mz_t_0] at h
        cases h
    | succ i ih =>
      intro hi
      obtain ⟨S, rk, s1, s2, s3, s4⟩ := ih (by omega)
      obtain ⟨t, t1, t2⟩ := mz_ok_ex ha hn s1 (by omega)
      obtain ⟨o1, o2⟩ := mz_ok_t t2
      have bs : ∀ k, k < n → mz_t (S ||| ((1 : Int32) <<< (nI t &&& 31))) k = true → k = t ∨ (k ≠ t ∧ mz_t S k = true) := by
        intro k hk h
        rw [mz_t_or, mz_t_1 (by omega), Bool.or_eq_true] at h
        by_cases e : k = t
        · exact Or.inl e
        · rcases h with h | h
          · exact Or.inr ⟨e, h⟩
          · exact absurd (by simpa using h) e
      have sb : ∀ k, mz_t S k = true → mz_t (S ||| ((1 : Int32) <<< (nI t &&& 31))) k = true := by
        intro k h
        rw [mz_t_or, h]
        rfl
      refine ⟨S ||| ((1 : Int32) <<< (nI t &&& 31)), fun k => if k = t then i else rk k, mz_un_next hn t1 s1, mz_un_dn hn t1 o1 s2, fun k hk h => ?_, fun k hk h q hq hx => ?_⟩
      · rcases bs k hk h with e | ⟨e, h2⟩
        · show (if k = t then i else rk k) < i + 1
          rw [if_pos e]
          omega
        · have := s3 k hk h2
          show (if k = t then i else rk k) < i + 1
          rw [if_neg e]
          omega
      · show _ ∧ (if q = t then i else rk q) < (if k = t then i else rk k)
        rcases bs k hk h with e | ⟨e, h2⟩
        · subst e
          have hq2 : mz_t S q = true := o2 q (by omega) hx
          have hqt : q ≠ k := by
            intro e
            subst e
            rw [o1] at hq2
            cases hq2
          rw [if_neg hqt, if_pos rfl]
          exact ⟨sb q hq2, s3 q hq hq2⟩
        · obtain ⟨a1, a2⟩ := s4 k hk h2 q hq hx
          have hqt : q ≠ t := by
            intro e2
            subst e2
            rw [o1] at a1
            cases a1
          rw [if_neg hqt, if_neg e]
          exact ⟨sb q a1, a2⟩
  obtain ⟨S, rk, s1, s2, s3, s4⟩ := step n (Nat.le_refl n)
  refine ⟨rk, fun i j hi hj hx => ?_⟩
  have full : mz_t S j = true := by
    cases e : mz_t S j
    · have := mz_un_set (F := S) (k := j) ((mz_b0 (show j < 32 by omega)).mpr e) (n := n) (by omega) hj
      omega
    · rfl
  exact (s4 j hj full i hi hx).2
/-- two things are joined -/
def mz_jn (G : Nat → Int32) (i j : Nat) : Prop := mz_ar G i j = true ∨ mz_ar G j i = true
/-- a walk is open at its k-th thing -/
def mz_opn (G : Nat → Int32) (z : Int32) (M : Nat → Prop) (w : Nat → Nat) (k : Nat) : Prop := (mz_ar G (w (k - 1)) (w k) = true ∧ mz_ar G (w (k + 1)) (w k) = true → M (w k)) ∧ (¬ (mz_ar G (w (k - 1)) (w k) = true ∧ mz_ar G (w (k + 1)) (w k) = true) → mz_t z (w k) = false)
/-- an open walk of m steps -/
def mz_wk (n : Nat) (G : Nat → Int32) (z : Int32) (M : Nat → Prop) (m : Nat) (w : Nat → Nat) : Prop := (∀ k, k ≤ m → w k < n) ∧ (∀ k, k < m → mz_jn G (w k) (w (k + 1))) ∧ ∀ k, 0 < k → k < m → mz_opn G z M w k
/-- what lies between two comings to one thing can be left out -/
theorem mz_splice {n : Nat} {G : Nat → Int32} {z : Int32} {M : Nat → Prop} {m p q : Nat} {w rk : Nat → Nat} (hr : ∀ i j, i < n → j < n → mz_ar G i j = true → rk i < rk j) (hM : ∀ i j, i < n → j < n → mz_ar G i j = true → M j → M i) (hw : mz_wk n G z M m w) (hpq : p < q) (hqm : q ≤ m) (e : w p = w q) : mz_wk n G z M (m - (q - p)) (fun k => if k ≤ p then w k else w (k + (q - p))) := by
  obtain ⟨h1, h2, h3⟩ := hw
  have two : ∀ i j, i < n → j < n → mz_ar G i j = true → mz_ar G j i = true → False := by
    intro i j hi hj a b
    have := hr i j hi hj a
    have := hr j i hj hi b
    omega
  have lo : ∀ k, k ≤ p → (fun k => if k ≤ p then w k else w (k + (q - p))) k = w k := fun k hk => if_pos hk
  have hi : ∀ k, p ≤ k → (fun k => if k ≤ p then w k else w (k + (q - p))) k = w (k + (q - p)) := by
    intro k hk
    by_cases c : k ≤ p
    · have : k = p := by omega
      subst this
      show (if k ≤ k then w k else _) = _
      rw [if_pos (Nat.le_refl k), e]
      congr 1
      omega
    · exact if_neg c
  generalize (fun k => if k ≤ p then w k else w (k + (q - p))) = v at lo hi ⊢
  refine ⟨fun k hk => ?_, fun k hk => ?_, fun k hk0 hk => ?_⟩
  · rcases Nat.lt_or_ge p k with c | c
    · rw [hi k (by omega)]
      exact h1 _ (by omega)
    · rw [lo k c]
      exact h1 k (by omega)
  · rcases Nat.lt_or_ge k p with c | c
    · rw [lo k (by omega), lo (k + 1) (by omega)]
      exact h2 k (by omega)
    · rw [hi k c, hi (k + 1) (by omega), show k + 1 + (q - p) = k + (q - p) + 1 by omega]
      exact h2 _ (by omega)
  · rcases Nat.lt_trichotomy k p with c | c | c
    · unfold mz_opn
      rw [lo k (by omega), lo (k - 1) (by omega), lo (k + 1) (by omega)]
      exact h3 k hk0 (by omega)
    · subst c
      have hqm2 : q < m := by omega
      have hkm : k < m := by omega
      have A := h3 k hk0 hkm
      have B := h3 q (by omega) hqm2
      unfold mz_opn at A B ⊢
      rw [lo k (Nat.le_refl k), lo (k - 1) (by omega), hi (k + 1) (by omega), show k + 1 + (q - k) = q + 1 by omega]
      rw [← e] at B
      have wk := h1 k (by omega)
      constructor
      · intro ⟨c1, c2⟩
        -- a meeting: either it was one at the first coming, or the walk goes down to one
        cases c3 : mz_ar G (w (k + 1)) (w k)
        · have down : mz_ar G (w k) (w (k + 1)) = true := by
            rcases h2 k hkm with x | x
            · exact x
            · rw [c3] at x
              cases x
          -- along the walk, as long as it goes down
          have go : ∀ d s, s + d = q → k < s → mz_ar G (w (s - 1)) (w s) = true → rk (w k) < rk (w s) → (M (w s) → M (w k)) → M (w k) := by
            intro d
            induction d with
            | zero =>
              intro s hs hks _ hrk _
              have : s = q := by omega
              subst this
              rw [← e] at hrk
              omega
            | succ d ih =>
              intro s hs hks hin hrk hMM
              have hsm : s < m := by omega
              cases c4 : mz_ar G (w (s + 1)) (w s)
              · have dn : mz_ar G (w s) (w (s + 1)) = true := by
                  rcases h2 s hsm with x | x
                  · exact x
                  · rw [c4] at x
                    cases x
                have r1 := hr (w s) (w (s + 1)) (h1 s (by omega)) (h1 (s + 1) (by omega)) dn
                exact ih (s + 1) (by omega) (by omega) (by rw [show s + 1 - 1 = s by omega]; exact dn) (by omega) (fun x => hMM (hM (w s) (w (s + 1)) (h1 s (by omega)) (h1 (s + 1) (by omega)) dn x))
              · exact hMM ((h3 s (by omega) hsm).1 ⟨hin, c4⟩)
          have r0 := hr (w k) (w (k + 1)) wk (h1 (k + 1) (by omega)) down
          exact go (q - (k + 1)) (k + 1) (by omega) (by omega) (by rw [show k + 1 - 1 = k by omega]; exact down) r0 (hM (w k) (w (k + 1)) wk (h1 (k + 1) (by omega)) down)
        · exact A.1 ⟨c1, c3⟩
      · intro c1
        by_cases c2 : mz_ar G (w (k - 1)) (w k) = true
        · -- then the arrow to what comes after goes out
          have c3 : ¬ mz_ar G (w (q + 1)) (w k) = true := fun x => c1 ⟨c2, x⟩
          exact B.2 (fun x => c3 x.2)
        · exact A.2 (fun x => c2 x.1)
    · unfold mz_opn
      rw [hi k (by omega), hi (k - 1) (by omega), hi (k + 1) (by omega), show k - 1 + (q - p) = k + (q - p) - 1 by omega, show k + 1 + (q - p) = k + (q - p) + 1 by omega]
      exact h3 _ (by omega) (by omega)
/-- from an open walk to one that comes to nothing twice -/
theorem mz_short {n : Nat} {G : Nat → Int32} {z : Int32} {M : Nat → Prop} {rk : Nat → Nat} (hr : ∀ i j, i < n → j < n → mz_ar G i j = true → rk i < rk j) (hM : ∀ i j, i < n → j < n → mz_ar G i j = true → M j → M i) (m : Nat) : ∀ (w : Nat → Nat), mz_wk n G z M m w → ∃ (m1 : Nat) (v : Nat → Nat), mz_wk n G z M m1 v ∧ v 0 = w 0 ∧ v m1 = w m ∧ ∀ p q, p < q → q ≤ m1 → v p ≠ v q := by
  induction m using Nat.strongRecOn with
  | _ m ih =>
    intro w hw
    by_cases c : ∀ p q, p < q → q ≤ m → w p ≠ w q
    · exact ⟨m, w, hw, rfl, rfl, c⟩
    · have c2 : ∃ p q, p < q ∧ q ≤ m ∧ w p = w q := by
        apply Classical.byContradiction
        intro no
        exact c (fun p q h1 h2 h3 => no ⟨p, q, h1, h2, h3⟩)
      obtain ⟨p, q, h1, h2, h3⟩ := c2
      obtain ⟨m1, v, v1, v2, v3, v4⟩ := ih (m - (q - p)) (by omega) _ (mz_splice hr hM hw h1 h2 h3)
      refine ⟨m1, v, v1, ?_, ?_, v4⟩
      · rw [v2]
        show (if 0 ≤ p then w 0 else _) = w 0
        rw [if_pos (Nat.zero_le p)]
      · rw [v3]
        show (if m - (q - p) ≤ p then w (m - (q - p)) else w (m - (q - p) + (q - p))) = w m
        by_cases c3 : m - (q - p) ≤ p
        · rw [if_pos c3]
          have e1 : m - (q - p) = p := by omega
          have e2 : q = m := by omega
          rw [e1, h3, e2]
        · rw [if_neg c3]
          congr 1
          omega
/-! what the class reckons: the least two heaps closed under its rules hold what open walks come to -/
/-- the rules: a up to parents, down to children; C from a child (or the start), F from a parent -/
def mz_br (G H : Nat → Int32) (a z M C F : Int32) : Prop := mz_ss a C ∧ (∀ v, v < 8 → (mz_t C v = true ∧ mz_t z v = false) ∨ (mz_t F v = true ∧ mz_t M v = true) → mz_ss (G v) C) ∧ ∀ v, v < 8 → (mz_t C v = true ∨ mz_t F v = true) → mz_t z v = false → mz_ss (H v) F
/-- the least such -/
def mz_brl (G H : Nat → Int32) (a z M C F : Int32) : Prop := mz_br G H a z M C F ∧ ∀ C1 F1 : Int32, mz_br G H a z M C1 F1 → mz_ss C C1 ∧ mz_ss F F1
/-- a heap of the things below n that have a property -/
theorem mz_comp (n : Nat) (P : Nat → Prop) : ∃ S : Int32, ∀ j, j < 32 → (mz_t S j = true ↔ j < n ∧ P j) := by
  have h : ∀ m, ∃ S : Int32, ∀ j, j < 32 → (mz_t S j = true ↔ j < m ∧ j < n ∧ P j) := by
    intro m
    induction m with
    | zero =>
      refine ⟨0, fun j hj => ?_⟩
      rw [mz_t_0]
      constructor
      · intro q
        cases q
      · intro q
        omega
    | succ m ih =>
      obtain ⟨S, hS⟩ := ih
      by_cases c : m < 32 ∧ m < n ∧ P m
      · refine ⟨S ||| ((1 : Int32) <<< (nI m &&& 31)), fun j hj => ?_⟩
        rw [mz_t_or, mz_t_1 c.1, Bool.or_eq_true, hS j hj]
        constructor
        · intro q
          rcases q with q | q
          · exact ⟨by omega, q.2⟩
          · have e : j = m := by simpa using q
            subst e
            exact ⟨by omega, c.2⟩
        · intro ⟨q1, q2⟩
          by_cases e : j = m
          · exact Or.inr (by simpa using e)
          · exact Or.inl ⟨by omega, q2⟩
      · refine ⟨S, fun j hj => ?_⟩
        rw [hS j hj]
        constructor
        · intro ⟨q1, q2⟩
          exact ⟨by omega, q2⟩
        · intro ⟨q1, q2⟩
          by_cases e : j = m
          · subst e
            exact absurd ⟨hj, q2⟩ c
          · exact ⟨by omega, q2⟩
  obtain ⟨S, hS⟩ := h 32
  exact ⟨S, fun j hj => by
    rw [hS j hj]
    constructor
    · intro q
      exact q.2
    · intro q
      exact ⟨hj, q⟩⟩
/-- one step more on a walk -/
theorem mz_wk_more {n m u : Nat} {G : Nat → Int32} {z : Int32} {M : Nat → Prop} {w : Nat → Nat} (hw : mz_wk n G z M m w) (hu : u < n) (hj : mz_jn G (w m) u) (ho : 0 < m → (mz_ar G (w (m - 1)) (w m) = true ∧ mz_ar G u (w m) = true → M (w m)) ∧ (¬ (mz_ar G (w (m - 1)) (w m) = true ∧ mz_ar G u (w m) = true) → mz_t z (w m) = false)) : mz_wk n G z M (m + 1) (mz_up w (m + 1) u) := by
  obtain ⟨h1, h2, h3⟩ := hw
  have lo : ∀ k, k ≤ m → mz_up w (m + 1) u k = w k := fun k hk => mz_up_n w u (by omega)
  have top : mz_up w (m + 1) u (m + 1) = u := mz_up_s w (m + 1) u
  refine ⟨fun k hk => ?_, fun k hk => ?_, fun k hk0 hk => ?_⟩
  · by_cases c : k = m + 1
    · rw [c, top]
      exact hu
    · rw [lo k (by omega)]
      exact h1 k (by omega)
  · by_cases c : k = m
    · rw [c, lo m (Nat.le_refl m), top]
      exact hj
    · rw [lo k (by omega), lo (k + 1) (by omega)]
      exact h2 k (by omega)
  · unfold mz_opn
    by_cases c : k = m
    · subst c
      rw [lo k (Nat.le_refl k), lo (k - 1) (by omega), top]
      exact ho hk0
    · rw [lo k (by omega), lo (k - 1) (by omega), lo (k + 1) (by omega)]
      exact h3 k hk0 (by omega)
/-- soundness: what the class comes to, an open walk comes to -/
theorem mz_br_walk {n : Nat} {G H : Nat → Int32} {a z M C F : Int32} {rk : Nat → Nat} (hn : n ≤ 8) (hr : ∀ i j, i < n → j < n → mz_ar G i j = true → rk i < rk j) (hG : ∀ k, k < n → ∀ j, j < 32 → mz_t (G k) j = true → j < n) (hH : ∀ k, k < 8 → ∀ j, j < 32 → mz_t (H k) j = true → j < n ∧ k < n ∧ mz_ar G k j = true) (ha : mz_hp n a) (hl : mz_brl G H a z M C F) : ∀ v, v < 32 → mz_t C v = true ∨ mz_t F v = true → ∃ m w, mz_wk n G z (fun v => mz_t M v = true) m w ∧ mz_t a (w 0) = true ∧ w m = v := by
  have two : ∀ i j, i < n → j < n → mz_ar G i j = true → mz_ar G j i = true → False := by
    intro i j hi hj x y
    have := hr i j hi hj x
    have := hr j i hj hi y
    omega
  obtain ⟨C1, hC1⟩ := mz_comp n (fun v => ∃ m w, mz_wk n G z (fun v => mz_t M v = true) m w ∧ mz_t a (w 0) = true ∧ w m = v ∧ (m = 0 ∨ mz_ar G (w m) (w (m - 1)) = true))
  obtain ⟨F1, hF1⟩ := mz_comp n (fun v => ∃ m w, mz_wk n G z (fun v => mz_t M v = true) m w ∧ mz_t a (w 0) = true ∧ w m = v ∧ 0 < m ∧ mz_ar G (w (m - 1)) (w m) = true)
  have cl : mz_br G H a z M C1 F1 := by
    refine ⟨fun j hj hx => ?_, fun v hv hx u hu hy => ?_, fun v hv hx hz u hu hy => ?_⟩
    · have hjn := ha j hj hx
      refine (hC1 j hj).mpr ⟨hjn, 0, fun _ => j, ⟨fun _ _ => hjn, fun k hk => absurd hk (Nat.not_lt_zero k), fun k _ hk => absurd hk (Nat.not_lt_zero k)⟩, hx, rfl, Or.inl rfl⟩
    · -- up
      have up : ∀ m w, mz_wk n G z (fun v => mz_t M v = true) m w → mz_t a (w 0) = true → w m = v → v < n → (0 < m → (mz_ar G (w (m - 1)) (w m) = true ∧ mz_ar G u (w m) = true → mz_t M (w m) = true) ∧ (¬ (mz_ar G (w (m - 1)) (w m) = true ∧ mz_ar G u (w m) = true) → mz_t z (w m) = false)) → mz_t C1 u = true := by
        intro m w w1 w2 w3 hvn w4
        have hun := hG v hvn u hu hy
        have aru : mz_ar G u (w m) = true := by rw [w3]; exact hy
        have wk := mz_wk_more w1 hun (Or.inr aru) w4
        refine (hC1 u hu).mpr ⟨hun, m + 1, _, wk, ?_, mz_up_s w (m + 1) u, Or.inr ?_⟩
        · rw [mz_up_n w u (by omega)]
          exact w2
        · rw [mz_up_s w (m + 1) u, show m + 1 - 1 = m by omega, mz_up_n w u (by omega)]
          exact aru
      rcases hx with ⟨hx, hz⟩ | ⟨hx, hM⟩
      · obtain ⟨hvn, m, w, w1, w2, w3, w4⟩ := (hC1 v (by omega)).mp hx
        refine up m w w1 w2 w3 hvn (fun hm => ⟨fun q => ?_, fun _ => by rw [w3]; exact hz⟩)
        rcases w4 with w4 | w4
        · omega
        · exact (two _ _ (w1.1 (m - 1) (by omega)) (w1.1 m (Nat.le_refl m)) q.1 w4).elim
      · obtain ⟨hvn, m, w, w1, w2, w3, w4, w5⟩ := (hF1 v (by omega)).mp hx
        refine up m w w1 w2 w3 hvn (fun _ => ⟨fun _ => by rw [w3]; exact hM, fun q => ?_⟩)
        exact absurd ⟨w5, by rw [w3]; exact hy⟩ q
    · -- down
      obtain ⟨hun, hvn, har⟩ := hH v hv u hu hy
      have down : ∀ m w, mz_wk n G z (fun v => mz_t M v = true) m w → mz_t a (w 0) = true → w m = v → mz_t F1 u = true := by
        intro m w w1 w2 w3
        have aru : mz_ar G (w m) u = true := by rw [w3]; exact har
        have wk := mz_wk_more w1 hun (Or.inl aru) (fun hm => ⟨fun q => (two _ _ (w1.1 m (Nat.le_refl m)) hun aru q.2).elim, fun _ => by rw [w3]; exact hz⟩)
        refine (hF1 u hu).mpr ⟨hun, m + 1, _, wk, ?_, mz_up_s w (m + 1) u, by omega, ?_⟩
        · rw [mz_up_n w u (by omega)]
          exact w2
        · rw [mz_up_s w (m + 1) u, show m + 1 - 1 = m by omega, mz_up_n w u (by omega)]
          exact aru
      rcases hx with hx | hx
      · obtain ⟨_, m, w, w1, w2, w3, _⟩ := (hC1 v (by omega)).mp hx
        exact down m w w1 w2 w3
      · obtain ⟨_, m, w, w1, w2, w3, _⟩ := (hF1 v (by omega)).mp hx
        exact down m w w1 w2 w3
  obtain ⟨l1, l2⟩ := hl.2 C1 F1 cl
  intro v hv hx
  rcases hx with hx | hx
  · obtain ⟨_, m, w, w1, w2, w3, _⟩ := (hC1 v hv).mp (l1 v hv hx)
    exact ⟨m, w, w1, w2, w3⟩
  · obtain ⟨_, m, w, w1, w2, w3, _⟩ := (hF1 v hv).mp (l2 v hv hx)
    exact ⟨m, w, w1, w2, w3⟩
/-- completeness: what an open walk comes to, the class comes to -/
theorem mz_walk_br {n : Nat} {G H : Nat → Int32} {a z M C F : Int32} {rk : Nat → Nat} (hn : n ≤ 8) (hr : ∀ i j, i < n → j < n → mz_ar G i j = true → rk i < rk j) (hH : ∀ i j, i < n → j < n → mz_ar G i j = true → mz_t (H i) j = true) (haz : ∀ j, j < 32 → mz_t a j = true → mz_t z j = false) (hb : mz_br G H a z M C F) {m : Nat} {w : Nat → Nat} (hw : mz_wk n G z (fun v => mz_t M v = true) m w) (h0 : mz_t a (w 0) = true) : mz_t C (w m) = true ∨ mz_t F (w m) = true := by
  obtain ⟨b1, b2, b3⟩ := hb
  obtain ⟨h1, h2, h3⟩ := hw
  have two : ∀ i j, i < n → j < n → mz_ar G i j = true → mz_ar G j i = true → False := by
    intro i j hi hj x y
    have := hr i j hi hj x
    have := hr j i hj hi y
    omega
  have st : ∀ k, k ≤ m → (k = 0 ∧ mz_t C (w k) = true) ∨ (0 < k ∧ mz_ar G (w k) (w (k - 1)) = true ∧ mz_t C (w k) = true) ∨ (0 < k ∧ mz_ar G (w (k - 1)) (w k) = true ∧ mz_t F (w k) = true) := by
    intro k
    induction k with
    | zero =>
      intro _
      have := h1 0 (Nat.zero_le m)
      exact Or.inl ⟨rfl, b1 (w 0) (by omega) h0⟩
    | succ k ih =>
      intro hk
      have wk := h1 k (by omega)
      have wk1 := h1 (k + 1) hk
      have i0 := ih (by omega)
      have hz : 0 < k → ¬ (mz_ar G (w (k - 1)) (w k) = true ∧ mz_ar G (w (k + 1)) (w k) = true) → mz_t z (w k) = false := fun q => (h3 k q (by omega)).2
      have hM : 0 < k → (mz_ar G (w (k - 1)) (w k) = true ∧ mz_ar G (w (k + 1)) (w k) = true) → mz_t M (w k) = true := fun q => (h3 k q (by omega)).1
      rw [show k + 1 - 1 = k by omega]
      rcases h2 k (by omega) with d | d
      · -- down
        refine Or.inr (Or.inr ⟨by omega, d, ?_⟩)
        have zk : mz_t z (w k) = false := by
          rcases Nat.eq_zero_or_pos k with q | q
          · subst q
            exact haz (w 0) (by omega) h0
          · exact hz q (fun x => two _ _ wk wk1 d x.2)
        have cf : mz_t C (w k) = true ∨ mz_t F (w k) = true := by
          rcases i0 with ⟨_, x⟩ | ⟨_, _, x⟩ | ⟨_, _, x⟩
          · exact Or.inl x
          · exact Or.inl x
          · exact Or.inr x
        exact b3 (w k) (by omega) cf zk (w (k + 1)) (by omega) (hH (w k) (w (k + 1)) wk wk1 d)
      · -- up
        refine Or.inr (Or.inl ⟨by omega, d, ?_⟩)
        apply b2 (w k) (by omega) ?_ (w (k + 1)) (by omega) d
        rcases i0 with ⟨q, x⟩ | ⟨q, y, x⟩ | ⟨q, y, x⟩
        · subst q
          exact Or.inl ⟨x, haz (w 0) (by omega) h0⟩
        · exact Or.inl ⟨x, hz q (fun c => two _ _ wk (h1 (k - 1) (by omega)) y c.1)⟩
        · exact Or.inr ⟨x, hM q ⟨y, d⟩⟩
  rcases st m (Nat.le_refl m) with ⟨_, x⟩ | ⟨_, _, x⟩ | ⟨_, _, x⟩
  · exact Or.inl x
  · exact Or.inl x
  · exact Or.inr x
/-! the reference's search: it finds an open way with each thing once, if there is one -/
def mz_pth (n : Nat) (G : Nat → Int32) (z : Int32) (M : Nat → Prop) (i0 y : Nat) : Prop := ∃ (m : Nat) (w : Nat → Nat), mz_wk n G z M m w ∧ w 0 = i0 ∧ w m = y ∧ ∀ p q, p < q → q ≤ m → w p ≠ w q
def mz_dfx (n : Nat) (G : Nat → Int32) (z : Int32) (M : Nat → Prop) (i0 y D : Nat) (V T : Nat → Nat) (u : Int32) : Prop := (0 < D → V 0 = i0) ∧ (∀ k, k + 1 < D → mz_jn G (V k) (V (k + 1))) ∧ (∀ k, k < D → V k ≠ y) ∧ (∀ t, t < n → mz_t u t = true → ∃ i, i < D ∧ V i = t) ∧ ∀ (m : Nat) (w : Nat → Nat), mz_wk n G z M m w → w 0 = i0 → w m = y → (∀ p q, p < q → q ≤ m → w p ≠ w q) → ∃ d, d < D ∧ d < m ∧ (∀ k, k ≤ d → w k = V k) ∧ T d ≤ w (d + 1)
theorem mz_opn_cg {G : Nat → Int32} {z : Int32} {M : Nat → Prop} {w v : Nat → Nat} {k : Nat} (h1 : w (k - 1) = v (k - 1)) (h2 : w k = v k) (h3 : w (k + 1) = v (k + 1)) (h : mz_opn G z M w k) : mz_opn G z M v k := by
  unfold mz_opn at h ⊢
  rw [h1, h2, h3] at h
  exact h
theorem mz_dfx_0 {n i0 y : Nat} {G : Nat → Int32} {z : Int32} {M : Nat → Prop} (hn : n ≤ 8) (hi : i0 < n) (hne : ¬ i0 = y) : mz_dfx n G z M i0 y 1 (fun _ => i0) (fun _ => 0) ((1 : Int32) <<< (nI i0 &&& 31)) := by
  refine ⟨fun _ => rfl, fun k hk => by omega, fun k _ => hne, fun t ht hu => ?_, fun m w hw h0 hm _ => ?_⟩
  · rw [mz_t_1 (by omega)] at hu
    exact ⟨0, by omega, (by simpa using hu : t = i0).symm⟩
  · refine ⟨0, by omega, ?_, fun k hk => ?_, Nat.zero_le _⟩
    · rcases Nat.eq_zero_or_pos m with q | q
      · subst q
        rw [h0] at hm
        exact absurd hm hne
      · exact q
    · have : k = 0 := by omega
      rw [this, h0]
theorem mz_dfx_pop {n i0 y E : Nat} {G : Nat → Int32} {z u : Int32} {M : Nat → Prop} {V T : Nat → Nat} (hn : n ≤ 8) (hV : ∀ i, i < E + 1 → V i < n) (hT : T E = n) (h : mz_dfx n G z M i0 y (E + 1) V T u) : mz_dfx n G z M i0 y E V T (u &&& (((1 : Int32) <<< (nI (V E) &&& 31)) ^^^ (-1))) := by
  obtain ⟨a1, a2, a3, a4, a5⟩ := h
  refine ⟨fun q => a1 (by omega), fun k hk => a2 k (by omega), fun k hk => a3 k (by omega), fun t ht hu => ?_, fun m w hw h0 hm hi => ?_⟩
  · have := hV E (by omega)
    rw [mz_t_and, mz_t_not (by omega), mz_t_1 (by omega), Bool.and_eq_true] at hu
    obtain ⟨i, hi, e⟩ := a4 t ht hu.1
    have hne : t ≠ V E := by
      intro q
      have h2 := hu.2
      rw [q] at h2
      simp at h2
    refine ⟨i, ?_, e⟩
    rcases Nat.lt_or_ge i E with q | q
    · exact q
    · have : i = E := by omega
      rw [this] at e
      exact absurd e.symm hne
  · obtain ⟨d, d1, d2, d3, d4⟩ := a5 m w hw h0 hm hi
    refine ⟨d, ?_, d2, d3, d4⟩
    rcases Nat.lt_or_ge d E with q | q
    · exact q
    · have : d = E := by omega
      subst this
      have := hw.1 (d + 1) (by omega)
      omega
theorem mz_dfx_adv {n i0 y E : Nat} {G : Nat → Int32} {z u : Int32} {M : Nat → Prop} {V T : Nat → Nat} (h : mz_dfx n G z M i0 y (E + 1) V T u) (hno : ∀ (m : Nat) (w : Nat → Nat), mz_wk n G z M m w → w m = y → (∀ p q, p < q → q ≤ m → w p ≠ w q) → E < m → (∀ k, k ≤ E → w k = V k) → w (E + 1) = T E → False) : mz_dfx n G z M i0 y (E + 1) V (mz_up T E (T E + 1)) u := by
  obtain ⟨a1, a2, a3, a4, a5⟩ := h
  refine ⟨a1, a2, a3, a4, fun m w hw h0 hm hi => ?_⟩
  obtain ⟨d, d1, d2, d3, d4⟩ := a5 m w hw h0 hm hi
  refine ⟨d, d1, d2, d3, ?_⟩
  by_cases e : d = E
  · subst e
    rw [mz_up_s]
    rcases Nat.lt_or_ge (T d) (w (d + 1)) with q | q
    · exact q
    · exact (hno m w hw hm hi d2 d3 (by omega)).elim
  · rw [mz_up_n T _ e]
    exact d4
theorem mz_dfx_nj {n i0 y E : Nat} {G : Nat → Int32} {z u : Int32} {M : Nat → Prop} {V T : Nat → Nat} (h : mz_dfx n G z M i0 y (E + 1) V T u) (h1 : mz_ar G (V E) (T E) = false) (h2 : mz_ar G (T E) (V E) = false) : mz_dfx n G z M i0 y (E + 1) V (mz_up T E (T E + 1)) u := by
  refine mz_dfx_adv h (fun m w hw _ _ hE hk hx => ?_)
  have j := hw.2.1 E hE
  rw [hk E (Nat.le_refl E), hx] at j
  rcases j with j | j
  · rw [h1] at j
    cases j
  · rw [h2] at j
    cases j
theorem mz_dfx_us {n i0 y E : Nat} {G : Nat → Int32} {z u : Int32} {M : Nat → Prop} {V T : Nat → Nat} (h : mz_dfx n G z M i0 y (E + 1) V T u) (ht : T E < n) (hu : mz_t u (T E) = true) : mz_dfx n G z M i0 y (E + 1) V (mz_up T E (T E + 1)) u := by
  refine mz_dfx_adv h (fun m w _ _ hi hE hk hx => ?_)
  obtain ⟨i, i1, i2⟩ := h.2.2.2.1 (T E) ht hu
  exact hi i (E + 1) (by omega) (by omega) (by rw [hk i (by omega), hx, i2])
theorem mz_dfx_cl {n i0 y E : Nat} {G : Nat → Int32} {z u : Int32} {M : Nat → Prop} {V T : Nat → Nat} (h : mz_dfx n G z M i0 y (E + 1) V T u) (hy : T E = y) (hno : ¬ ∀ k, 0 < k → k + 1 < E + 2 → mz_opn G z M (mz_up V (E + 1) (T E)) k) : mz_dfx n G z M i0 y (E + 1) V (mz_up T E (T E + 1)) u := by
  refine mz_dfx_adv h (fun m w hw hm hi hE hk hx => ?_)
  have em : m = E + 1 := by
    rcases Nat.lt_or_ge (E + 1) m with q | q
    · exact absurd (by rw [hx, hm, hy]) (hi (E + 1) m q (Nat.le_refl m))
    · omega
  subst em
  have eq : ∀ k, k ≤ E + 1 → w k = mz_up V (E + 1) (T E) k := by
    intro k hk2
    by_cases c : k = E + 1
    · rw [c, mz_up_s, hx]
    · rw [mz_up_n V _ c, hk k (by omega)]
  exact hno (fun k k0 k1 => mz_opn_cg (eq (k - 1) (by omega)) (eq k (by omega)) (eq (k + 1) (by omega)) (hw.2.2 k k0 (by omega)))
theorem mz_dfx_yes {n i0 y E : Nat} {G : Nat → Int32} {z u : Int32} {M : Nat → Prop} {V T : Nat → Nat} (h : mz_dfx n G z M i0 y (E + 1) V T u) (hV : ∀ i, i < E + 1 → V i < n) (hi : ∀ i j, i < j → j < E + 1 → V i ≠ V j) (hy : T E = y) (hyn : y < n) (hj : mz_jn G (V E) (T E)) (ho : ∀ k, 0 < k → k + 1 < E + 2 → mz_opn G z M (mz_up V (E + 1) (T E)) k) : mz_pth n G z M i0 y := by
  obtain ⟨a1, a2, a3, a4, a5⟩ := h
  have lo : ∀ k, k ≤ E → mz_up V (E + 1) (T E) k = V k := fun k hk => mz_up_n V _ (by omega)
  have top : mz_up V (E + 1) (T E) (E + 1) = y := by rw [mz_up_s, hy]
  refine ⟨E + 1, mz_up V (E + 1) (T E), ⟨fun k hk => ?_, fun k hk => ?_, fun k k0 k1 => ho k k0 (by omega)⟩, ?_, top, fun p q hpq hq => ?_⟩
  · by_cases c : k = E + 1
    · rw [c, top]
      exact hyn
    · rw [lo k (by omega)]
      exact hV k (by omega)
  · by_cases c : k = E
    · rw [c, lo E (Nat.le_refl E), top, ← hy]
      exact hj
    · rw [lo k (by omega), lo (k + 1) (by omega)]
      exact a2 k (by omega)
  · rw [lo 0 (Nat.zero_le E)]
    exact a1 (by omega)
  · by_cases c : q = E + 1
    · rw [c, top, lo p (by omega)]
      exact a3 p (by omega)
    · rw [lo p (by omega), lo q (by omega)]
      exact hi p q hpq (by omega)
theorem mz_dfx_push {n i0 y E : Nat} {G : Nat → Int32} {z u : Int32} {M : Nat → Prop} {V T : Nat → Nat} (hn : n ≤ 8) (h : mz_dfx n G z M i0 y (E + 1) V T u) (ht : T E < n) (hy : ¬ T E = y) (hj : mz_jn G (V E) (T E)) : mz_dfx n G z M i0 y (E + 2) (mz_up V (E + 1) (T E)) (mz_up (mz_up T E (T E + 1)) (E + 1) 0) (u ||| ((1 : Int32) <<< (nI (T E) &&& 31))) := by
  obtain ⟨a1, a2, a3, a4, a5⟩ := h
  have lo : ∀ k, k ≤ E → mz_up V (E + 1) (T E) k = V k := fun k hk => mz_up_n V _ (by omega)
  have top : mz_up V (E + 1) (T E) (E + 1) = T E := mz_up_s V _ _
  refine ⟨fun _ => ?_, fun k hk => ?_, fun k hk => ?_, fun t htn hu => ?_, fun m w hw h0 hm hi => ?_⟩
  · rw [lo 0 (Nat.zero_le E)]
    exact a1 (by omega)
  · by_cases c : k = E
    · rw [c, lo E (Nat.le_refl E), top]
      exact hj
    · rw [lo k (by omega), lo (k + 1) (by omega)]
      exact a2 k (by omega)
  · by_cases c : k = E + 1
    · rw [c, top]
      exact hy
    · rw [lo k (by omega)]
      exact a3 k (by omega)
  · rw [mz_t_or, mz_t_1 (by omega), Bool.or_eq_true] at hu
    rcases hu with hu | hu
    · obtain ⟨i, i1, i2⟩ := a4 t htn hu
      exact ⟨i, by omega, by rw [lo i (by omega)]; exact i2⟩
    · have e : t = T E := by simpa using hu
      exact ⟨E + 1, by omega, by rw [top, e]⟩
  · obtain ⟨d, d1, d2, d3, d4⟩ := a5 m w hw h0 hm hi
    by_cases e : d = E
    · subst e
      by_cases c : w (d + 1) = T d
      · refine ⟨d + 1, by omega, ?_, fun k hk => ?_, ?_⟩
        · rcases Nat.lt_or_ge (d + 1) m with q | q
          · exact q
          · have : m = d + 1 := by omega
            rw [this, c] at hm
            exact absurd hm hy
        · by_cases c2 : k = d + 1
          · rw [c2, top, c]
          · rw [lo k (by omega)]
            exact d3 k (by omega)
        · rw [mz_up_s]
          exact Nat.zero_le _
      · refine ⟨d, by omega, d2, fun k hk => by rw [lo k hk]; exact d3 k hk, ?_⟩
        rw [mz_up_n _ _ (by omega), mz_up_s]
        omega
    · refine ⟨d, by omega, d2, fun k hk => by rw [lo k (by omega)]; exact d3 k hk, ?_⟩
      rw [mz_up_n _ _ (by omega), mz_up_n T _ e]
      exact d4
theorem mz_dfx_end {n i0 y : Nat} {G : Nat → Int32} {z u : Int32} {M : Nat → Prop} {V T : Nat → Nat} (h : mz_dfx n G z M i0 y 0 V T u) : ¬ mz_pth n G z M i0 y := by
  intro ⟨m, w, w1, w2, w3, w4⟩
  obtain ⟨d, d1, _⟩ := h.2.2.2.2 m w w1 w2 w3 w4
  omega
/-! the class's rounds -/
def mz_upw (C F z M : Int32) : Int32 := (C &&& (z ^^^ (-1))) ||| (F &&& M)
def mz_dnw (C F z : Int32) : Int32 := (C ||| F) &&& (z ^^^ (-1))
theorem mz_upw_t {C F z M : Int32} {v : Nat} (hv : v < 32) : mz_t (mz_upw C F z M) v = true ↔ (mz_t C v = true ∧ mz_t z v = false) ∨ (mz_t F v = true ∧ mz_t M v = true) := by
  unfold mz_upw
  rw [mz_t_or, mz_t_and, mz_t_and, mz_t_not hv]
  cases mz_t C v <;> cases mz_t z v <;> cases mz_t F v <;> cases mz_t M v <;> simp
theorem mz_dnw_t {C F z : Int32} {v : Nat} (hv : v < 32) : mz_t (mz_dnw C F z) v = true ↔ (mz_t C v = true ∨ mz_t F v = true) ∧ mz_t z v = false := by
  unfold mz_dnw
  rw [mz_t_and, mz_t_or, mz_t_not hv]
  cases mz_t C v <;> cases mz_t z v <;> cases mz_t F v <;> simp
theorem mz_br_done {G H : Nat → Int32} {a z M C F q1 q2 : Int32} (g1 : mz_ga G (mz_upw C F z M) 8 q1) (g2 : mz_ga H (mz_dnw C F z) 8 q2) (e1 : C ||| q1 = C) (e2 : F ||| q2 = F) (ha : mz_ss a C) : mz_br G H a z M C F := by
  refine ⟨ha, fun v hv hx j hj hy => ?_, fun v hv hx hz j hj hy => ?_⟩
  · have h5 : mz_t q1 j = true := (g1 j hj).mpr ⟨v, hv, (mz_upw_t (by omega)).mpr hx, hy⟩
    rw [← e1, mz_t_or, h5, Bool.or_true]
  · have h5 : mz_t q2 j = true := (g2 j hj).mpr ⟨v, hv, (mz_dnw_t (by omega)).mpr ⟨hx, hz⟩, hy⟩
    rw [← e2, mz_t_or, h5, Bool.or_true]
theorem mz_br_min {G H : Nat → Int32} {a z M C F q1 q2 : Int32} (g1 : mz_ga G (mz_upw C F z M) 8 q1) (g2 : mz_ga H (mz_dnw C F z) 8 q2) (hm : ∀ C1 F1 : Int32, mz_br G H a z M C1 F1 → mz_ss C C1 ∧ mz_ss F F1) : ∀ C1 F1 : Int32, mz_br G H a z M C1 F1 → mz_ss (C ||| q1) C1 ∧ mz_ss (F ||| q2) F1 := by
  intro C1 F1 hb
  obtain ⟨m1, m2⟩ := hm C1 F1 hb
  refine ⟨fun j hj hx => ?_, fun j hj hx => ?_⟩
  · rw [mz_t_or, Bool.or_eq_true] at hx
    rcases hx with hx | hx
    · exact m1 j hj hx
    · obtain ⟨v, v1, v2, v3⟩ := (g1 j hj).mp hx
      apply hb.2.1 v v1 ?_ j hj v3
      rcases (mz_upw_t (by omega)).mp v2 with ⟨x, y⟩ | ⟨x, y⟩
      · exact Or.inl ⟨m1 v (by omega) x, y⟩
      · exact Or.inr ⟨m2 v (by omega) x, y⟩
  · rw [mz_t_or, Bool.or_eq_true] at hx
    rcases hx with hx | hx
    · exact m2 j hj hx
    · obtain ⟨v, v1, v2, v3⟩ := (g2 j hj).mp hx
      obtain ⟨x, y⟩ := (mz_dnw_t (by omega)).mp v2
      exact hb.2.2 v v1 (x.elim (fun q => Or.inl (m1 v (by omega) q)) (fun q => Or.inr (m2 v (by omega) q))) y j hj v3
theorem mz_un_or {r q : Int32} : mz_un (r ||| q) 8 ≤ mz_un r 8 := mz_un_mono (F := r) (G := r ||| q) (n := 8) (by decide) (fun i hi hx => by
  rw [Int32.toBitVec_or, BitVec.getLsbD_or, Bool.or_eq_false_iff] at hx
  exact hx.1)
theorem mz_un_or_lt {f : Nat → Int32} {h r q : Int32} (hg : mz_ga f h 8 q) (hf : ∀ k, k < 8 → ∀ j, j < 32 → mz_t (f k) j = true → j < 8) (e : ¬ (r ||| q) = r) : mz_un (r ||| q) 8 < mz_un r 8 := by
  have h1 : ∃ j, j < 32 ∧ mz_t q j = true ∧ mz_t r j = false := by
    apply Classical.byContradiction
    intro hno
    apply e
    apply mz_t_eq
    intro j hj
    rw [mz_t_or]
    cases hq : mz_t q j
    · simp
    · cases hr : mz_t r j
      · exact absurd ⟨j, hj, hq, hr⟩ hno
      · simp
  obtain ⟨j, hj, hq, hr⟩ := h1
  obtain ⟨k, hk, hk2, hk3⟩ := (hg j hj).mp hq
  have hj8 := hf k hk j hj hk3
  have a1 := mz_un_set (F := r) (k := j) ((mz_b0 hj).mpr hr) (n := 8) (by decide) hj8
  have a2 := mz_un_mono (F := r ||| ((1 : Int32) <<< (nI j &&& 31))) (G := r ||| q) (n := 8) (by decide) (fun i hi hx => by
    rw [Int32.toBitVec_or, BitVec.getLsbD_or, mz_one hj]
    rw [Int32.toBitVec_or, BitVec.getLsbD_or, Bool.or_eq_false_iff] at hx
    have : i ≠ j := by
      intro e2
      subst e2
      have : mz_t q i = false := hx.2
      rw [hq] at this
      cases this
    simp [hx.1, this])
  omega
theorem mz_br_full {G H : Nat → Int32} {a z M C F : Int32} (hG : ∀ k, k < 8 → ∀ j, j < 32 → mz_t (G k) j = true → j < 8) (hH : ∀ k, k < 8 → ∀ j, j < 32 → mz_t (H k) j = true → j < 8) (ha : mz_ss a C) (hu : mz_un C 8 = 0) (hv : mz_un F 8 = 0) : mz_br G H a z M C F := by
  have full : ∀ X : Int32, mz_un X 8 = 0 → ∀ k, k < 8 → mz_t X k = true := by
    intro X hX k hk
    cases e : mz_t X k
    · have := mz_un_set (F := X) (k := k) ((mz_b0 (show k < 32 by omega)).mpr e) (n := 8) (by omega) hk
      omega
    · rfl
  exact ⟨ha, fun v hv2 _ j hj hy => full C hu j (hG v hv2 j hj hy), fun v hv2 _ _ j hj hy => full F hv j (hH v hv2 j hj hy)⟩
/-! open meetings, on both sides -/
def mz_Mm (n : Nat) (G : Nat → Int32) (z : Int32) (v : Nat) : Prop := mz_t z v = true ∨ ∃ S : Int32, mz_bs n G v S ∧ ∃ j, j < n ∧ mz_t S j = true ∧ mz_t z j = true
theorem mz_clo_i {n : Nat} {G : Nat → Int32} {F : Int32} {t k : Nat} (ht : t < 32) (hk : k < 32) : mz_clo G (nI t) F k ↔ (mz_t F k = true ∨ (mz_t (G k) t = false ∧ ∀ i, i < 32 → mz_t (G k) i = true → mz_t F i = false)) := by
  unfold mz_clo
  constructor
  · intro h
    rcases h with h | ⟨h1, h2⟩
    · exact Or.inl (mz_t_y0 hk h)
    · exact Or.inr ⟨mz_t_n ht h1, fun i hi hx => mz_and0.mp h2 i hi hx⟩
  · intro h
    rcases h with h | ⟨h1, h2⟩
    · exact Or.inl (fun q => by
        rw [mz_t_n0 hk q] at h
        cases h)
    · refine Or.inr ⟨fun q => ?_, mz_and0.mpr (fun i hi hx => h2 i hi hx)⟩
      rw [mz_t_y ht q] at h1
      cases h1
theorem mz_bs_ex {n t : Nat} {G : Nat → Int32} (hn : n ≤ 8) (ht : t < n) : ∃ S : Int32, mz_bs n G t S ∧ ∀ j, j < 32 → mz_t S j = true → j < n := by
  obtain ⟨S, hS⟩ := mz_comp n (fun k => ∀ F : Int32, (∀ k, k < n → mz_clo G (nI t) F k) → mz_t F k = true)
  refine ⟨S, ⟨fun k hk => ?_, fun F hF k hk hx => ((hS k (by omega)).mp hx).2 F hF⟩, fun j hj hx => ((hS j hj).mp hx).1⟩
  rw [mz_clo_i (n := n) (by omega) (by omega)]
  cases e : mz_t S k
  · right
    have h1 : ∃ F : Int32, (∀ k, k < n → mz_clo G (nI t) F k) ∧ mz_t F k = false := by
      apply Classical.byContradiction
      intro no
      have : mz_t S k = true := (hS k (by omega)).mpr ⟨hk, fun F hF => by
        cases e2 : mz_t F k
        · exact absurd ⟨F, hF, e2⟩ no
        · rfl⟩
      rw [e] at this
      cases this
    obtain ⟨F, f1, f2⟩ := h1
    rcases (mz_clo_i (n := n) (by omega) (by omega)).mp (f1 k hk) with q | ⟨q1, q2⟩
    · rw [f2] at q
      cases q
    · refine ⟨q1, fun i hi hx => ?_⟩
      cases e2 : mz_t S i
      · rfl
      · have h3 := ((hS i hi).mp e2).2 F f1
        rw [q2 i hi hx] at h3
        cases h3
  · exact Or.inl rfl
theorem mz_M_eq {n : Nat} {G : Nat → Int32} {z M : Int32} (hn : n ≤ 8) (hG : ∀ k, k < n → ∀ j, j < 32 → mz_t (G k) j = true → j < n) (hz : mz_hp n z) (hM : mz_lst G z M) : ∀ v, v < n → (mz_t M v = true ↔ mz_Mm n G z v) := by
  obtain ⟨m1, m2, m3⟩ := hM
  -- what is below an arrow's end is below its start
  have dn : ∀ u k, u < n → k < n → mz_t (G k) u = true → ∀ S, mz_bs n G u S → mz_t S k = true ∧ ∀ S1, mz_bs n G k S1 → ∀ j, j < n → mz_t S1 j = true → mz_t S j = true := by
    intro u k hu hk hx S hS
    have c1 : mz_t S k = true := by
      rcases (mz_clo_i (n := n) (by omega) (by omega)).mp (hS.1 k hk) with q | ⟨q, _⟩
      · exact q
      · rw [hx] at q
        cases q
    refine ⟨c1, fun S1 h1 j hj hy => h1.2 S (fun q hq => ?_) j hj hy⟩
    rw [mz_clo_i (n := n) (by omega) (by omega)]
    rcases (mz_clo_i (n := n) (by omega) (by omega)).mp (hS.1 q hq) with a | ⟨a, b⟩
    · exact Or.inl a
    · refine Or.inr ⟨?_, b⟩
      cases e : mz_t (G q) k
      · rfl
      · rw [b k (by omega) e] at c1
        cases c1
  intro v hv
  constructor
  · obtain ⟨Q, hQ⟩ := mz_comp n (mz_Mm n G z)
    have c1 : mz_cl2 G Q := by
      intro k hk hx u hu hy
      obtain ⟨hkn, hm⟩ := (hQ k (by omega)).mp hx
      have hun := hG k hkn u hu hy
      obtain ⟨S, hS, _⟩ := mz_bs_ex (G := G) hn hun
      obtain ⟨d1, d2⟩ := dn u k hun hkn hy S hS
      refine (hQ u hu).mpr ⟨hun, Or.inr ⟨S, hS, ?_⟩⟩
      rcases hm with hm | ⟨S1, s1, j, j1, j2, j3⟩
      · exact ⟨k, hkn, d1, hm⟩
      · exact ⟨j, j1, d2 S1 s1 j j1 j2, j3⟩
    intro h
    exact ((hQ v (by omega)).mp (m3 Q c1 (fun j hj hx => (hQ j hj).mpr ⟨hz j hj hx, Or.inl hx⟩) v (by omega) h)).2
  · intro h
    rcases h with h | ⟨S, s1, j, j1, j2, j3⟩
    · exact m1 v (by omega) h
    · obtain ⟨F, hF⟩ := mz_comp n (fun k => mz_t M k = true → mz_t M v = true)
      have c1 : ∀ q, q < n → mz_clo G (nI v) F q := by
        intro q hq
        rw [mz_clo_i (n := n) (by omega) (by omega)]
        cases e : mz_t F q
        · right
          have h1 : mz_t M q = true ∧ ¬ mz_t M v = true := by
            apply Classical.byContradiction
            intro no
            have : mz_t F q = true := (hF q (by omega)).mpr ⟨hq, fun x => Classical.byContradiction (fun y => no ⟨x, y⟩)⟩
            rw [e] at this
            cases this
          refine ⟨?_, fun i hi hx => ?_⟩
          · cases e2 : mz_t (G q) v
            · rfl
            · exact absurd (m2 q (by omega) h1.1 v (by omega) e2) h1.2
          · cases e2 : mz_t F i
            · rfl
            · exact absurd (((hF i hi).mp e2).2 (m2 q (by omega) h1.1 i hi hx)) h1.2
        · exact Or.inl rfl
      exact ((hF j (by omega)).mp (s1.2 F c1 j j1 j2)).2 (m1 j (by omega) j3)
theorem mz_wk_cg {n m : Nat} {G : Nat → Int32} {z : Int32} {M M1 : Nat → Prop} {w : Nat → Nat} (h : ∀ v, v < n → (M v ↔ M1 v)) (hw : mz_wk n G z M m w) : mz_wk n G z M1 m w := by
  obtain ⟨h1, h2, h3⟩ := hw
  exact ⟨h1, h2, fun k k0 k1 => ⟨fun q => (h _ (h1 k (by omega))).mp ((h3 k k0 k1).1 q), (h3 k k0 k1).2⟩⟩
/-- both sides say the same -/
theorem mz_bars_eq {n : Nat} {G H : Nat → Int32} {a b z M C F : Int32} (hn : n ≤ 8) (hacy : mz_acy n G) (hG : ∀ k, k < n → ∀ j, j < 32 → mz_t (G k) j = true → j < n) (hH : ∀ k, k < 8 → ∀ j, j < 32 → mz_t (H k) j = true → j < n ∧ k < n ∧ mz_ar G k j = true) (hH2 : ∀ i j, i < n → j < n → mz_ar G i j = true → mz_t (H i) j = true) (ha : mz_hp n a) (hz : mz_hp n z) (haz : ∀ j, j < 32 → mz_t a j = true → mz_t z j = false) (hM : mz_lst G z M) (hl : mz_brl G H a z M C F) : (¬ (C ||| F) &&& b = 0) ↔ ∃ i k, i < n ∧ k < n ∧ mz_t a i = true ∧ mz_t b k = true ∧ mz_pth n G z (mz_Mm n G z) i k := by
  obtain ⟨rk, hr⟩ := mz_rank hn hacy
  have hMe := mz_M_eq hn hG hz hM
  have hMc : ∀ i j, i < n → j < n → mz_ar G i j = true → mz_t M j = true → mz_t M i = true := fun i j hi hj x y => hM.2.1 j (by omega) y i (by omega) x
  constructor
  · intro h
    have h1 : ∃ v, v < 32 ∧ (mz_t C v = true ∨ mz_t F v = true) ∧ mz_t b v = true := by
      apply Classical.byContradiction
      intro no
      apply h
      apply mz_and0.mpr
      intro i hi hx
      have hx2 : mz_t (C ||| F) i = true := hx
      rw [mz_t_or, Bool.or_eq_true] at hx2
      have e : mz_t b i = false := by
        cases e : mz_t b i
        · rfl
        · exact absurd ⟨i, hi, hx2, e⟩ no
      exact e
    obtain ⟨v, v1, v2, v3⟩ := h1
    obtain ⟨m, w, w1, w2, w3⟩ := mz_br_walk hn hr hG hH ha hl v v1 v2
    obtain ⟨m1, x, x1, x2, x3, x4⟩ := mz_short hr hMc m w w1
    refine ⟨x 0, x m1, x1.1 0 (Nat.zero_le m1), x1.1 m1 (Nat.le_refl m1), by rw [x2]; exact w2, by rw [x3, w3]; exact v3, m1, x, mz_wk_cg hMe x1, rfl, rfl, x4⟩
  · intro ⟨i, k, hi, hk, h1, h2, m, w, w1, w2, w3, _⟩ h0
    have h3 := mz_walk_br hn hr hH2 haz hl.1 (mz_wk_cg (fun v hv => (hMe v hv).symm) w1) (by rw [w2]; exact h1)
    rw [w3] at h3
    have h4 : mz_t (C ||| F) k = true := by
      rw [mz_t_or, Bool.or_eq_true]
      exact h3
    have h5 : mz_t b k = false := mz_and0.mp h0 k (by omega) h4
    rw [h2] at h5
    cases h5
/-! the reference's drawing with some arrows left out, and whether a way is open -/
def mz_pwo (fp : Nat → Int32) (a wo : Int32) (k : Nat) : Int32 := if mz_t wo k = true then (fp k) &&& (((1 : Int32) <<< (a &&& 31)) ^^^ (-1)) else fp k
theorem mz_pwo_y {fp : Nat → Int32} {a wo : Int32} {k : Nat} (h : mz_t wo k = true) : (fp k) &&& (((1 : Int32) <<< (a &&& 31)) ^^^ (-1)) = mz_pwo fp a wo k := by
  unfold mz_pwo
  rw [if_pos h]
theorem mz_pwo_n {fp : Nat → Int32} {a wo : Int32} {k : Nat} (h : mz_t wo k = false) : fp k = mz_pwo fp a wo k := by
  unfold mz_pwo
  rw [if_neg (by rw [h]; decide)]
theorem mz_pwo_0 {fp : Nat → Int32} {a : Int32} : mz_pwo fp a 0 = fp := by
  funext k
  unfold mz_pwo
  rw [mz_t_0, if_neg (by decide)]
theorem mz_b01 {x : Int32} {j : Nat} (hj : j < 32) (h : ¬ (x >>> (nI j &&& 31)) &&& 1 = 0) : (x >>> (nI j &&& 31)) &&& 1 = 1 := (mz_b1 hj).mpr (mz_t_y0 hj h)
theorem mz_opn_my {G : Nat → Int32} {z : Int32} {M : Nat → Prop} {w : Nat → Nat} {k : Nat} (h1 : mz_ar G (w (k - 1)) (w k) = true) (h2 : mz_ar G (w (k + 1)) (w k) = true) (h : M (w k)) : mz_opn G z M w k := ⟨fun _ => h, fun q => absurd ⟨h1, h2⟩ q⟩
theorem mz_opn_mn {G : Nat → Int32} {z : Int32} {M : Nat → Prop} {w : Nat → Nat} {k : Nat} (h1 : mz_ar G (w (k - 1)) (w k) = true) (h2 : mz_ar G (w (k + 1)) (w k) = true) (h : ¬ M (w k)) : ¬ mz_opn G z M w k := fun q => h (q.1 ⟨h1, h2⟩)
theorem mz_opn_ny {G : Nat → Int32} {z : Int32} {M : Nat → Prop} {w : Nat → Nat} {k : Nat} (h1 : mz_ar G (w (k - 1)) (w k) = false ∨ mz_ar G (w (k + 1)) (w k) = false) (h : mz_t z (w k) = false) : mz_opn G z M w k := by
  refine ⟨fun q => ?_, fun _ => h⟩
  rcases h1 with h1 | h1
  · rw [h1] at q
    cases q.1
  · rw [h1] at q
    cases q.2
theorem mz_opn_nn {G : Nat → Int32} {z : Int32} {M : Nat → Prop} {w : Nat → Nat} {k : Nat} (h1 : mz_ar G (w (k - 1)) (w k) = false ∨ mz_ar G (w (k + 1)) (w k) = false) (h : mz_t z (w k) = true) : ¬ mz_opn G z M w k := by
  intro q
  have h2 := q.2 (fun c => by
    rcases h1 with h1 | h1
    · rw [h1] at c
      cases c.1
    · rw [h1] at c
      cases c.2)
  rw [h] at h2
  cases h2
theorem mz_Mm_y {n v : Nat} {G : Nat → Int32} {z S : Int32} (hS : mz_bs n G v S ∧ ∀ j, j < 32 → mz_t S j = true → j < n) (h : ¬ S &&& z = 0) : mz_Mm n G z v := by
  refine Or.inr ⟨S, hS.1, ?_⟩
  apply Classical.byContradiction
  intro no
  apply h
  apply mz_and0.mpr
  intro i hi hx
  have e : mz_t z i = false := by
    cases e : mz_t z i
    · rfl
    · exact absurd ⟨i, hS.2 i hi hx, hx, e⟩ no
  exact e
theorem mz_Mm_n {n v : Nat} {G : Nat → Int32} {z S : Int32} (hn : n ≤ 8) (hS : mz_bs n G v S ∧ ∀ j, j < 32 → mz_t S j = true → j < n) (hz : mz_t z v = false) (h : S &&& z = 0) : ¬ mz_Mm n G z v := by
  intro q
  rcases q with q | ⟨S1, s1, j, j1, j2, j3⟩
  · rw [hz] at q
    cases q
  · rw [mz_bs_one s1 hS.1 j1] at j2
    have h5 : mz_t z j = false := mz_and0.mp h j (by omega) j2
    rw [j3] at h5
    cases h5
theorem mz_opn_s {G : Nat → Int32} {z : Int32} {M : Nat → Prop} {w : Nat → Nat} {i : Nat} (h : ∀ k, 0 < k → k < i → mz_opn G z M w k) (h2 : mz_opn G z M w i) : ∀ k, 0 < k → k < i + 1 → mz_opn G z M w k := by
  intro k k0 k1
  by_cases e : k = i
  · rw [e]
    exact h2
  · exact h k k0 (by omega)
theorem mz_dis {x y : Int32} (h : x &&& y = 0) {i k : Nat} (hi : i < 32) (hx : mz_t x i = true) (hy : mz_t y k = true) : ¬ i = k := by
  intro e
  subst e
  have h5 : mz_t y i = false := mz_and0.mp h i hi hx
  rw [hy] at h5
  cases h5
theorem mz_upf {f : Nat → Int32} {V : Nat → Nat} {D t n : Nat} (h : ∀ i, i < D → f i = nI (V i) ∧ V i < n) (ht : t < n) : ∀ i, i < D + 1 → upd f D (nI t) i = nI (mz_up V D t i) ∧ mz_up V D t i < n := by
  intro i hi
  by_cases e : i = D
  · subst e
    rw [pk_us, mz_up_s]
    exact ⟨rfl, ht⟩
  · rw [pk_un e, mz_up_n V t e]
    exact h i (by omega)
theorem mz_bs_cg {n t : Nat} {f g : Nat → Int32} {S : Int32} (h : ∀ k, k < n → f k = g k) (hS : mz_bs n f t S) : mz_bs n g t S := by
  have e : ∀ F k, k < n → (mz_clo f (nI t) F k ↔ mz_clo g (nI t) F k) := by
    intro F k hk
    unfold mz_clo
    rw [h k hk]
  exact ⟨fun k hk => (e S k hk).mp (hS.1 k hk), fun F hF k hk hx => hS.2 F (fun q hq => (e F q hq).mpr (hF q hq)) k hk hx⟩
theorem mz_Mm_cg {n v : Nat} {f g : Nat → Int32} {z : Int32} (h : ∀ k, k < n → f k = g k) (hM : mz_Mm n f z v) : mz_Mm n g z v := by
  rcases hM with hM | ⟨S, s1, s2⟩
  · exact Or.inl hM
  · exact Or.inr ⟨S, mz_bs_cg h s1, s2⟩
theorem mz_pth_cg {n i y : Nat} {f g : Nat → Int32} {z : Int32} (h : ∀ k, k < n → f k = g k) (hp : mz_pth n f z (mz_Mm n f z) i y) : mz_pth n g z (mz_Mm n g z) i y := by
  obtain ⟨m, w, ⟨h1, h2, h3⟩, w2, w3, w4⟩ := hp
  have e : ∀ i j, j < n → mz_ar f i j = mz_ar g i j := by
    intro i j hj
    unfold mz_ar
    rw [h j hj]
  refine ⟨m, w, ⟨h1, fun k hk => ?_, fun k k0 k1 => ?_⟩, w2, w3, w4⟩
  · have := h2 k hk
    unfold mz_jn at this ⊢
    rw [e _ _ (h1 (k + 1) (by omega)), e _ _ (h1 k (by omega))] at this
    exact this
  · have := h3 k k0 k1
    unfold mz_opn at this ⊢
    rw [e _ _ (h1 k (by omega)), e _ _ (h1 k (by omega))] at this
    exact ⟨fun q => mz_Mm_cg h (this.1 q), this.2⟩
theorem mz_rel_p8 {n : Nat} {fp fc gp : Nat → Int32} (hn : n ≤ 8) (h : mz_rel n fp fc gp) (hz : mz_z8 n fp) : ∀ k, k < 8 → ∀ j, j < 32 → mz_t (fp k) j = true → j < 8 := fun k hk j hj hx => Nat.lt_of_lt_of_le (h.2.2.1 k (hz k hk j hj hx) j hj hx) hn
theorem mz_bars_law {n : Nat} {fp fc gp : Nat → Int32} {a b z M C F : Int32} (hn : n ≤ 8) (hr : mz_rel n fp fc gp) (hacy : mz_acy n gp) (ha : mz_hp n a) (hz : mz_hp n z) (hd : a &&& z = 0) (hM : mz_lst fp z M) (hl : mz_brl fp fc a z M C F) : (¬ (C ||| F) &&& b = 0) ↔ ∃ i k, i < n ∧ k < n ∧ mz_t a i = true ∧ mz_t b k = true ∧ mz_pth n gp z (mz_Mm n gp z) i k := by
  rw [mz_bars_eq (b := b) hn (mz_acy_cg hr.1 hacy) hr.2.2.1 (fun k hk j hj hx => by
    obtain ⟨q1, q2⟩ := hr.2.2.2 k hk j hj hx
    exact ⟨q1, q2, by rw [hr.2.1 k j q2 q1] at hx; exact hx⟩) (fun i j hi hj hx => by rw [hr.2.1 i j hi hj]; exact hx) ha hz (fun j hj hx => mz_and0.mp hd j hj hx) hM hl]
  constructor
  · intro ⟨i, k, h1, h2, h3, h4, h5⟩
    exact ⟨i, k, h1, h2, h3, h4, mz_pth_cg hr.1 h5⟩
  · intro ⟨i, k, h1, h2, h3, h4, h5⟩
    exact ⟨i, k, h1, h2, h3, h4, mz_pth_cg (fun q hq => (hr.1 q hq).symm) h5⟩
