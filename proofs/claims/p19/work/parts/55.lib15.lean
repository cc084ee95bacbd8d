/-! the reference's search: which words are still to come -/
def mz_wd (O : Nat → Nat) : Nat → List Nat
  | 0 => []
  | d + 1 => O d :: mz_wd O d
def mz_sf (w v : List Nat) : Prop := ∃ u, v = u ++ w
def mz_pd (n : Nat) (O T : Nat → Nat) (N : Nat) (v : List Nat) : Prop := (N = n ∧ v = mz_wd O n) ∨ ∃ d t, d ≤ N ∧ d < n ∧ T d ≤ t ∧ mz_sf (t :: mz_wd O d) v
theorem mz_wd_cg {O Q : Nat → Nat} (d : Nat) : (∀ i, i < d → O i = Q i) → mz_wd O d = mz_wd Q d := by
  induction d with
  | zero =>
    intro _
    rfl
  | succ d ih =>
    intro h
    show O d :: mz_wd O d = Q d :: mz_wd Q d
    rw [h d (by omega), ih (fun i hi => h i (by omega))]
theorem mz_wd_len {O : Nat → Nat} (d : Nat) : (mz_wd O d).length = d := by
  induction d with
  | zero => rfl
  | succ d ih =>
    show (O d :: mz_wd O d).length = d + 1
    rw [List.length_cons, ih]
theorem mz_vw_sf {n : Nat} {jo : Nat → Int32} {V : Nat → Int32 → Prop} {w : List Nat} (u : List Nat) : mz_vw n jo V (u ++ w) → mz_vw n jo V w := by
  induction u with
  | nil => exact fun h => h
  | cons x u ih => exact fun h => ih h.2.2
theorem mz_snoc (u : List Nat) : ∀ x, ∃ u1 t, x :: u = u1 ++ [t] := by
  induction u with
  | nil =>
    intro x
    exact ⟨[], x, rfl⟩
  | cons y u ih =>
    intro x
    obtain ⟨u1, t, e⟩ := ih y
    exact ⟨x :: u1, t, by rw [e]; rfl⟩
theorem mz_sf_ex {w v : List Nat} (h : mz_sf w v) (hl : w.length < v.length) : ∃ t, mz_sf (t :: w) v := by
  obtain ⟨u, e⟩ := h
  cases u with
  | nil =>
    rw [e] at hl
    exact absurd hl (Nat.lt_irrefl _)
  | cons x u =>
    obtain ⟨u1, t, e2⟩ := mz_snoc u x
    refine ⟨t, u1, ?_⟩
    rw [e, e2, List.append_assoc]
    rfl
theorem mz_sf_eq {w v : List Nat} (h : mz_sf w v) (hl : v.length = w.length) : v = w := by
  obtain ⟨u, e⟩ := h
  cases u with
  | nil => exact e
  | cons x u =>
    rw [e, List.cons_append, List.length_cons, List.length_append] at hl
    omega
theorem mz_sf_t {t : Nat} {w v : List Nat} (h : mz_sf (t :: w) v) : mz_sf w v := by
  obtain ⟨u, e⟩ := h
  refine ⟨u ++ [t], ?_⟩
  rw [e, List.append_assoc]
  rfl
theorem mz_sf_one {t s : Nat} {w x v : List Nat} (hl : w.length = x.length) (h1 : mz_sf (t :: w) v) (h2 : mz_sf (s :: x) v) : t = s := by
  obtain ⟨u1, e1⟩ := h1
  obtain ⟨u2, e2⟩ := h2
  have e := List.append_inj_right' (e1.symm.trans e2) (by rw [List.length_cons, List.length_cons, hl])
  exact (List.cons.inj e).1
theorem mz_wd_sf {O : Nat → Nat} {d : Nat} (N : Nat) : d ≤ N → mz_sf (mz_wd O d) (mz_wd O N) := by
  induction N with
  | zero =>
    intro h
    have e : d = 0 := by omega
    rw [e]
    exact ⟨[], rfl⟩
  | succ N ih =>
    intro h
    by_cases e : d = N + 1
    · rw [e]
      exact ⟨[], rfl⟩
    · obtain ⟨u, e2⟩ := ih (by omega)
      refine ⟨O N :: u, ?_⟩
      show O N :: mz_wd O N = _
      rw [e2]
      rfl
/-- what is true of a full word -/
def mz_fw (n : Nat) (jo : Nat → Int32) (V : Nat → Int32 → Prop) (v : List Nat) : Prop := mz_vw n jo V v ∧ v.length = n
theorem mz_sf_ap {n t : Nat} {jo : Nat → Int32} {V : Nat → Int32 → Prop} {w v : List Nat} (hv : mz_fw n jo V v) (h : mz_sf (t :: w) v) : t < n ∧ mz_ap jo V w t := by
  obtain ⟨u, e⟩ := h
  have h1 := hv.1
  rw [e] at h1
  have h2 := mz_vw_sf u h1
  exact ⟨h2.1, h2.2.1⟩
/-- one step back: nothing more stands at this depth -/
theorem mz_pd_pop {n E : Nat} {jo : Nat → Int32} {V : Nat → Int32 → Prop} {O T : Nat → Nat} {v : List Nat} (hv : mz_fw n jo V v) (hE : E + 1 < n) (hT : T (E + 1) = n) : mz_pd n O T (E + 1) v ↔ mz_pd n O T E v := by
  constructor
  · intro h
    rcases h with ⟨h, _⟩ | ⟨d, t, h1, h2, h3, h4⟩
    · omega
    · refine Or.inr ⟨d, t, ?_, h2, h3, h4⟩
      rcases Nat.lt_or_ge E d with c | c
      · have e : d = E + 1 := by omega
        rw [e, hT] at h3
        have := (mz_sf_ap hv h4).1
        omega
      · exact c
  · intro h
    rcases h with ⟨h, _⟩ | ⟨d, t, h1, h2, h3, h4⟩
    · omega
    · exact Or.inr ⟨d, t, by omega, h2, h3, h4⟩
theorem mz_pd_end {n : Nat} {jo : Nat → Int32} {V : Nat → Int32 → Prop} {O T : Nat → Nat} {v : List Nat} (hv : mz_fw n jo V v) (hn0 : 0 < n) (hT : T 0 = n) : ¬ mz_pd n O T 0 v := by
  intro h
  rcases h with ⟨h, _⟩ | ⟨d, t, h1, h2, h3, h4⟩
  · omega
  · have e : d = 0 := by omega
    rw [e, hT] at h3
    have := (mz_sf_ap hv h4).1
    omega
/-- one on: this thing doesn't fit -/
theorem mz_pd_no {n N : Nat} {jo : Nat → Int32} {V : Nat → Int32 → Prop} {O T : Nat → Nat} {v : List Nat} (hv : mz_fw n jo V v) (hN : N < n) (hno : ¬ mz_ap jo V (mz_wd O N) (T N)) : mz_pd n O T N v ↔ mz_pd n O (mz_up T N (T N + 1)) N v := by
  constructor
  · intro h
    rcases h with ⟨h, _⟩ | ⟨d, t, h1, h2, h3, h4⟩
    · omega
    · refine Or.inr ⟨d, t, h1, h2, ?_, h4⟩
      by_cases e : d = N
      · rw [e, mz_up_s]
        rw [e] at h3 h4
        rcases Nat.lt_or_ge (T N) t with c | c
        · exact c
        · have e2 : t = T N := by omega
          rw [e2] at h4
          exact absurd (mz_sf_ap hv h4).2 hno
      · rw [mz_up_n T _ e]
        exact h3
  · intro h
    rcases h with ⟨h, _⟩ | ⟨d, t, h1, h2, h3, h4⟩
    · omega
    · refine Or.inr ⟨d, t, h1, h2, ?_, h4⟩
      by_cases e : d = N
      · rw [e, mz_up_s] at h3
        rw [e]
        omega
      · rw [mz_up_n T _ e] at h3
        exact h3
/-- one down: this thing comes next -/
theorem mz_pd_push {n N : Nat} {jo : Nat → Int32} {V : Nat → Int32 → Prop} {O T : Nat → Nat} {v : List Nat} (hv : mz_fw n jo V v) (hN : N < n) : mz_pd n O T N v ↔ mz_pd n (mz_up O N (T N)) (mz_up (mz_up T N (T N + 1)) (N + 1) 0) (N + 1) v := by
  have lo : ∀ d, d ≤ N → mz_wd (mz_up O N (T N)) d = mz_wd O d := fun d hd => mz_wd_cg d (fun i hi => mz_up_n O _ (by omega))
  have top : mz_wd (mz_up O N (T N)) (N + 1) = T N :: mz_wd O N := by
    show mz_up O N (T N) N :: mz_wd (mz_up O N (T N)) N = _
    rw [mz_up_s, lo N (Nat.le_refl N)]
  have tl : ∀ d, d < N → mz_up (mz_up T N (T N + 1)) (N + 1) 0 d = T d := fun d hd => by rw [mz_up_n _ _ (by omega), mz_up_n _ _ (by omega)]
  have tN : mz_up (mz_up T N (T N + 1)) (N + 1) 0 N = T N + 1 := by rw [mz_up_n _ _ (by omega), mz_up_s]
  constructor
  · intro h
    rcases h with ⟨h, _⟩ | ⟨d, t, h1, h2, h3, h4⟩
    · omega
    · by_cases e : d = N
      · rw [e] at h3 h4
        by_cases e2 : t = T N
        · rw [e2, ← top] at h4
          by_cases e3 : N + 1 = n
          · refine Or.inl ⟨e3, ?_⟩
            rw [← e3]
            exact mz_sf_eq h4 (by rw [mz_wd_len, hv.2, e3])
          · obtain ⟨s, hs⟩ := mz_sf_ex h4 (by rw [mz_wd_len, hv.2]; omega)
            exact Or.inr ⟨N + 1, s, Nat.le_refl _, by omega, by rw [mz_up_s]; exact Nat.zero_le s, hs⟩
        · refine Or.inr ⟨N, t, by omega, hN, by rw [tN]; omega, ?_⟩
          rw [lo N (Nat.le_refl N)]
          exact h4
      · refine Or.inr ⟨d, t, by omega, h2, by rw [tl d (by omega)]; exact h3, ?_⟩
        rw [lo d (by omega)]
        exact h4
  · intro h
    have back : mz_sf (mz_wd (mz_up O N (T N)) (N + 1)) v → mz_pd n O T N v := by
      intro q
      rw [top] at q
      exact Or.inr ⟨N, T N, Nat.le_refl N, hN, Nat.le_refl _, q⟩
    rcases h with ⟨h, h5⟩ | ⟨d, t, h1, h2, h3, h4⟩
    · apply back
      rw [h, h5]
      exact ⟨[], rfl⟩
    · rcases Nat.lt_trichotomy d N with c | c | c
      · rw [tl d c] at h3
        rw [lo d (by omega)] at h4
        exact Or.inr ⟨d, t, by omega, h2, h3, h4⟩
      · rw [c, tN] at h3
        rw [c, lo N (Nat.le_refl N)] at h4
        exact Or.inr ⟨N, t, Nat.le_refl N, hN, by omega, h4⟩
      · have e : d = N + 1 := by omega
        rw [e] at h4
        exact back (mz_sf_t h4)
/-- a full word is met -/
theorem mz_pd_leaf {n E : Nat} {O T : Nat → Nat} {v : List Nat} (hn : n = E + 1) : mz_pd n O T n v ↔ v = mz_wd O n ∨ mz_pd n O T E v := by
  constructor
  · intro h
    rcases h with ⟨_, h⟩ | ⟨d, t, h1, h2, h3⟩
    · exact Or.inl h
    · exact Or.inr (Or.inr ⟨d, t, by omega, h2, h3⟩)
  · intro h
    rcases h with h | h
    · exact Or.inl ⟨rfl, h⟩
    · rcases h with ⟨h, _⟩ | ⟨d, t, h1, h2, h3⟩
      · omega
      · exact Or.inr ⟨d, t, by omega, h2, h3⟩
theorem mz_pd_w {n E : Nat} {O T : Nat → Nat} (hn : n = E + 1) (hO : ∀ d, d < n → O d < T d) : ¬ mz_pd n O T E (mz_wd O n) := by
  intro h
  rcases h with ⟨h, _⟩ | ⟨d, t, h1, h2, h3, h4⟩
  · omega
  · have h5 : mz_sf (O d :: mz_wd O d) (mz_wd O n) := mz_wd_sf (d := d + 1) n (by omega)
    have e := mz_sf_one rfl h4 h5
    have := hO d h2
    omega
/-! counting those that were met -/
theorem mz_cw_cg {n k : Nat} {jo : Nat → Int32} {V : Nat → Int32 → Prop} {Q R : List Nat → Prop} (h : ∀ v, mz_vw n jo V v → v.length = k → (Q v ↔ R v)) : mz_cw n jo V k Q = mz_cw n jo V k R := by
  unfold mz_cw
  congr 1
  refine List.filter_congr (fun v hv => ?_)
  obtain ⟨h1, h2⟩ := (mz_gw_m k v).mp hv
  rw [Bool.eq_iff_iff, mz_dq_y, mz_dq_y]
  exact h v h1 h2
theorem mz_fl_1 {Q : List Nat → Prop} {w : List Nat} (hQ : ¬ Q w) (l : List (List Nat)) : l.Nodup → w ∈ l → (l.filter (fun v => mz_dq (Q v ∨ v = w))).length = (l.filter (fun v => mz_dq (Q v))).length + 1 := by
  induction l with
  | nil =>
    intro _ h
    cases h
  | cons x l ih =>
    intro hnd hw
    obtain ⟨n1, n2⟩ := List.nodup_cons.mp hnd
    by_cases e : x = w
    · rw [e] at n1
      have e1 : l.filter (fun v => mz_dq (Q v ∨ v = w)) = l.filter (fun v => mz_dq (Q v)) := by
        refine List.filter_congr (fun v hv => ?_)
        rw [Bool.eq_iff_iff, mz_dq_y, mz_dq_y]
        refine ⟨fun h => ?_, fun h => Or.inl h⟩
        rcases h with h | h
        · exact h
        · rw [h] at hv
          exact absurd hv n1
      rw [e, List.filter_cons_of_pos (p := fun v => mz_dq (Q v ∨ v = w)) (show (fun v => mz_dq (Q v ∨ v = w)) w = true from mz_dq_y.mpr (Or.inr rfl)), List.filter_cons_of_neg (p := fun v => mz_dq (Q v)) (show ¬ (fun v => mz_dq (Q v)) w = true from fun q => hQ (mz_dq_y.mp q)), List.length_cons, e1]
    · have hw2 : w ∈ l := by
        rcases List.mem_cons.mp hw with q | q
        · exact absurd q.symm e
        · exact q
      have i := ih n2 hw2
      by_cases q : Q x
      · rw [List.filter_cons_of_pos (p := fun v => mz_dq (Q v ∨ v = w)) (show (fun v => mz_dq (Q v ∨ v = w)) x = true from mz_dq_y.mpr (Or.inl q)), List.filter_cons_of_pos (p := fun v => mz_dq (Q v)) (show (fun v => mz_dq (Q v)) x = true from mz_dq_y.mpr q), List.length_cons, List.length_cons, i]
      · rw [List.filter_cons_of_neg (p := fun v => mz_dq (Q v ∨ v = w)) (show ¬ (fun v => mz_dq (Q v ∨ v = w)) x = true from fun h => (mz_dq_y.mp h).elim q e), List.filter_cons_of_neg (p := fun v => mz_dq (Q v)) (show ¬ (fun v => mz_dq (Q v)) x = true from fun h => q (mz_dq_y.mp h)), i]
theorem mz_cw_1 {n k : Nat} {jo : Nat → Int32} {V : Nat → Int32 → Prop} {Q : List Nat → Prop} {w : List Nat} (h1 : mz_vw n jo V w) (h2 : w.length = k) (hQ : ¬ Q w) : mz_cw n jo V k (fun v => Q v ∨ v = w) = mz_cw n jo V k Q + 1 := mz_fl_1 hQ _ (mz_gw_nd k) ((mz_gw_m k w).mpr ⟨h1, h2⟩)
/-- what comes ahead of t in a word -/
def mz_bf (t : Nat) : List Nat → Int32
  | [] => 0
  | o :: w => if o = t then mz_mk w else mz_bf t w
/-- a table of what holds in all words of a kind -/
def mz_tb (n : Nat) (A : Nat → Nat → Prop) (fa : Nat → Int32) : Prop := ∀ f t, f < n → t < n → (fa (8 * f + t) = 1 ∧ A f t) ∨ (fa (8 * f + t) = 0 ∧ ¬ A f t)
def mz_AA (n : Nat) (jo : Nat → Int32) (V : Nat → Int32 → Prop) (R : List Nat → Prop) (f t : Nat) : Prop := ∀ v, mz_fw n jo V v → R v → mz_t ((jo t) &&& mz_bf t v) f = true
theorem mz_tb_cg {n : Nat} {A B : Nat → Nat → Prop} {fa : Nat → Int32} (h : ∀ f t, f < n → t < n → (A f t ↔ B f t)) (ht : mz_tb n A fa) : mz_tb n B fa := by
  intro f t hf h2
  rcases ht f t hf h2 with ⟨a, b⟩ | ⟨a, b⟩
  · exact Or.inl ⟨a, (h f t hf h2).mp b⟩
  · exact Or.inr ⟨a, fun q => b ((h f t hf h2).mpr q)⟩
theorem mz_AA_cg {n : Nat} {jo : Nat → Int32} {V : Nat → Int32 → Prop} {R S : List Nat → Prop} (h : ∀ v, mz_fw n jo V v → (R v ↔ S v)) (f t : Nat) : mz_AA n jo V R f t ↔ mz_AA n jo V S f t := ⟨fun a v hv hs => a v hv ((h v hv).mpr hs), fun a v hv hr => a v hv ((h v hv).mp hr)⟩
/-- two nested loops over the table -/
def mz_A2 (A : Nat → Nat → Prop) (fq : Nat → Int32) (i j f t : Nat) : Prop := A f t ∧ (f < i ∨ (f = i ∧ t < j) → mz_t (fq t) f = true)
theorem mz_tb_s {n i j : Nat} {A : Nat → Nat → Prop} {fa fq : Nat → Int32} {x : Int32} (hn : n ≤ 8) (hi : i < n) (hj : j < n) (h : mz_tb n (mz_A2 A fq i j) fa) (hx : (x = 1 ∧ ¬ fa (8 * i + j) = 0 ∧ mz_t (fq j) i = true) ∨ (x = 0 ∧ (fa (8 * i + j) = 0 ∨ mz_t (fq j) i = false))) : mz_tb n (mz_A2 A fq i (j + 1)) (upd fa (8 * i + j) (vp_nar .boolean x)) := by
  intro f t hf ht
  have old := h f t hf ht
  by_cases e : f = i ∧ t = j
  · obtain ⟨e1, e2⟩ := e
    rw [e1, e2] at old ⊢
    rw [pk_us]
    have w : mz_A2 A fq i (j + 1) i j ↔ mz_A2 A fq i j i j ∧ mz_t (fq j) i = true := by
      constructor
      · intro q
        exact ⟨⟨q.1, fun c => by omega⟩, q.2 (Or.inr ⟨rfl, by omega⟩)⟩
      · intro q
        exact ⟨q.1.1, fun _ => q.2⟩
    rcases hx with ⟨x1, x2, x3⟩ | ⟨x1, x2⟩
    · rw [x1]
      refine Or.inl ⟨by decide, w.mpr ⟨?_, x3⟩⟩
      rcases old with old | old
      · exact old.2
      · exact absurd old.1 x2
    · rw [x1]
      refine Or.inr ⟨by decide, fun q => ?_⟩
      obtain ⟨q1, q2⟩ := w.mp q
      rcases x2 with x2 | x2
      · rcases old with old | old
        · rw [x2] at old
          exact absurd old.1 (by decide)
        · exact old.2 q1
      · rw [x2] at q2
        cases q2
  · have hne : 8 * f + t ≠ 8 * i + j := by
      intro q
      apply e
      omega
    rw [pk_un hne]
    have w : mz_A2 A fq i (j + 1) f t ↔ mz_A2 A fq i j f t := by
      constructor
      · intro q
        exact ⟨q.1, fun c => q.2 (by omega)⟩
      · intro q
        exact ⟨q.1, fun c => q.2 (by omega)⟩
    rcases old with ⟨a, b⟩ | ⟨a, b⟩
    · exact Or.inl ⟨a, w.mpr b⟩
    · exact Or.inr ⟨a, fun q => b (w.mp q)⟩
theorem mz_tb_0 {n : Nat} {A : Nat → Nat → Prop} {fa fq : Nat → Int32} (h : mz_tb n A fa) : mz_tb n (mz_A2 A fq 0 0) fa := mz_tb_cg (fun f t _ _ => ⟨fun a => ⟨a, fun c => by omega⟩, fun a => a.1⟩) h
theorem mz_tb_r {n i j : Nat} {A : Nat → Nat → Prop} {fa fq : Nat → Int32} (hj : n ≤ j) (h : mz_tb n (mz_A2 A fq i j) fa) : mz_tb n (mz_A2 A fq (i + 1) 0) fa := mz_tb_cg (fun f t _ ht => ⟨fun a => ⟨a.1, fun c => a.2 (by omega)⟩, fun a => ⟨a.1, fun c => a.2 (by omega)⟩⟩) h
theorem mz_tb_e {n i j : Nat} {A : Nat → Nat → Prop} {fa fq : Nat → Int32} (hi : n ≤ i) (h : mz_tb n (mz_A2 A fq i j) fa) : mz_tb n (fun f t => A f t ∧ mz_t (fq t) f = true) fa := mz_tb_cg (fun f t hf _ => ⟨fun a => ⟨a.1, a.2 (Or.inl (by omega))⟩, fun a => ⟨a.1, fun _ => a.2⟩⟩) h
/-- the search stands at depth N -/
def mz_dd (n : Nat) (jo : Nat → Int32) (V : Nat → Int32 → Prop) (N : Nat) (O T : Nat → Nat) (fo fq : Nat → Int32) (u : Int32) : Prop := mz_vw n jo V (mz_wd O N) ∧ (∀ d, d < N → fo d = nI (O d) ∧ O d < n ∧ O d < T d ∧ fq (O d) = (jo (O d)) &&& mz_mk (mz_wd O d)) ∧ u = mz_mk (mz_wd O N)
theorem mz_wd_t {n : Nat} {jo : Nat → Int32} {V : Nat → Int32 → Prop} {O : Nat → Nat} (hn : n ≤ 8) (N : Nat) : mz_vw n jo V (mz_wd O N) → ∀ t, mz_t (mz_mk (mz_wd O N)) t = true ↔ ∃ d, d < N ∧ O d = t := by
  induction N with
  | zero =>
    intro _ t
    show mz_t 0 t = true ↔ _
    rw [mz_t_0]
    constructor
    · intro h
      cases h
    · intro ⟨d, h, _⟩
      omega
  | succ N ih =>
    intro ⟨h1, h2, h3⟩ t
    show mz_t (mz_mk (O N :: mz_wd O N)) t = true ↔ _
    rw [mz_mk_c, mz_t_or, mz_t_1 (by omega), Bool.or_eq_true, ih h3 t]
    constructor
    · intro h
      rcases h with ⟨d, d1, d2⟩ | h
      · exact ⟨d, by omega, d2⟩
      · exact ⟨N, by omega, (by simpa using h : t = O N).symm⟩
    · intro ⟨d, d1, d2⟩
      by_cases e : d = N
      · rw [e] at d2
        exact Or.inr (by simpa using d2.symm)
      · exact Or.inl ⟨d, by omega, d2⟩
theorem mz_wd_bf {n d : Nat} {jo : Nat → Int32} {V : Nat → Int32 → Prop} {O : Nat → Nat} (hn : n ≤ 8) (N : Nat) : mz_vw n jo V (mz_wd O N) → d < N → mz_bf (O d) (mz_wd O N) = mz_mk (mz_wd O d) := by
  induction N with
  | zero =>
    intro _ h
    omega
  | succ N ih =>
    intro ⟨h1, h2, h3⟩ h
    show (if O N = O d then mz_mk (mz_wd O N) else mz_bf (O d) (mz_wd O N)) = _
    by_cases e : d = N
    · rw [e, if_pos rfl]
    · have hne : ¬ O N = O d := by
        intro q
        have u := (mz_wd_t hn N h3 (O N)).mpr ⟨d, by omega, q.symm⟩
        rw [h2.1] at u
        cases u
      rw [if_neg hne]
      exact ih h3 (by omega)
theorem mz_dd_0 {n : Nat} {jo : Nat → Int32} {V : Nat → Int32 → Prop} {O T : Nat → Nat} {fo fq : Nat → Int32} : mz_dd n jo V 0 O T fo fq 0 := ⟨trivial, fun d hd => absurd hd (Nat.not_lt_zero d), rfl⟩
theorem mz_dd_up {n N x : Nat} {jo : Nat → Int32} {V : Nat → Int32 → Prop} {O T : Nat → Nat} {fo fq : Nat → Int32} {u : Int32} (h : mz_dd n jo V N O T fo fq u) : mz_dd n jo V N O (mz_up T N x) fo fq u := ⟨h.1, fun d hd => by
  rw [mz_up_n T _ (by omega)]
  exact h.2.1 d hd, h.2.2⟩
theorem mz_dd_pop {n E : Nat} {jo : Nat → Int32} {V : Nat → Int32 → Prop} {O T : Nat → Nat} {fo fq : Nat → Int32} {u : Int32} (hn : n ≤ 8) (h : mz_dd n jo V (E + 1) O T fo fq u) : mz_dd n jo V E O T fo fq (u &&& (((1 : Int32) <<< ((fo E) &&& 31)) ^^^ (-1))) := by
  obtain ⟨⟨h1, h2, h3⟩, h4, h5⟩ := h
  refine ⟨h3, fun d hd => h4 d (by omega), ?_⟩
  rw [(h4 E (by omega)).1, h5]
  have e := mz_wo_e (X := mz_mk (mz_wd O E)) (H := mz_mk (mz_wd O (E + 1))) (show O E < 32 by omega) h2.1 rfl
  exact e.symm
theorem mz_dd_push {n N : Nat} {jo : Nat → Int32} {V : Nat → Int32 → Prop} {O T : Nat → Nat} {fo fq : Nat → Int32} {u : Int32} (hn : n ≤ 8) (h : mz_dd n jo V N O T fo fq u) (ht : T N < n) (ha : mz_ap jo V (mz_wd O N) (T N)) : mz_dd n jo V (N + 1) (mz_up O N (T N)) (mz_up (mz_up T N (T N + 1)) (N + 1) 0) (upd fo N (nI (T N))) (upd fq (T N) ((jo (T N)) &&& u)) (u ||| ((1 : Int32) <<< (nI (T N) &&& 31))) := by
  obtain ⟨h1, h4, h5⟩ := h
  have lo : ∀ d, d ≤ N → mz_wd (mz_up O N (T N)) d = mz_wd O d := fun d hd => mz_wd_cg d (fun i hi => mz_up_n O _ (by omega))
  have top : mz_wd (mz_up O N (T N)) (N + 1) = T N :: mz_wd O N := by
    show mz_up O N (T N) N :: mz_wd (mz_up O N (T N)) N = _
    rw [mz_up_s, lo N (Nat.le_refl N)]
  refine ⟨?_, fun d hd => ?_, ?_⟩
  · rw [top]
    exact ⟨ht, ha, h1⟩
  · rw [lo d (by omega)]
    by_cases e : d = N
    · rw [e, pk_us, mz_up_s, pk_us, mz_up_n _ _ (show N ≠ N + 1 by omega), mz_up_s, h5]
      exact ⟨rfl, ht, by omega, rfl⟩
    · obtain ⟨d1, d2, d3, d4⟩ := h4 d (by omega)
      have hne : O d ≠ T N := by
        intro q
        have u2 := (mz_wd_t hn N h1 (T N)).mpr ⟨d, by omega, q⟩
        rw [ha.1] at u2
        cases u2
      rw [pk_un e, mz_up_n O _ e, mz_up_n _ _ (show d ≠ N + 1 by omega), mz_up_n _ _ e, pk_un hne]
      exact ⟨d1, d2, d3, d4⟩
  · rw [top, mz_mk_c, h5]
/-- at a full word the table of parents is the word's -/
theorem mz_dd_full {n : Nat} {jo : Nat → Int32} {V : Nat → Int32 → Prop} {O T : Nat → Nat} {fo fq : Nat → Int32} {u : Int32} (hn : n ≤ 8) (h : mz_dd n jo V n O T fo fq u) : mz_fw n jo V (mz_wd O n) ∧ ∀ t, t < n → fq t = (jo t) &&& mz_bf t (mz_wd O n) := by
  obtain ⟨h1, h4, h5⟩ := h
  have f : mz_fw n jo V (mz_wd O n) := ⟨h1, mz_wd_len n⟩
  refine ⟨f, fun t ht => ?_⟩
  have e := mz_mk_f hn h1 (mz_wd_len n)
  obtain ⟨d, d1, d2⟩ := (mz_wd_t hn n h1 t).mp (by rw [e]; exact mz_all_t hn ht)
  rw [← d2, (h4 d d1).2.2.2, mz_wd_bf hn n h1 d1]
/-- what the search knows: how many words it has met, and what held in all of them -/
def mz_kn (n : Nat) (jo : Nat → Int32) (V : Nat → Int32 → Prop) (R : List Nat → Prop) (x : Int32) (fa : Nat → Int32) : Prop := x = nI (mz_cw n jo V n R) ∧ mz_tb n (mz_AA n jo V R) fa
theorem mz_kn_cg {n : Nat} {jo : Nat → Int32} {V : Nat → Int32 → Prop} {R S : List Nat → Prop} {x : Int32} {fa : Nat → Int32} (h : ∀ v, mz_fw n jo V v → (R v ↔ S v)) (hk : mz_kn n jo V R x fa) : mz_kn n jo V S x fa := by
  refine ⟨?_, mz_tb_cg (fun f t _ _ => mz_AA_cg h f t) hk.2⟩
  rw [hk.1, mz_cw_cg (fun v h1 h2 => h v ⟨h1, h2⟩)]
theorem mz_kn_0 {n : Nat} {jo : Nat → Int32} {V : Nat → Int32 → Prop} {O : Nat → Nat} {fa : Nat → Int32} (hf : ∀ q, q < 64 → fa q = 1) (hn : n ≤ 8) : mz_kn n jo V (fun v => ¬ mz_pd n O (fun _ => 0) 0 v) 0 fa := by
  have all : ∀ v, mz_fw n jo V v → mz_pd n O (fun _ => 0) 0 v := by
    intro v hv
    rcases Nat.eq_zero_or_pos n with c | c
    · refine Or.inl ⟨c.symm, ?_⟩
      have e := hv.2
      rw [c] at e ⊢
      exact List.length_eq_zero_iff.mp e
    · obtain ⟨t, ht⟩ := mz_sf_ex (w := []) (v := v) ⟨v, by rw [List.append_nil]⟩ (by rw [hv.2]; exact c)
      exact Or.inr ⟨0, t, Nat.le_refl 0, c, Nat.zero_le t, ht⟩
  refine ⟨?_, fun f t hf2 ht => Or.inl ⟨hf _ (by omega), fun v hv hr => absurd (all v hv) hr⟩⟩
  have e : mz_cw n jo V n (fun v => ¬ mz_pd n O (fun _ => 0) 0 v) = 0 := by
    unfold mz_cw
    rw [List.length_eq_zero_iff, List.filter_eq_nil_iff]
    intro v hv hq
    exact mz_dq_y.mp hq (all v ((mz_gw_m n v).mp hv))
  rw [e]
  rfl
/-- the loops at a full word -/
theorem mz_kn_leaf {n : Nat} {jo : Nat → Int32} {V : Nat → Int32 → Prop} {O T : Nat → Nat} {fo fq fa : Nat → Int32} {u x : Int32} {R : List Nat → Prop} (hn : n ≤ 8) (hd : mz_dd n jo V n O T fo fq u) (hc : x = nI (mz_cw n jo V n R)) (hR : ¬ R (mz_wd O n)) (h : mz_tb n (fun f t => mz_AA n jo V R f t ∧ mz_t (fq t) f = true) fa) : mz_kn n jo V (fun v => R v ∨ v = mz_wd O n) (x + 1) fa := by
  obtain ⟨f1, f2⟩ := mz_dd_full hn hd
  refine ⟨?_, mz_tb_cg (fun f t _ ht => ?_) h⟩
  · rw [mz_cw_1 f1.1 f1.2 hR, hc, nI_1]
  · constructor
    · intro ⟨a, b⟩ v hv hr
      rcases hr with hr | hr
      · exact a v hv hr
      · rw [hr, ← f2 t ht]
        exact b
    · intro a
      refine ⟨fun v hv hr => a v hv (Or.inl hr), ?_⟩
      rw [f2 t ht]
      exact a _ f1 (Or.inr rfl)
/-! both sides' tests -/
def mz_mlk (n : Nat) (jo : Nat → Int32) (pa wi : Int32) : Prop := ∀ x y, x < n → y < x → mz_t (jo x) y = false → (mz_t wi x && mz_t wi y) = (mz_t pa x && mz_t pa y)
def mz_uj (jo : Nat → Int32) (k : Nat) (h : Int32) : Int32 := if mz_t h k = true then (h &&& ((jo k) ^^^ (-1))) &&& (((1 : Int32) <<< (nI k &&& 31)) ^^^ (-1)) else 0
theorem mz_uj_y {jo : Nat → Int32} {k : Nat} {h : Int32} (e : mz_t h k = true) : (h &&& ((jo k) ^^^ (-1))) &&& (((1 : Int32) <<< (nI k &&& 31)) ^^^ (-1)) = mz_uj jo k h := by
  unfold mz_uj
  rw [if_pos e]
theorem mz_uj_n {jo : Nat → Int32} {k : Nat} {h : Int32} (e : mz_t h k = false) : 0 = mz_uj jo k h := by
  unfold mz_uj
  rw [if_neg (by rw [e]; decide)]
theorem mz_uj_t {jo : Nat → Int32} {k y : Nat} {h : Int32} (hk : k < 32) (hy : y < 32) : mz_t (mz_uj jo k h) y = (mz_t h k && (mz_t h y && (!mz_t (jo k) y && !decide (y = k)))) := by
  unfold mz_uj
  cases e : mz_t h k
  · rw [if_neg (by decide), mz_t_0]
    rfl
  · rw [if_pos rfl, mz_t_and, mz_t_and, mz_t_not hy, mz_t_not hy, mz_t_1 hk]
    cases mz_t h y <;> cases mz_t (jo k) y <;> rfl
theorem mz_ml_uj {n : Nat} {jo : Nat → Int32} {pa wi : Int32} (hn : n ≤ 8) (hs : ∀ a b, a < n → b < n → mz_t (jo a) b = mz_t (jo b) a) (hp : mz_hp n pa) (hw : mz_hp n wi) : (∀ k, k < n → mz_uj jo k wi = mz_uj jo k pa) ↔ mz_mlk n jo pa wi := by
  constructor
  · intro h x y hx hy hj
    have e : mz_t (mz_uj jo x wi) y = mz_t (mz_uj jo x pa) y := by rw [h x hx]
    rw [mz_uj_t (by omega) (by omega), mz_uj_t (by omega) (by omega), hj] at e
    have hne : ¬ y = x := by omega
    simpa [hne] using e
  · intro h k hk
    refine mz_t_eq (fun y hy => ?_)
    rw [mz_uj_t (by omega) hy, mz_uj_t (by omega) hy]
    by_cases yn : y < n
    · by_cases e : y = k
      · simp [e]
      · cases q : mz_t (jo k) y
        · rcases Nat.lt_or_ge y k with c | c
          · have u := h k y hk c q
            simpa [e] using u
          · have q2 : mz_t (jo y) k = false := by
              rw [hs y k yn hk]
              exact q
            have u := h y k yn (by omega) q2
            rw [Bool.and_comm (mz_t wi y), Bool.and_comm (mz_t pa y)] at u
            simpa [e] using u
        · simp
    · have e1 : mz_t wi y = false := by
        cases q : mz_t wi y
        · rfl
        · exact absurd (hw y hy q) yn
      have e2 : mz_t pa y = false := by
        cases q : mz_t pa y
        · rfl
        · exact absurd (hp y hy q) yn
      rw [e1, e2]
      simp
