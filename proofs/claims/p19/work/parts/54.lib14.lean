/-! drawings that look alike: words of things, the last one first; a drawing is a word in the least order -/
noncomputable def mz_dq (p : Prop) : Bool := @decide p (Classical.propDecidable p)
theorem mz_dq_y {p : Prop} : mz_dq p = true ↔ p := by
  unfold mz_dq
  exact @decide_eq_true_iff p (Classical.propDecidable p)
def mz_mk : List Nat → Int32
  | [] => 0
  | t :: w => mz_mk w ||| ((1 : Int32) <<< (nI t &&& 31))
def mz_lo (jo : Nat → Int32) (t : Nat) : List Nat → Prop
  | [] => True
  | o :: w => mz_t (jo t) o = true ∨ (o ≤ t ∧ mz_lo jo t w)
def mz_ap (jo : Nat → Int32) (V : Nat → Int32 → Prop) (w : List Nat) (t : Nat) : Prop := mz_t (mz_mk w) t = false ∧ V t ((jo t) &&& mz_mk w) ∧ mz_lo jo t w
def mz_vw (n : Nat) (jo : Nat → Int32) (V : Nat → Int32 → Prop) : List Nat → Prop
  | [] => True
  | t :: w => t < n ∧ mz_ap jo V w t ∧ mz_vw n jo V w
def mz_sk (jo : Nat → Int32) (m : Nat) : List Nat → Prop
  | [] => False
  | o :: w => o = m ∨ (mz_t (jo m) o = false ∧ mz_sk jo m w)
noncomputable def mz_ins (jo : Nat → Int32) (m : Nat) : List Nat → List Nat
  | [] => [m]
  | o :: w => if mz_dq (mz_lo jo m (o :: w)) = true then m :: o :: w else o :: mz_ins jo m w
def mz_del (m : Nat) : List Nat → List Nat
  | [] => []
  | o :: w => if o = m then w else o :: mz_del m w
theorem mz_ins_y {jo : Nat → Int32} {m : Nat} {w : List Nat} (h : mz_lo jo m w) : mz_ins jo m w = m :: w := by
  cases w with
  | nil => rfl
  | cons o w =>
    show (if mz_dq (mz_lo jo m (o :: w)) = true then m :: o :: w else o :: mz_ins jo m w) = _
    rw [if_pos (mz_dq_y.mpr h)]
theorem mz_ins_n {jo : Nat → Int32} {m o : Nat} {w : List Nat} (h : ¬ mz_lo jo m (o :: w)) : mz_ins jo m (o :: w) = o :: mz_ins jo m w := by
  show (if mz_dq (mz_lo jo m (o :: w)) = true then m :: o :: w else o :: mz_ins jo m w) = _
  rw [if_neg (fun q => h (mz_dq_y.mp q))]
theorem mz_del_y {m o : Nat} {w : List Nat} (h : o = m) : mz_del m (o :: w) = w := if_pos h
theorem mz_del_n {m o : Nat} {w : List Nat} (h : ¬ o = m) : mz_del m (o :: w) = o :: mz_del m w := if_neg h
theorem mz_jm {a x : Int32} {o : Nat} (ho : o < 32) (h : mz_t a o = false) : a &&& (x ||| ((1 : Int32) <<< (nI o &&& 31))) = a &&& x := by
  refine mz_t_eq (fun k hk => ?_)
  rw [mz_t_and, mz_t_and, mz_t_or, mz_t_1 ho]
  by_cases e : k = o
  · rw [e, h]
    rfl
  · simp [e]
theorem mz_orc (x a b : Int32) : (x ||| a) ||| b = (x ||| b) ||| a := by
  refine mz_t_eq (fun k hk => ?_)
  rw [mz_t_or, mz_t_or, mz_t_or, mz_t_or]
  cases mz_t x k <;> cases mz_t a k <;> cases mz_t b k <;> rfl
theorem mz_mk_c {t : Nat} {w : List Nat} : mz_mk (t :: w) = mz_mk w ||| ((1 : Int32) <<< (nI t &&& 31)) := rfl
theorem mz_lo_ins {jo : Nat → Int32} {o m : Nat} (hJ : mz_t (jo o) m = false) (w : List Nat) : mz_lo jo o w → (m < o ∨ ¬ mz_lo jo m w) → mz_lo jo o (mz_ins jo m w) := by
  induction w with
  | nil =>
    intro _ h
    rcases h with h | h
    · exact Or.inr ⟨Nat.le_of_lt h, trivial⟩
    · exact absurd trivial h
  | cons x w ih =>
    intro h1 h2
    by_cases c : mz_lo jo m (x :: w)
    · rw [mz_ins_y c]
      have hm : m < o := by
        rcases h2 with h | h
        · exact h
        · exact absurd c h
      exact Or.inr ⟨Nat.le_of_lt hm, h1⟩
    · rw [mz_ins_n c]
      rcases h1 with h1 | ⟨h1, h3⟩
      · exact Or.inl h1
      · refine Or.inr ⟨h1, ih h3 ?_⟩
        by_cases c2 : m < x
        · exact Or.inl (by omega)
        · exact Or.inr (fun c3 => c (Or.inr ⟨by omega, c3⟩))
theorem mz_ins_mk {jo : Nat → Int32} {m : Nat} (w : List Nat) : mz_mk (mz_ins jo m w) = mz_mk w ||| ((1 : Int32) <<< (nI m &&& 31)) := by
  induction w with
  | nil => rfl
  | cons o w ih =>
    by_cases c : mz_lo jo m (o :: w)
    · rw [mz_ins_y c]
      rfl
    · rw [mz_ins_n c, mz_mk_c, ih, mz_mk_c, mz_orc]
theorem mz_ins_vw {n m : Nat} {jo : Nat → Int32} {V : Nat → Int32 → Prop} (hn : n ≤ 8) (hs : ∀ a b, a < n → b < n → mz_t (jo a) b = mz_t (jo b) a) (hm : m < n) (w : List Nat) : mz_vw n jo V w → mz_t (mz_mk w) m = false → V m ((jo m) &&& mz_mk w) → mz_vw n jo V (mz_ins jo m w) := by
  induction w with
  | nil =>
    intro _ h hv
    exact ⟨hm, ⟨h, hv, trivial⟩, trivial⟩
  | cons o w ih =>
    intro h1 h2 hv
    by_cases c : mz_lo jo m (o :: w)
    · rw [mz_ins_y c]
      exact ⟨hm, ⟨h2, hv, c⟩, h1⟩
    · rw [mz_ins_n c]
      obtain ⟨o1, ⟨o2, o3, o4⟩, o5⟩ := h1
      have cj : mz_t (jo m) o = false := by
        cases e : mz_t (jo m) o
        · rfl
        · exact absurd (Or.inl e) c
      have cj2 : mz_t (jo o) m = false := by
        rw [hs o m o1 hm]
        exact cj
      rw [mz_mk_c, mz_t_or, mz_t_1 (by omega), Bool.or_eq_false_iff] at h2
      have hne : ¬ m = o := by simpa using h2.2
      rw [mz_mk_c, mz_jm (by omega) cj] at hv
      refine ⟨o1, ⟨?_, ?_, ?_⟩, ih o5 h2.1 hv⟩
      · rw [mz_ins_mk, mz_t_or, mz_t_1 (by omega), o2]
        simp
        omega
      · rw [mz_ins_mk, mz_jm (by omega) cj2]
        exact o3
      · refine mz_lo_ins cj2 w o4 ?_
        by_cases c2 : m < o
        · exact Or.inl c2
        · exact Or.inr (fun c3 => c (Or.inr ⟨by omega, c3⟩))
theorem mz_ins_sk {jo : Nat → Int32} {m : Nat} (w : List Nat) : mz_sk jo m (mz_ins jo m w) := by
  induction w with
  | nil => exact Or.inl rfl
  | cons o w ih =>
    by_cases c : mz_lo jo m (o :: w)
    · rw [mz_ins_y c]
      exact Or.inl rfl
    · rw [mz_ins_n c]
      refine Or.inr ⟨?_, ih⟩
      cases e : mz_t (jo m) o
      · rfl
      · exact absurd (Or.inl e) c
theorem mz_ins_len {jo : Nat → Int32} {m : Nat} (w : List Nat) : (mz_ins jo m w).length = w.length + 1 := by
  induction w with
  | nil => rfl
  | cons o w ih =>
    by_cases c : mz_lo jo m (o :: w)
    · rw [mz_ins_y c]
      rfl
    · rw [mz_ins_n c, List.length_cons, ih, List.length_cons]
theorem mz_del_ins {jo : Nat → Int32} {m : Nat} (w : List Nat) (hw : ∀ o, o ∈ w → o < 32) : mz_t (mz_mk w) m = false → mz_del m (mz_ins jo m w) = w := by
  induction w with
  | nil =>
    intro _
    exact mz_del_y rfl
  | cons o w ih =>
    intro h
    by_cases c : mz_lo jo m (o :: w)
    · rw [mz_ins_y c]
      exact mz_del_y rfl
    · rw [mz_mk_c, mz_t_or, mz_t_1 (hw o (List.mem_cons_self ..)), Bool.or_eq_false_iff] at h
      have hne : ¬ o = m := by
        intro e
        have h2 := h.2
        rw [e] at h2
        simp at h2
      rw [mz_ins_n c, mz_del_n hne, ih (fun x hx => hw x (List.mem_cons_of_mem _ hx)) h.1]
theorem mz_lo_del {jo : Nat → Int32} {o m : Nat} (hJ : mz_t (jo o) m = false) (w : List Nat) : mz_lo jo o w → mz_lo jo o (mz_del m w) := by
  induction w with
  | nil => exact fun h => h
  | cons x w ih =>
    intro h
    by_cases e : x = m
    · rw [mz_del_y e]
      rcases h with h | ⟨_, h⟩
      · rw [e, hJ] at h
        cases h
      · exact h
    · rw [mz_del_n e]
      rcases h with h | ⟨h1, h2⟩
      · exact Or.inl h
      · exact Or.inr ⟨h1, ih h2⟩
theorem mz_del_vw {n m : Nat} {jo : Nat → Int32} {V : Nat → Int32 → Prop} (hn : n ≤ 8) (hs : ∀ a b, a < n → b < n → mz_t (jo a) b = mz_t (jo b) a) (hm : m < n) (w : List Nat) : mz_vw n jo V w → mz_sk jo m w → mz_vw n jo V (mz_del m w) ∧ mz_mk w = mz_mk (mz_del m w) ||| ((1 : Int32) <<< (nI m &&& 31)) ∧ mz_t (mz_mk (mz_del m w)) m = false ∧ V m ((jo m) &&& mz_mk (mz_del m w)) := by
  induction w with
  | nil =>
    intro _ h
    exact h.elim
  | cons o w ih =>
    intro ⟨o1, ⟨o2, o3, o4⟩, o5⟩ hk
    by_cases e : o = m
    · rw [mz_del_y e, ← e]
      exact ⟨o5, rfl, o2, o3⟩
    · rcases hk with hk | ⟨j1, j2⟩
      · exact absurd hk e
      · obtain ⟨i1, i2, i3, i4⟩ := ih o5 j2
        have j3 : mz_t (jo o) m = false := by
          rw [hs o m o1 hm]
          exact j1
        rw [mz_del_n e]
        refine ⟨⟨o1, ⟨?_, ?_, mz_lo_del j3 w o4⟩, i1⟩, ?_, ?_, ?_⟩
        · rw [i2, mz_t_or, Bool.or_eq_false_iff] at o2
          exact o2.1
        · rw [i2, mz_jm (by omega) j3] at o3
          exact o3
        · rw [mz_mk_c, mz_mk_c, i2, mz_orc]
        · rw [mz_mk_c, mz_t_or, mz_t_1 (by omega), i3]
          simp
          omega
        · rw [mz_mk_c, mz_jm (by omega) j1]
          exact i4
theorem mz_del_len {jo : Nat → Int32} {m : Nat} (w : List Nat) : mz_sk jo m w → (mz_del m w).length + 1 = w.length := by
  induction w with
  | nil => exact fun h => h.elim
  | cons o w ih =>
    intro h
    by_cases e : o = m
    · rw [mz_del_y e]
      rfl
    · rcases h with h | ⟨_, h⟩
      · exact absurd h e
      · rw [mz_del_n e, List.length_cons, List.length_cons, ih h]
theorem mz_ins_del {n m : Nat} {jo : Nat → Int32} {V : Nat → Int32 → Prop} (hs : ∀ a b, a < n → b < n → mz_t (jo a) b = mz_t (jo b) a) (hm : m < n) (w : List Nat) : mz_vw n jo V w → mz_sk jo m w → mz_ins jo m (mz_del m w) = w := by
  induction w with
  | nil =>
    intro _ h
    exact h.elim
  | cons o w ih =>
    intro ⟨o1, ⟨o2, o3, o4⟩, o5⟩ hk
    by_cases e : o = m
    · rw [mz_del_y e]
      rw [e] at o4
      rw [mz_ins_y o4, e]
    · rcases hk with hk | ⟨j1, j2⟩
      · exact absurd hk e
      · have i := ih o5 j2
        have j3 : mz_t (jo o) m = false := by
          rw [hs o m o1 hm]
          exact j1
        have c : ¬ mz_lo jo m (o :: mz_del m w) := by
          intro q
          rcases q with q | ⟨q1, q2⟩
          · rw [j1] at q
            cases q
          · rw [mz_ins_y q2] at i
            rw [← i] at o4
            rcases o4 with o4 | ⟨o4, _⟩
            · rw [j3] at o4
              cases o4
            · omega
        rw [mz_del_n e, mz_ins_n c, i]
theorem mz_sk_ins {jo : Nat → Int32} {s m : Nat} (hne : ¬ m = s) (hJ : mz_t (jo s) m = false) (w : List Nat) : mz_sk jo s (mz_ins jo m w) ↔ mz_sk jo s w := by
  induction w with
  | nil =>
    constructor
    · intro h
      rcases h with h | ⟨_, h⟩
      · exact absurd h hne
      · exact h
    · intro h
      exact h.elim
  | cons o w ih =>
    by_cases c : mz_lo jo m (o :: w)
    · rw [mz_ins_y c]
      constructor
      · intro h
        rcases h with h | ⟨_, h⟩
        · exact absurd h hne
        · exact h
      · intro h
        exact Or.inr ⟨hJ, h⟩
    · rw [mz_ins_n c]
      constructor
      · intro h
        rcases h with h | ⟨h1, h2⟩
        · exact Or.inl h
        · exact Or.inr ⟨h1, ih.mp h2⟩
      · intro h
        rcases h with h | ⟨h1, h2⟩
        · exact Or.inl h
        · exact Or.inr ⟨h1, ih.mpr h2⟩
theorem mz_sk_two {n a b : Nat} {jo : Nat → Int32} (hs : ∀ a b, a < n → b < n → mz_t (jo a) b = mz_t (jo b) a) (ha : a < n) (hb : b < n) (hab : ¬ a = b) (w : List Nat) : mz_sk jo a w → mz_sk jo b w → mz_t (jo a) b = false := by
  induction w with
  | nil =>
    intro h
    exact h.elim
  | cons o w ih =>
    intro h1 h2
    rcases h1 with h1 | ⟨h1, h3⟩
    · rcases h2 with h2 | ⟨h2, _⟩
      · exact absurd (h1.symm.trans h2) hab
      · rw [h1] at h2
        rw [hs a b ha hb]
        exact h2
    · rcases h2 with h2 | ⟨_, h4⟩
      · rw [h2] at h1
        exact h1
      · exact ih h3 h4
theorem mz_vw_lt {n : Nat} {jo : Nat → Int32} {V : Nat → Int32 → Prop} (w : List Nat) : mz_vw n jo V w → ∀ o, o ∈ w → o < n := by
  induction w with
  | nil =>
    intro _ o ho
    cases ho
  | cons t w ih =>
    intro ⟨h1, _, h3⟩ o ho
    rcases List.mem_cons.mp ho with e | e
    · rw [e]
      exact h1
    · exact ih h3 o e
theorem mz_sk_m {n m : Nat} {jo : Nat → Int32} {V : Nat → Int32 → Prop} (hn : n ≤ 8) (hs : ∀ a b, a < n → b < n → mz_t (jo a) b = mz_t (jo b) a) (hi : ∀ a, a < n → mz_t (jo a) a = false) (hm : m < n) {w : List Nat} (hw : mz_vw n jo V w) (hk : mz_sk jo m w) : mz_t (mz_mk w) m = true ∧ V m ((jo m) &&& mz_mk w) := by
  obtain ⟨_, d2, _, d4⟩ := mz_del_vw hn hs hm w hw hk
  constructor
  · rw [d2, mz_t_or, mz_t_1 (by omega)]
    simp
  · rw [d2, mz_jm (by omega) (hi m hm)]
    exact d4
/-! the words of a length, and how many of them have a property -/
noncomputable def mz_gw (n : Nat) (jo : Nat → Int32) (V : Nat → Int32 → Prop) : Nat → List (List Nat)
  | 0 => [[]]
  | k + 1 => (mz_gw n jo V k).flatMap (fun w => ((List.range n).filter (fun t => mz_dq (mz_ap jo V w t))).map (fun t => t :: w))
theorem mz_gw_m {n : Nat} {jo : Nat → Int32} {V : Nat → Int32 → Prop} (k : Nat) : ∀ v, v ∈ mz_gw n jo V k ↔ mz_vw n jo V v ∧ v.length = k := by
  induction k with
  | zero =>
    intro v
    show v ∈ [[]] ↔ _
    rw [List.mem_singleton]
    constructor
    · intro h
      rw [h]
      exact ⟨trivial, rfl⟩
    · intro h
      exact List.length_eq_zero_iff.mp h.2
  | succ k ih =>
    intro v
    show v ∈ (mz_gw n jo V k).flatMap (fun w => ((List.range n).filter (fun t => mz_dq (mz_ap jo V w t))).map (fun t => t :: w)) ↔ _
    rw [List.mem_flatMap]
    constructor
    · intro ⟨w, w1, w2⟩
      obtain ⟨t, t1, t2⟩ := List.mem_map.mp w2
      obtain ⟨t3, t4⟩ := List.mem_filter.mp t1
      obtain ⟨w3, w4⟩ := (ih w).mp w1
      rw [← t2]
      exact ⟨⟨List.mem_range.mp t3, mz_dq_y.mp t4, w3⟩, by rw [List.length_cons, w4]⟩
    · intro ⟨h1, h2⟩
      cases v with
      | nil => cases h2
      | cons t w =>
        obtain ⟨h3, h4, h5⟩ := h1
        refine ⟨w, (ih w).mpr ⟨h5, ?_⟩, List.mem_map.mpr ⟨t, List.mem_filter.mpr ⟨List.mem_range.mpr h3, mz_dq_y.mpr h4⟩, rfl⟩⟩
        rw [List.length_cons] at h2
        omega
theorem mz_gw_nd {n : Nat} {jo : Nat → Int32} {V : Nat → Int32 → Prop} (k : Nat) : (mz_gw n jo V k).Nodup := by
  induction k with
  | zero => exact List.nodup_cons.mpr ⟨(fun h => by cases h), List.nodup_nil⟩
  | succ k ih =>
    show List.Pairwise (· ≠ ·) ((mz_gw n jo V k).flatMap (fun w => ((List.range n).filter (fun t => mz_dq (mz_ap jo V w t))).map (fun t => t :: w)))
    rw [List.pairwise_flatMap]
    constructor
    · intro w _
      rw [List.pairwise_map]
      refine List.Pairwise.imp ?_ (List.Pairwise.filter _ List.nodup_range)
      intro a b hab e
      exact hab (List.cons.inj e).1
    · refine List.Pairwise.imp ?_ ih
      intro a b hab x hx y hy e
      obtain ⟨s, _, s2⟩ := List.mem_map.mp hx
      obtain ⟨t, _, t2⟩ := List.mem_map.mp hy
      rw [← s2, ← t2] at e
      exact hab (List.cons.inj e).2
theorem mz_inj_le {f : List Nat → List Nat} (l1 : List (List Nat)) : ∀ (l2 : List (List Nat)), l1.Nodup → (∀ x, x ∈ l1 → f x ∈ l2) → (∀ x y, x ∈ l1 → y ∈ l1 → f x = f y → x = y) → l1.length ≤ l2.length := by
  induction l1 with
  | nil =>
    intro l2 _ _ _
    exact Nat.zero_le _
  | cons a l ih =>
    intro l2 hnd hin hij
    obtain ⟨n1, n2⟩ := List.nodup_cons.mp hnd
    obtain ⟨s, t, e⟩ := List.append_of_mem (hin a (List.mem_cons_self ..))
    have u := ih (s ++ t) n2 (fun x hx => by
      have h1 := hin x (List.mem_cons_of_mem _ hx)
      rw [e, List.mem_append, List.mem_cons] at h1
      rw [List.mem_append]
      rcases h1 with h1 | h1 | h1
      · exact Or.inl h1
      · have h2 := hij x a (List.mem_cons_of_mem _ hx) (List.mem_cons_self ..) h1
        rw [h2] at hx
        exact absurd hx n1
      · exact Or.inr h1) (fun x y hx hy h1 => hij x y (List.mem_cons_of_mem _ hx) (List.mem_cons_of_mem _ hy) h1)
    rw [e, List.length_append, List.length_cons, List.length_cons]
    rw [List.length_append] at u
    omega
/-- how many words of length k have a property -/
noncomputable def mz_cw (n : Nat) (jo : Nat → Int32) (V : Nat → Int32 → Prop) (k : Nat) (Q : List Nat → Prop) : Nat := ((mz_gw n jo V k).filter (fun v => mz_dq (Q v))).length
theorem mz_cw_le {n : Nat} {jo : Nat → Int32} {V V1 : Nat → Int32 → Prop} {k k1 : Nat} {Q Q1 : List Nat → Prop} (f : List Nat → List Nat) (h1 : ∀ v, mz_vw n jo V v → v.length = k → Q v → mz_vw n jo V1 (f v) ∧ (f v).length = k1 ∧ Q1 (f v)) (h2 : ∀ v w, mz_vw n jo V v → mz_vw n jo V w → Q v → Q w → f v = f w → v = w) : mz_cw n jo V k Q ≤ mz_cw n jo V1 k1 Q1 := by
  unfold mz_cw
  refine mz_inj_le (f := f) _ _ (List.Pairwise.filter _ (mz_gw_nd k)) (fun v hv => ?_) (fun v w hv hw e => ?_)
  · obtain ⟨a, b⟩ := List.mem_filter.mp hv
    obtain ⟨a1, a2⟩ := (mz_gw_m k v).mp a
    obtain ⟨c1, c2, c3⟩ := h1 v a1 a2 (mz_dq_y.mp b)
    exact List.mem_filter.mpr ⟨(mz_gw_m k1 _).mpr ⟨c1, c2⟩, mz_dq_y.mpr c3⟩
  · obtain ⟨a, b⟩ := List.mem_filter.mp hv
    obtain ⟨c, d⟩ := List.mem_filter.mp hw
    exact h2 v w ((mz_gw_m k v).mp a).1 ((mz_gw_m k w).mp c).1 (mz_dq_y.mp b) (mz_dq_y.mp d) e
/-- a heap without one thing -/
def mz_wo (H : Int32) (m : Nat) : Int32 := H &&& (((1 : Int32) <<< (nI m &&& 31)) ^^^ (-1))
theorem mz_wo_t {H : Int32} {m k : Nat} (hm : m < 32) (hk : k < 32) : mz_t (mz_wo H m) k = (mz_t H k && !decide (k = m)) := by
  unfold mz_wo
  rw [mz_t_and, mz_t_not hk, mz_t_1 hm]
theorem mz_wo_b {H : Int32} {m : Nat} (hm : m < 32) (h : mz_t H m = true) : H = mz_wo H m ||| ((1 : Int32) <<< (nI m &&& 31)) := by
  refine mz_t_eq (fun k hk => ?_)
  rw [mz_t_or, mz_wo_t hm hk, mz_t_1 hm]
  by_cases e : k = m
  · rw [e, h]
    simp
  · simp [e]
theorem mz_wo_e {X H : Int32} {m : Nat} (hm : m < 32) (h : mz_t X m = false) (e : H = X ||| ((1 : Int32) <<< (nI m &&& 31))) : X = mz_wo H m := by
  refine mz_t_eq (fun k hk => ?_)
  rw [mz_wo_t hm hk, e, mz_t_or, mz_t_1 hm]
  by_cases c : k = m
  · rw [c, h]
    simp
  · simp [c]
theorem mz_c1 {n m q k : Nat} {jo : Nat → Int32} {V : Nat → Int32 → Prop} {H : Int32} {S : Nat → Bool} (hn : n ≤ 8) (hs : ∀ a b, a < n → b < n → mz_t (jo a) b = mz_t (jo b) a) (hi : ∀ a, a < n → mz_t (jo a) a = false) (hm : m < n) (hH : mz_t H m = true) (hV : V m ((jo m) &&& H)) (hS : ∀ a, a < q → S a = true → ¬ m = a ∧ mz_t (jo a) m = false) : mz_cw n jo V (k + 1) (fun v => mz_mk v = H ∧ mz_sk jo m v ∧ ∀ a, a < q → S a = true → mz_sk jo a v) = mz_cw n jo V k (fun v => mz_mk v = mz_wo H m ∧ ∀ a, a < q → S a = true → mz_sk jo a v) := by
  have hVw : V m ((jo m) &&& mz_wo H m) := by
    have e := mz_jm (x := mz_wo H m) (show m < 32 by omega) (hi m hm)
    rw [← e, ← mz_wo_b (by omega) hH]
    exact hV
  have tm : mz_t (mz_wo H m) m = false := by
    rw [mz_wo_t (by omega) (by omega)]
    simp
  have dm : ∀ v, mz_vw n jo V v → mz_mk v = mz_wo H m → mz_del m (mz_ins jo m v) = v := by
    intro v h1 h2
    refine mz_del_ins v (fun o ho => ?_) ?_
    · have := mz_vw_lt v h1 o ho
      omega
    · rw [h2]
      exact tm
  apply Nat.le_antisymm
  · refine mz_cw_le (mz_del m) (fun v h1 h2 h3 => ?_) (fun v w h1 h2 h3 h4 e => ?_)
    · obtain ⟨d1, d2, d3, _⟩ := mz_del_vw hn hs hm v h1 h3.2.1
      refine ⟨d1, ?_, ?_, fun a ha hx => ?_⟩
      · have := mz_del_len v h3.2.1
        omega
      · rw [h3.1] at d2
        exact mz_wo_e (by omega) d3 d2
      · obtain ⟨x1, x2⟩ := hS a ha hx
        have y := mz_sk_ins x1 x2 (mz_del m v)
        rw [mz_ins_del hs hm v h1 h3.2.1] at y
        exact y.mp (h3.2.2 a ha hx)
    · rw [← mz_ins_del hs hm v h1 h3.2.1, e, mz_ins_del hs hm w h2 h4.2.1]
  · refine mz_cw_le (mz_ins jo m) (fun v h1 h2 h3 => ?_) (fun v w h1 h2 h3 h4 e => ?_)
    · refine ⟨mz_ins_vw hn hs hm v h1 (by rw [h3.1]; exact tm) (by rw [h3.1]; exact hVw), by rw [mz_ins_len, h2], ?_, mz_ins_sk v, fun a ha hx => ?_⟩
      · rw [mz_ins_mk, h3.1, ← mz_wo_b (by omega) hH]
      · obtain ⟨x1, x2⟩ := hS a ha hx
        exact (mz_sk_ins x1 x2 v).mpr (h3.2 a ha hx)
    · rw [← dm v h1 h3.1, e, dm w h2 h4.1]
theorem mz_pc_ins {S : Int32} {m : Nat} (hm : m < 32) (hS : mz_t S m = false) (k : Nat) : mz_pc (S ||| ((1 : Int32) <<< (nI m &&& 31))) k = mz_pc S k + (if m < k then 1 else 0) := by
  induction k with
  | zero =>
    show 0 = 0 + (if m < 0 then 1 else 0)
    rw [if_neg (Nat.not_lt_zero m)]
  | succ k ih =>
    have e : mz_t (S ||| ((1 : Int32) <<< (nI m &&& 31))) k = (mz_t S k || decide (k = m)) := by rw [mz_t_or, mz_t_1 hm]
    by_cases c : k = m
    · have e2 : mz_t (S ||| ((1 : Int32) <<< (nI m &&& 31))) k = true := by
        rw [e]
        simp [c]
      have e3 : mz_t S k = false := by
        rw [c]
        exact hS
      have e4 : (if m < k then 1 else 0) = 0 := if_neg (show ¬ m < k by omega)
      have e5 : (if m < k + 1 then 1 else 0) = 1 := if_pos (show m < k + 1 by omega)
      rw [mz_pc_y e2, mz_pc_n e3, ih, e4, e5]
    · have e9 : (if m < k + 1 then 1 else 0) = (if m < k then 1 else 0) := by
        by_cases c2 : m < k
        · rw [if_pos c2, if_pos (show m < k + 1 by omega)]
        · rw [if_neg c2, if_neg (show ¬ m < k + 1 by omega)]
      cases e3 : mz_t S k
      · have e2 : mz_t (S ||| ((1 : Int32) <<< (nI m &&& 31))) k = false := by
          rw [e, e3]
          simp [c]
        rw [mz_pc_n e2, mz_pc_n e3, ih, e9]
      · have e2 : mz_t (S ||| ((1 : Int32) <<< (nI m &&& 31))) k = true := by
          rw [e, e3]
          rfl
        rw [mz_pc_y e2, mz_pc_y e3, ih, e9]
        omega
theorem mz_pc_wo {H : Int32} {m : Nat} (hm : m < 8) (h : mz_t H m = true) : mz_pc H 8 = mz_pc (mz_wo H m) 8 + 1 := by
  have t : mz_t (mz_wo H m) m = false := by
    rw [mz_wo_t (by omega) (by omega)]
    simp
  have u := mz_pc_ins (show m < 32 by omega) t 8
  rw [← mz_wo_b (by omega) h, if_pos hm] at u
  exact u
theorem mz_len {n : Nat} {jo : Nat → Int32} {V : Nat → Int32 → Prop} (hn : n ≤ 8) (w : List Nat) : mz_vw n jo V w → w.length = mz_pc (mz_mk w) 8 := by
  induction w with
  | nil =>
    intro _
    show 0 = mz_pc 0 8
    decide
  | cons t w ih =>
    intro ⟨h1, h2, h3⟩
    rw [List.length_cons, ih h3, mz_mk_c, mz_pc_ins (by omega) h2.1 8, if_pos (by omega)]
/-- how many words have just the things of a heap -/
noncomputable def mz_nuw (n : Nat) (jo : Nat → Int32) (V : Nat → Int32 → Prop) (H : Int32) : Nat := mz_cw n jo V (mz_pc H 8) (fun v => mz_mk v = H)
/-- a heap without the things of a set, below k -/
def mz_mns (S : Nat → Bool) : Nat → Int32 → Int32
  | 0, H => H
  | k + 1, H => mz_mns S k (if S k = true then mz_wo H k else H)
theorem mz_mn_t {S : Nat → Bool} (k : Nat) : ∀ (H : Int32), k ≤ 8 → ∀ j, j < 32 → mz_t (mz_mns S k H) j = (mz_t H j && !(decide (j < k) && S j)) := by
  induction k with
  | zero =>
    intro H _ j hj
    show mz_t H j = _
    simp
  | succ k ih =>
    intro H hk j hj
    show mz_t (mz_mns S k (if S k = true then mz_wo H k else H)) j = _
    rw [ih _ (by omega) j hj]
    cases c : S k
    · rw [if_neg (by decide)]
      by_cases e : j = k
      · rw [e, c]
        simp
      · by_cases e2 : j < k
        · simp [e2, show j < k + 1 by omega]
        · simp [e2, show ¬ j < k + 1 by omega]
    · rw [if_pos rfl, mz_wo_t (by omega) hj]
      by_cases e : j = k
      · rw [e, c]
        simp
      · by_cases e2 : j < k
        · simp [e, e2, show j < k + 1 by omega]
        · simp [e, e2, show ¬ j < k + 1 by omega]
theorem mz_cS {n : Nat} {jo : Nat → Int32} {V : Nat → Int32 → Prop} {S : Nat → Bool} (hn : n ≤ 8) (hs : ∀ a b, a < n → b < n → mz_t (jo a) b = mz_t (jo b) a) (hi : ∀ a, a < n → mz_t (jo a) a = false) (k : Nat) : ∀ (H : Int32), k ≤ 8 → (∀ a, a < k → S a = true → a < n ∧ mz_t H a = true ∧ V a ((jo a) &&& H)) → (∀ a b, a < k → b < k → S a = true → S b = true → mz_t (jo a) b = false) → mz_cw n jo V (mz_pc H 8) (fun v => mz_mk v = H ∧ ∀ a, a < k → S a = true → mz_sk jo a v) = mz_nuw n jo V (mz_mns S k H) := by
  induction k with
  | zero =>
    intro H _ _ _
    show mz_cw n jo V (mz_pc H 8) _ = mz_cw n jo V (mz_pc H 8) (fun v => mz_mk v = H)
    have e : (fun v : List Nat => mz_mk v = H ∧ ∀ a, a < 0 → S a = true → mz_sk jo a v) = (fun v => mz_mk v = H) := by
      funext v
      refine propext ⟨fun h => h.1, fun h => ⟨h, fun a ha => absurd ha (Nat.not_lt_zero a)⟩⟩
    rw [e]
  | succ k ih =>
    intro H hk h1 h2
    show _ = mz_nuw n jo V (mz_mns S k (if S k = true then mz_wo H k else H))
    cases c : S k
    · rw [if_neg (by decide), ← ih H (by omega) (fun a ha => h1 a (by omega)) (fun a b ha hb => h2 a b (by omega) (by omega))]
      have e : (fun v : List Nat => mz_mk v = H ∧ ∀ a, a < k + 1 → S a = true → mz_sk jo a v) = (fun v => mz_mk v = H ∧ ∀ a, a < k → S a = true → mz_sk jo a v) := by
        funext v
        refine propext ⟨fun h => ⟨h.1, fun a ha => h.2 a (by omega)⟩, fun h => ⟨h.1, fun a ha hx => ?_⟩⟩
        by_cases e2 : a = k
        · rw [e2, c] at hx
          cases hx
        · exact h.2 a (by omega) hx
      rw [e]
    · obtain ⟨kn, kH, kV⟩ := h1 k (by omega) c
      have hS : ∀ a, a < k → S a = true → ¬ k = a ∧ mz_t (jo a) k = false := fun a ha hx => ⟨by omega, h2 a k (by omega) (by omega) hx c⟩
      have e : (fun v : List Nat => mz_mk v = H ∧ ∀ a, a < k + 1 → S a = true → mz_sk jo a v) = (fun v => mz_mk v = H ∧ mz_sk jo k v ∧ ∀ a, a < k → S a = true → mz_sk jo a v) := by
        funext v
        refine propext ⟨fun h => ⟨h.1, h.2 k (by omega) c, fun a ha => h.2 a (by omega)⟩, fun h => ⟨h.1, fun a ha hx => ?_⟩⟩
        by_cases e2 : a = k
        · rw [e2]
          exact h.2.1
        · exact h.2.2 a (by omega) hx
      rw [if_pos rfl, e, mz_pc_wo (by omega) kH, mz_c1 hn hs hi kn kH kV hS]
      refine ih (mz_wo H k) (by omega) (fun a ha hx => ?_) (fun a b ha hb => h2 a b (by omega) (by omega))
      obtain ⟨a1, a2, a3⟩ := h1 a (by omega) hx
      refine ⟨a1, ?_, ?_⟩
      · rw [mz_wo_t (by omega) (by omega), a2]
        simp
        omega
      · have e3 := mz_jm (x := mz_wo H k) (show k < 32 by omega) (hS a ha hx).2
        rw [← mz_wo_b (by omega) kH] at e3
        rw [← e3]
        exact a3
/-! sums with signs over the parts of a heap -/
def mz_si (g : Nat → Int) : Nat → Int
  | 0 => 0
  | i + 1 => mz_si g i + g i
theorem mz_si_cg {g g1 : Nat → Int} (k : Nat) (h : ∀ i, i < k → g i = g1 i) : mz_si g k = mz_si g1 k := by
  induction k with
  | zero => rfl
  | succ k ih =>
    show mz_si g k + g k = mz_si g1 k + g1 k
    rw [ih (fun i hi => h i (by omega)), h k (by omega)]
theorem mz_si_add (g : Nat → Int) (a b : Nat) : mz_si g (a + b) = mz_si g a + mz_si (fun i => g (a + i)) b := by
  induction b with
  | zero =>
    show mz_si g a = mz_si g a + 0
    omega
  | succ b ih =>
    show mz_si g (a + b) + g (a + b) = mz_si g a + (mz_si (fun i => g (a + i)) b + g (a + b))
    rw [ih]
    omega
theorem mz_si_two (g g1 : Nat → Int) (k : Nat) : mz_si (fun i => g i + g1 i) k = mz_si g k + mz_si g1 k := by
  induction k with
  | zero => rfl
  | succ k ih =>
    show mz_si (fun i => g i + g1 i) k + (g k + g1 k) = (mz_si g k + g k) + (mz_si g1 k + g1 k)
    rw [ih]
    omega
theorem mz_si_one (x : Int) (k : Nat) : mz_si (fun i => if i = 0 then x else 0) (k + 1) = x := by
  induction k with
  | zero =>
    show (0 : Int) + (if 0 = 0 then x else 0) = x
    rw [if_pos rfl]
    omega
  | succ k ih =>
    show mz_si (fun i => if i = 0 then x else 0) (k + 1) + (if k + 1 = 0 then x else 0) = x
    rw [ih, if_neg (by omega)]
    omega
def mz_ub (P : Nat → Bool) (m : Nat) (b : Bool) : Nat → Bool := fun j => if j = m then b else P j
def mz_TI (G : (Nat → Bool) → Int) (h : Int32) : Nat → (Nat → Bool) → Int
  | 0, P => G P
  | k + 1, P => if mz_t h k = true then mz_TI G h k (mz_ub P k false) + mz_TI G h k (mz_ub P k true) else mz_TI G h k (mz_ub P k false)
def mz_cb (h : Int32) (i k : Nat) (P : Nat → Bool) : Nat → Bool := fun j => if j < k then mz_db h i j else P j
theorem mz_cb_ub {h : Int32} {i a k : Nat} {P : Nat → Bool} {b : Bool} (h1 : mz_db h i k = b) (h2 : ∀ j, j < k → mz_db h i j = mz_db h a j) : mz_cb h i (k + 1) P = mz_cb h a k (mz_ub P k b) := by
  funext j
  show (if j < k + 1 then mz_db h i j else P j) = (if j < k then mz_db h a j else (if j = k then b else P j))
  by_cases c : j = k
  · rw [if_pos (show j < k + 1 by omega), if_neg (show ¬ j < k by omega), if_pos c, c]
    exact h1
  · by_cases c2 : j < k
    · rw [if_pos (show j < k + 1 by omega), if_pos c2]
      exact h2 j c2
    · rw [if_neg (show ¬ j < k + 1 by omega), if_neg c2, if_neg c]
theorem mz_TI_dp (G : (Nat → Bool) → Int) (h : Int32) (k : Nat) : ∀ P, mz_si (fun i => G (mz_cb h i k P)) (2 ^ (mz_pc h k)) = mz_TI G h k P := by
  induction k with
  | zero =>
    intro P
    show (0 : Int) + G (mz_cb h 0 0 P) = G P
    have e : mz_cb h 0 0 P = P := by
      funext j
      exact if_neg (Nat.not_lt_zero j)
    rw [e]
    omega
  | succ k ih =>
    intro P
    show _ = if mz_t h k = true then mz_TI G h k (mz_ub P k false) + mz_TI G h k (mz_ub P k true) else mz_TI G h k (mz_ub P k false)
    cases e : mz_t h k
    · rw [if_neg (by decide), mz_pc_n e, ← ih (mz_ub P k false)]
      refine mz_si_cg _ (fun i hi => ?_)
      show G (mz_cb h i (k + 1) P) = G (mz_cb h i k (mz_ub P k false))
      rw [mz_cb_ub (h := h) (i := i) (a := i) (k := k) (P := P) (b := false) (by unfold mz_db; rw [e]; rfl) (fun j _ => rfl)]
    · have hm : ∀ j, j < k → mz_t h j = true → mz_pc h j < mz_pc h k := by
        intro j hj hx
        have mono : ∀ d, mz_pc h (j + 1) ≤ mz_pc h (j + 1 + d) := by
          intro d
          induction d with
          | zero => exact Nat.le_refl _
          | succ d id =>
            show _ ≤ mz_pc h (j + 1 + d) + _
            omega
        have h1 := mono (k - (j + 1))
        rw [show j + 1 + (k - (j + 1)) = k by omega, mz_pc_y hx] at h1
        omega
      rw [if_pos rfl, mz_pc_y e, Nat.pow_succ, Nat.mul_two, mz_si_add, ← ih (mz_ub P k false), ← ih (mz_ub P k true)]
      have e1 : mz_si (fun i => G (mz_cb h i (k + 1) P)) (2 ^ mz_pc h k) = mz_si (fun i => G (mz_cb h i k (mz_ub P k false))) (2 ^ mz_pc h k) := by
        refine mz_si_cg _ (fun i hi => ?_)
        show G (mz_cb h i (k + 1) P) = G (mz_cb h i k (mz_ub P k false))
        rw [mz_cb_ub (h := h) (i := i) (a := i) (k := k) (P := P) (b := false) (by unfold mz_db; rw [e, Nat.testBit_lt_two_pow hi]; rfl) (fun j _ => rfl)]
      have e2 : mz_si (fun i => G (mz_cb h (2 ^ mz_pc h k + i) (k + 1) P)) (2 ^ mz_pc h k) = mz_si (fun i => G (mz_cb h i k (mz_ub P k true))) (2 ^ mz_pc h k) := by
        refine mz_si_cg _ (fun i hi => ?_)
        show G (mz_cb h (2 ^ mz_pc h k + i) (k + 1) P) = G (mz_cb h i k (mz_ub P k true))
        rw [mz_cb_ub (h := h) (i := 2 ^ mz_pc h k + i) (a := i) (k := k) (P := P) (b := true) (by unfold mz_db; rw [e, Nat.testBit_two_pow_add_eq, Nat.testBit_lt_two_pow hi]; rfl) (fun j hj => by
          unfold mz_db
          cases ej : mz_t h j
          · rfl
          · rw [Nat.testBit_two_pow_add_gt (hm j hj ej) i])]
      rw [e1, e2]
theorem mz_ub_c {P : Nat → Bool} {m k : Nat} (b d : Bool) (h : ¬ k = m) : mz_ub (mz_ub P m b) k d = mz_ub (mz_ub P k d) m b := by
  funext j
  show (if j = k then d else (if j = m then b else P j)) = (if j = m then b else (if j = k then d else P j))
  by_cases c : j = k
  · rw [if_pos c, if_neg (by omega), if_pos c]
  · by_cases c2 : j = m
    · rw [if_neg c, if_pos c2, if_pos c2]
    · rw [if_neg c, if_neg c2, if_neg c2, if_neg c]
theorem mz_TI_up {G : (Nat → Bool) → Int} {h : Int32} {m : Nat} (hg : ∀ P, G (mz_ub P m true) = - G (mz_ub P m false)) (k : Nat) : k ≤ m → ∀ P, mz_TI G h k (mz_ub P m true) = - mz_TI G h k (mz_ub P m false) := by
  induction k with
  | zero =>
    intro _ P
    exact hg P
  | succ k ih =>
    intro hk P
    have hne : ¬ k = m := by omega
    show (if mz_t h k = true then mz_TI G h k (mz_ub (mz_ub P m true) k false) + mz_TI G h k (mz_ub (mz_ub P m true) k true) else mz_TI G h k (mz_ub (mz_ub P m true) k false)) = - (if mz_t h k = true then mz_TI G h k (mz_ub (mz_ub P m false) k false) + mz_TI G h k (mz_ub (mz_ub P m false) k true) else mz_TI G h k (mz_ub (mz_ub P m false) k false))
    rw [mz_ub_c true false hne, mz_ub_c true true hne, mz_ub_c false false hne, mz_ub_c false true hne, ih (by omega) (mz_ub P k false), ih (by omega) (mz_ub P k true)]
    cases mz_t h k
    · rw [if_neg (by decide), if_neg (by decide)]
    · rw [if_pos rfl, if_pos rfl]
      omega
theorem mz_TI_z {G : (Nat → Bool) → Int} {h : Int32} {m : Nat} (hm : mz_t h m = true) (hg : ∀ P, G (mz_ub P m true) = - G (mz_ub P m false)) (k : Nat) : m < k → ∀ P, mz_TI G h k P = 0 := by
  induction k with
  | zero =>
    intro hk
    omega
  | succ k ih =>
    intro hk P
    show (if mz_t h k = true then mz_TI G h k (mz_ub P k false) + mz_TI G h k (mz_ub P k true) else mz_TI G h k (mz_ub P k false)) = 0
    by_cases c : m = k
    · rw [← c, hm, if_pos rfl, mz_TI_up hg m (Nat.le_refl m) P]
      omega
    · rw [ih (by omega) (mz_ub P k false), ih (by omega) (mz_ub P k true)]
      cases mz_t h k <;> simp
def mz_sg (P : Nat → Bool) : Nat → Int
  | 0 => 1
  | k + 1 => if P k = true then - mz_sg P k else mz_sg P k
theorem mz_sg_cg {P Q : Nat → Bool} (k : Nat) (h : ∀ j, j < k → P j = Q j) : mz_sg P k = mz_sg Q k := by
  induction k with
  | zero => rfl
  | succ k ih =>
    show (if P k = true then - mz_sg P k else mz_sg P k) = (if Q k = true then - mz_sg Q k else mz_sg Q k)
    rw [h k (by omega), ih (fun j hj => h j (by omega))]
theorem mz_sg_up {P : Nat → Bool} {m : Nat} (k : Nat) : m < k → mz_sg (mz_ub P m true) k = - mz_sg (mz_ub P m false) k := by
  induction k with
  | zero =>
    intro hk
    omega
  | succ k ih =>
    intro hk
    show (if mz_ub P m true k = true then - mz_sg (mz_ub P m true) k else mz_sg (mz_ub P m true) k) = - (if mz_ub P m false k = true then - mz_sg (mz_ub P m false) k else mz_sg (mz_ub P m false) k)
    by_cases c : k = m
    · have e1 : mz_ub P m true k = true := if_pos c
      have e2 : mz_ub P m false k = false := if_pos c
      rw [e1, e2, if_pos rfl, if_neg (by decide), mz_sg_cg (P := mz_ub P m true) (Q := mz_ub P m false) k (fun j hj => by
        show (if j = m then true else P j) = (if j = m then false else P j)
        rw [if_neg (by omega), if_neg (by omega)])]
    · have e1 : mz_ub P m true k = P k := if_neg c
      have e2 : mz_ub P m false k = P k := if_neg c
      rw [e1, e2, ih (by omega)]
      cases P k
      · rw [if_neg (by decide), if_neg (by decide)]
      · rw [if_pos rfl, if_pos rfl]
theorem mz_sg_pc {x : Int32} (k : Nat) : mz_sg (mz_t x) k = if mz_pc x k % 2 = 1 then -1 else 1 := by
  induction k with
  | zero =>
    have e0 : mz_pc x 0 = 0 := rfl
    exact (if_neg (show ¬ mz_pc x 0 % 2 = 1 by rw [e0]; decide)).symm
  | succ k ih =>
    show (if mz_t x k = true then - mz_sg (mz_t x) k else mz_sg (mz_t x) k) = _
    cases e : mz_t x k
    · rw [if_neg (by decide), ih, mz_pc_n e]
    · rw [if_pos rfl, ih, mz_pc_y e]
      by_cases c : mz_pc x k % 2 = 1
      · have e3 : (if (mz_pc x k + 1) % 2 = 1 then (-1 : Int) else 1) = 1 := if_neg (by omega)
        have e4 : (if mz_pc x k % 2 = 1 then (-1 : Int) else 1) = -1 := if_pos c
        simp only [e3, e4, Int.neg_neg]
      · have e3 : (if (mz_pc x k + 1) % 2 = 1 then (-1 : Int) else 1) = -1 := if_pos (by omega)
        have e4 : (if mz_pc x k % 2 = 1 then (-1 : Int) else 1) = 1 := if_neg c
        simp only [e3, e4]
def mz_sl (f : List Nat → Int) : List (List Nat) → Int
  | [] => 0
  | v :: l => f v + mz_sl f l
theorem mz_si_0 (k : Nat) : mz_si (fun _ => (0 : Int)) k = 0 := by
  induction k with
  | zero => rfl
  | succ k ih =>
    show mz_si (fun _ => (0 : Int)) k + 0 = 0
    rw [ih]
    rfl
theorem mz_sl_si (f : List Nat → Nat → Int) (k : Nat) (l : List (List Nat)) : mz_si (fun i => mz_sl (fun v => f v i) l) k = mz_sl (fun v => mz_si (f v) k) l := by
  induction l with
  | nil => exact mz_si_0 k
  | cons v l ih =>
    show mz_si (fun i => f v i + mz_sl (fun v => f v i) l) k = mz_si (f v) k + mz_sl (fun v => mz_si (f v) k) l
    rw [mz_si_two, ih]
theorem mz_sl_0 {f : List Nat → Int} (l : List (List Nat)) : (∀ v, v ∈ l → f v = 0) → mz_sl f l = 0 := by
  induction l with
  | nil =>
    intro _
    rfl
  | cons v l ih =>
    intro h
    show f v + mz_sl f l = 0
    rw [h v (List.mem_cons_self ..), ih (fun x hx => h x (List.mem_cons_of_mem _ hx))]
    rfl
theorem mz_sl_ct (Q : List Nat → Prop) (s : Int) (l : List (List Nat)) : mz_sl (fun v => if mz_dq (Q v) = true then s else 0) l = s * ((l.filter (fun v => mz_dq (Q v))).length : Int) := by
  induction l with
  | nil =>
    show (0 : Int) = s * ((0 : Nat) : Int)
    simp
  | cons v l ih =>
    show (if mz_dq (Q v) = true then s else 0) + mz_sl (fun v => if mz_dq (Q v) = true then s else 0) l = _
    rw [ih]
    cases c : mz_dq (Q v)
    · rw [List.filter_cons_of_neg (p := fun v => mz_dq (Q v)) (show ¬ (fun v => mz_dq (Q v)) v = true by show ¬ mz_dq (Q v) = true; rw [c]; decide), if_neg (by decide)]
      omega
    · rw [List.filter_cons_of_pos (p := fun v => mz_dq (Q v)) (show (fun v => mz_dq (Q v)) v = true from c), if_pos rfl, List.length_cons]
      have e : ((((l.filter (fun v => mz_dq (Q v))).length + 1 : Nat)) : Int) = ((l.filter (fun v => mz_dq (Q v))).length : Int) + 1 := by omega
      rw [e, Int.mul_add, Int.mul_one, Int.add_comm]
/-- no two things of a heap are joined -/
def mz_apt (n : Nat) (jo : Nat → Int32) (x : Int32) : Prop := ∀ k, k < n → mz_t x k = true → (jo k) &&& x = 0
theorem mz_cb_t {la : Int32} {i : Nat} : mz_cb la i 8 (fun _ => false) = mz_t (nI (mz_dp la i)) := by
  funext j
  rw [mz_t_nI (Nat.lt_trans (mz_dp_lt la i) (by decide))]
  show (if j < 8 then mz_db la i j else false) = (mz_bn (mz_db la i) 8).testBit j
  rw [mz_bn_t]
  by_cases c : j < 8
  · rw [if_pos c]
    simp [c]
  · rw [if_neg c]
    simp [c]
/-- a word's sinks bear the sign -/
noncomputable def mz_fi (jo : Nat → Int32) (v : List Nat) (P : Nat → Bool) : Int := if mz_dq (∀ a, a < 8 → P a = true → mz_sk jo a v) = true then mz_sg P 8 else 0
theorem mz_fi_up {jo : Nat → Int32} {v : List Nat} {m : Nat} (hm : m < 8) (hk : mz_sk jo m v) (P : Nat → Bool) : mz_fi jo v (mz_ub P m true) = - mz_fi jo v (mz_ub P m false) := by
  have e : (∀ a, a < 8 → mz_ub P m true a = true → mz_sk jo a v) = (∀ a, a < 8 → mz_ub P m false a = true → mz_sk jo a v) := by
    refine propext ⟨fun h a ha hx => ?_, fun h a ha hx => ?_⟩
    · by_cases c : a = m
      · rw [c]
        exact hk
      · refine h a ha ?_
        show (if a = m then true else P a) = true
        rw [if_neg c]
        have h2 : (if a = m then false else P a) = true := hx
        rw [if_neg c] at h2
        exact h2
    · by_cases c : a = m
      · rw [c]
        exact hk
      · refine h a ha ?_
        show (if a = m then false else P a) = true
        rw [if_neg c]
        have h2 : (if a = m then true else P a) = true := hx
        rw [if_neg c] at h2
        exact h2
  unfold mz_fi
  rw [e, mz_sg_up 8 hm]
  cases mz_dq (∀ a, a < 8 → mz_ub P m false a = true → mz_sk jo a v) <;> simp
theorem mz_incl {n : Nat} {jo : Nat → Int32} {V : Nat → Int32 → Prop} {H la : Int32} {E : Nat → Int} (hn : n ≤ 8) (hs : ∀ a b, a < n → b < n → mz_t (jo a) b = mz_t (jo b) a) (hi : ∀ a, a < n → mz_t (jo a) a = false) (hH : mz_hp n H) (h0 : ¬ H = 0) (hla : ∀ k, k < 32 → (mz_t la k = true ↔ k < n ∧ mz_t H k = true ∧ V k ((jo k) &&& H))) (hE0 : E 0 = 0) (hE1 : ∀ i, 0 < i → i < 2 ^ (mz_pc la 8) → mz_apt n jo (nI (mz_dp la i)) → E i = if mz_pc (nI (mz_dp la i)) 8 % 2 = 1 then (mz_nuw n jo V (H &&& (nI (mz_dp la i) ^^^ (-1))) : Int) else - (mz_nuw n jo V (H &&& (nI (mz_dp la i) ^^^ (-1))) : Int)) (hE2 : ∀ i, 0 < i → i < 2 ^ (mz_pc la 8) → ¬ mz_apt n jo (nI (mz_dp la i)) → E i = 0) : mz_si E (2 ^ (mz_pc la 8)) = (mz_nuw n jo V H : Int) := by
  obtain ⟨l, hl⟩ : ∃ l, l = (mz_gw n jo V (mz_pc H 8)).filter (fun v => mz_dq (mz_mk v = H)) := ⟨_, rfl⟩
  have hlen : mz_nuw n jo V H = l.length := by
    rw [hl]
    rfl
  have hmem : ∀ v, v ∈ l → mz_vw n jo V v ∧ mz_mk v = H := by
    intro v hv
    rw [hl] at hv
    obtain ⟨a, b⟩ := List.mem_filter.mp hv
    exact ⟨((mz_gw_m _ v).mp a).1, mz_dq_y.mp b⟩
  have hct : ∀ i, mz_sl (fun v => mz_fi jo v (mz_cb la i 8 (fun _ => false))) l = mz_sg (mz_t (nI (mz_dp la i))) 8 * (mz_cw n jo V (mz_pc H 8) (fun v => mz_mk v = H ∧ ∀ a, a < 8 → mz_t (nI (mz_dp la i)) a = true → mz_sk jo a v) : Int) := by
    intro i
    rw [mz_cb_t]
    have e := mz_sl_ct (fun v => ∀ a, a < 8 → mz_t (nI (mz_dp la i)) a = true → mz_sk jo a v) (mz_sg (mz_t (nI (mz_dp la i))) 8) l
    have e2 : l.filter (fun v => mz_dq (∀ a, a < 8 → mz_t (nI (mz_dp la i)) a = true → mz_sk jo a v)) = (mz_gw n jo V (mz_pc H 8)).filter (fun v => mz_dq (mz_mk v = H ∧ ∀ a, a < 8 → mz_t (nI (mz_dp la i)) a = true → mz_sk jo a v)) := by
      rw [hl, List.filter_filter]
      congr 1
      funext v
      rw [Bool.eq_iff_iff, Bool.and_eq_true, mz_dq_y, mz_dq_y, mz_dq_y]
      exact ⟨fun h => ⟨h.2, h.1⟩, fun h => ⟨h.2, h.1⟩⟩
    rw [e2] at e
    exact e
  have bits : ∀ i a, mz_t (nI (mz_dp la i)) a = true → a < 8 ∧ a < n ∧ mz_t H a = true ∧ V a ((jo a) &&& H) := by
    intro i a ha
    rw [mz_t_nI (Nat.lt_trans (mz_dp_lt la i) (by decide))] at ha
    obtain ⟨a1, a2⟩ := mz_dp_in ha
    exact ⟨a1, (hla a (by omega)).mp a2⟩
  have step : ∀ i, i < 2 ^ (mz_pc la 8) → E i + mz_sl (fun v => mz_fi jo v (mz_cb la i 8 (fun _ => false))) l = if i = 0 then (l.length : Int) else 0 := by
    intro i hik
    rcases Nat.eq_zero_or_pos i with c | c
    · rw [if_pos c, c, hE0, hct, mz_dp_0]
      have z : ∀ a, mz_t (nI 0) a = false := fun a => mz_t_0
      have e1 : mz_sg (mz_t (nI 0)) 8 = 1 := by
        have e0 : mz_pc (nI 0) 8 = 0 := by decide
        rw [mz_sg_pc, e0, if_neg (by decide)]
      have e2 : mz_cw n jo V (mz_pc H 8) (fun v => mz_mk v = H ∧ ∀ a, a < 8 → mz_t (nI 0) a = true → mz_sk jo a v) = l.length := by
        rw [← hlen]
        unfold mz_nuw
        have e : (fun v : List Nat => mz_mk v = H ∧ ∀ a, a < 8 → mz_t (nI 0) a = true → mz_sk jo a v) = (fun v => mz_mk v = H) := by
          funext v
          refine propext ⟨fun h => h.1, fun h => ⟨h, fun a _ hx => ?_⟩⟩
          rw [z] at hx
          cases hx
        rw [e]
      rw [e1, e2]
      omega
    · rw [if_neg (by omega), hct, mz_sg_pc]
      by_cases ap : mz_apt n jo (nI (mz_dp la i))
      · have e := mz_cS (S := mz_t (nI (mz_dp la i))) (V := V) hn hs hi 8 H (Nat.le_refl 8) (fun a _ hx => (bits i a hx).2) (fun a b _ _ ha hb => by
          have u := ap a (bits i a ha).2.1 ha
          have b8 := (bits i b hb).1
          cases q : mz_t (jo a) b
          · rfl
          · have u2 : mz_t (nI (mz_dp la i)) b = false := mz_and0.mp u b (by omega) q
            rw [hb] at u2
            cases u2)
        have e3 : mz_mns (mz_t (nI (mz_dp la i))) 8 H = H &&& (nI (mz_dp la i) ^^^ (-1)) := by
          refine mz_t_eq (fun j hj => ?_)
          rw [mz_mn_t 8 H (Nat.le_refl 8) j hj, mz_t_and, mz_t_not hj]
          by_cases j8 : j < 8
          · simp [j8]
          · have : mz_t H j = false := by
              cases q : mz_t H j
              · rfl
              · have := hH j hj q
                omega
            rw [this]
            rfl
        rw [e, e3, hE1 i c hik ap]
        by_cases od : mz_pc (nI (mz_dp la i)) 8 % 2 = 1
        · rw [if_pos od, if_pos od]
          omega
        · rw [if_neg od, if_neg od]
          omega
      · have e : mz_cw n jo V (mz_pc H 8) (fun v => mz_mk v = H ∧ ∀ a, a < 8 → mz_t (nI (mz_dp la i)) a = true → mz_sk jo a v) = 0 := by
          unfold mz_cw
          rw [List.length_eq_zero_iff, List.filter_eq_nil_iff]
          intro v hv hq
          obtain ⟨_, q2⟩ := mz_dq_y.mp hq
          apply ap
          intro k kn kx
          refine mz_and0.mpr (fun j hj hx => ?_)
          have hx2 : mz_t (jo k) j = true := hx
          have e2 : mz_t (nI (mz_dp la i)) j = false := by
            cases q : mz_t (nI (mz_dp la i)) j
            · rfl
            · obtain ⟨j8, jn, _⟩ := bits i j q
              by_cases c2 : k = j
              · rw [← c2, hi k kn] at hx2
                cases hx2
              · have u := mz_sk_two hs kn jn c2 v (q2 k (by omega) kx) (q2 j j8 q)
                rw [hx2] at u
                cases u
          exact e2
        rw [e, hE2 i c hik ap]
        simp
  have s1 : mz_si (fun i => E i + mz_sl (fun v => mz_fi jo v (mz_cb la i 8 (fun _ => false))) l) (2 ^ (mz_pc la 8)) = (l.length : Int) := by
    rw [mz_si_cg (g1 := fun i => if i = 0 then (l.length : Int) else 0) _ step]
    have p := Nat.two_pow_pos (mz_pc la 8)
    obtain ⟨q, hq⟩ : ∃ q, 2 ^ (mz_pc la 8) = q + 1 := ⟨2 ^ (mz_pc la 8) - 1, by omega⟩
    rw [hq]
    exact mz_si_one _ q
  have s2 : mz_si (fun i => mz_sl (fun v => mz_fi jo v (mz_cb la i 8 (fun _ => false))) l) (2 ^ (mz_pc la 8)) = 0 := by
    rw [mz_sl_si (fun v i => mz_fi jo v (mz_cb la i 8 (fun _ => false)))]
    refine mz_sl_0 l (fun v hv => ?_)
    obtain ⟨v1, v2⟩ := hmem v hv
    cases v with
    | nil => exact absurd v2.symm h0
    | cons o w =>
      have on := v1.1
      have ok : mz_sk jo o (o :: w) := Or.inl rfl
      obtain ⟨o1, o2⟩ := mz_sk_m hn hs hi on v1 ok
      rw [v2] at o1 o2
      have ol := (hla o (by omega)).mpr ⟨on, o1, o2⟩
      rw [mz_TI_dp (mz_fi jo (o :: w)) la 8 (fun _ => false)]
      exact mz_TI_z ol (fun P => mz_fi_up (by omega) ok P) 8 (by omega) _
  rw [mz_si_two, s2] at s1
  rw [hlen]
  omega
theorem mz_pcN : ∀ n : Nat, n < 9 → mz_pc (nI (2 ^ n - 1)) 8 = n := by decide +kernel
theorem mz_pcA : ∀ n : Nat, n < 9 → ∀ a : Nat, a < 2 ^ n → (mz_pc (nI a) 8 = n → a = 2 ^ n - 1) := by decide +kernel
theorem mz_mk_n {n : Nat} {jo : Nat → Int32} {V : Nat → Int32 → Prop} (hn : n ≤ 8) (w : List Nat) : mz_vw n jo V w → mz_hp n (mz_mk w) := by
  induction w with
  | nil =>
    intro _ j _ hx
    have hx2 : mz_t 0 j = true := hx
    rw [mz_t_0] at hx2
    cases hx2
  | cons t w ih =>
    intro ⟨h1, _, h3⟩ j hj hx
    rw [mz_mk_c, mz_t_or, mz_t_1 (by omega), Bool.or_eq_true] at hx
    rcases hx with hx | hx
    · exact ih h3 j hj hx
    · have e : j = t := by simpa using hx
      omega
theorem mz_mk_f {n : Nat} {jo : Nat → Int32} {V : Nat → Int32 → Prop} (hn : n ≤ 8) {w : List Nat} (h : mz_vw n jo V w) (hl : w.length = n) : mz_mk w = nI (2 ^ n - 1) := by
  obtain ⟨a, a1, a2⟩ := mz_hp_a hn (mz_mk_n hn w h)
  have e := mz_len hn w h
  rw [hl, a2] at e
  rw [a2, mz_pcA n (by omega) a a1 e.symm]
theorem mz_full {n : Nat} {jo : Nat → Int32} {V : Nat → Int32 → Prop} (hn : n ≤ 8) : mz_nuw n jo V (nI (2 ^ n - 1)) = mz_cw n jo V n (fun _ => True) := by
  unfold mz_nuw mz_cw
  rw [mz_pcN n (by omega)]
  congr 1
  refine List.filter_congr (fun v hv => ?_)
  obtain ⟨h1, h2⟩ := (mz_gw_m n v).mp hv
  rw [Bool.eq_iff_iff, mz_dq_y, mz_dq_y]
  exact ⟨fun _ => trivial, fun _ => mz_mk_f hn h1 h2⟩
