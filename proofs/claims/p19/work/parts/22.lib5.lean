/-! the choices at each depth of the reference's search for drawings -/
theorem mz_zs (N : Nat) : N = 0 ∨ ∃ E : Nat, N = E + 1 := by
  cases N with
  | zero => exact Or.inl rfl
  | succ E => exact Or.inr ⟨E, rfl⟩
theorem mz_ch_0 {n : Nat} {f : Nat → Int32} : ∀ i, i ≤ 0 → upd f 0 0 i = nI ((fun _ => 0) i) ∧ (fun _ => 0) i ≤ n := by
  intro i hi
  obtain rfl : i = 0 := by omega
  exact ⟨pk_us, Nat.zero_le _⟩
theorem mz_ch_inc {n N : Nat} {f : Nat → Int32} {T : Nat → Nat} (hT : ∀ i, i ≤ N → f i = nI (T i) ∧ T i ≤ n) (h : T N < n) : ∀ i, i ≤ N → upd f N ((f N) + 1) i = nI (mz_up T N (T N + 1) i) ∧ mz_up T N (T N + 1) i ≤ n := by
  intro i hi
  by_cases e : i = N
  · subst e
    rw [pk_us, mz_up_s, (hT i hi).1]
    exact ⟨nI_1 _, h⟩
  · rw [pk_un e, mz_up_n T _ e]
    exact hT i hi
theorem mz_ch_push {n N : Nat} {f : Nat → Int32} {T : Nat → Nat} (hT : ∀ i, i ≤ N → f i = nI (T i) ∧ T i ≤ n) : ∀ i, i ≤ N + 1 → upd f (N + 1) 0 i = nI (mz_up T (N + 1) 0 i) ∧ mz_up T (N + 1) 0 i ≤ n := by
  intro i hi
  by_cases e : i = N + 1
  · subst e
    rw [pk_us, mz_up_s]
    exact ⟨rfl, Nat.zero_le _⟩
  · rw [pk_un e, mz_up_n T _ e]
    exact hT i (by omega)
def mz_bl (f : Nat → Int32) : Prop := ∀ k, f k = 0 ∨ f k = 1
theorem mz_bl_up {f : Nat → Int32} {k : Nat} {x : Int32} (h : mz_bl f) (hx : x = 0 ∨ x = 1) : mz_bl (upd f k (vp_nar .boolean x)) := by
  intro j
  by_cases e : j = k
  · subst e
    rw [pk_us]
    rcases hx with rfl | rfl
    · exact Or.inl rfl
    · exact Or.inr rfl
  · rw [pk_un e]
    exact h j
theorem mz_blr {f : Nat → Int32} {k : Nat} {v : Int32} (h : mz_bl f) (e : v = f k) : v = 0 ∨ v = 1 := by
  rw [e]
  exact h k
