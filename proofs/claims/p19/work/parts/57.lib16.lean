/-! the class's side of drawings that look alike -/
def mz_jo (fp fc : Nat → Int32) (k : Nat) : Int32 := (fp k) ||| (fc k)
def mz_V0 (n : Nat) (fp fc : Nat → Int32) (k : Nat) (x : Int32) : Prop := mz_mlk n (mz_jo fp fc) (fp k) x
def mz_V1 (n : Nat) (fp fc : Nat → Int32) (a b k : Nat) (x : Int32) : Prop := mz_mlk n (mz_jo fp fc) (fp k) x ∧ (k = b → mz_t x a = true)
def mz_Vm (n : Nat) (jo g : Nat → Int32) (k : Nat) (x : Int32) : Prop := mz_mlk n jo (g k) x
theorem mz_uj_0 {jo : Nat → Int32} {k : Nat} {a b : Int32} (h : mz_t (a ||| b) k = false) : mz_uj jo k b = mz_uj jo k a := by
  rw [mz_t_or, Bool.or_eq_false_iff] at h
  rw [← mz_uj_n h.1, ← mz_uj_n h.2]
theorem mz_hp_and {n : Nat} {x y : Int32} (h : mz_hp n y) : mz_hp n (x &&& y) := by
  intro j hj hx
  rw [mz_t_and, Bool.and_eq_true] at hx
  exact h j hj hx.2
/-- the things below i that can be last -/
def mz_cbl (n : Nat) (jo fp : Nat → Int32) (H : Int32) (i : Nat) (x : Int32) : Prop := ∀ k, k < 32 → (mz_t x k = true ↔ k < i ∧ mz_t H k = true ∧ mz_mlk n jo (fp k) ((jo k) &&& H))
theorem mz_cbl_0 {n : Nat} {jo fp : Nat → Int32} {H : Int32} : mz_cbl n jo fp H 0 0 := by
  intro k hk
  rw [mz_t_0]
  constructor
  · intro h
    cases h
  · intro h
    omega
theorem mz_cbl_y {n i : Nat} {jo fp : Nat → Int32} {H x : Int32} (hi : i < 32) (h : mz_cbl n jo fp H i x) (h1 : mz_t H i = true) (h2 : mz_mlk n jo (fp i) ((jo i) &&& H)) : mz_cbl n jo fp H (i + 1) (x ||| ((1 : Int32) <<< (nI i &&& 31))) := by
  intro k hk
  rw [mz_t_or, mz_t_1 hi, Bool.or_eq_true, h k hk]
  constructor
  · intro q
    rcases q with ⟨q1, q2⟩ | q
    · exact ⟨by omega, q2⟩
    · have e : k = i := by simpa using q
      rw [e]
      exact ⟨by omega, h1, h2⟩
  · intro ⟨q1, q2⟩
    by_cases e : k = i
    · exact Or.inr (by simpa using e)
    · exact Or.inl ⟨by omega, q2⟩
theorem mz_cbl_n {n i : Nat} {jo fp : Nat → Int32} {H x : Int32} (h : mz_cbl n jo fp H i x) (hx : mz_t H i = false ∨ ¬ mz_mlk n jo (fp i) ((jo i) &&& H)) : mz_cbl n jo fp H (i + 1) x := by
  intro k hk
  rw [h k hk]
  constructor
  · intro ⟨q1, q2⟩
    exact ⟨by omega, q2⟩
  · intro ⟨q1, q2, q3⟩
    by_cases e : k = i
    · rw [e] at q2 q3
      rcases hx with hx | hx
      · rw [hx] at q2
        cases q2
      · exact absurd q3 hx
    · exact ⟨by omega, q2, q3⟩
noncomputable def mz_EE (n : Nat) (jo : Nat → Int32) (NW : Nat → Nat) (h : Nat) (la : Int32) (i : Nat) : Int := if i = 0 then 0 else if mz_dq (mz_apt n jo (nI (mz_dp la i))) = true then (if mz_pc (nI (mz_dp la i)) 8 % 2 = 1 then (NW (h - mz_dp la i) : Int) else - (NW (h - mz_dp la i) : Int)) else 0
theorem mz_ofn (k : Nat) : nI k = Int32.ofInt (k : Int) := Int32.ofInt_eq_ofNat.symm
theorem mz_EE_o {n h i : Nat} {jo : Nat → Int32} {NW : Nat → Nat} {la x : Int32} (hx : x = Int32.ofInt (mz_si (mz_EE n jo NW h la) i)) (hi : 0 < i) (ha : mz_apt n jo (nI (mz_dp la i))) (ho : mz_pc (nI (mz_dp la i)) 8 % 2 = 1) : x + nI (NW (h - mz_dp la i)) = Int32.ofInt (mz_si (mz_EE n jo NW h la) (i + 1)) := by
  have e : mz_EE n jo NW h la i = (NW (h - mz_dp la i) : Int) := by
    unfold mz_EE
    rw [if_neg (by omega), if_pos (mz_dq_y.mpr ha), if_pos ho]
  show _ = Int32.ofInt (mz_si (mz_EE n jo NW h la) i + mz_EE n jo NW h la i)
  rw [Int32.ofInt_add, ← hx, e, mz_ofn]
theorem mz_EE_e {n h i : Nat} {jo : Nat → Int32} {NW : Nat → Nat} {la x v : Int32} (hx : x = Int32.ofInt (mz_si (mz_EE n jo NW h la) i)) (hi : 0 < i) (ha : mz_apt n jo (nI (mz_dp la i))) (ho : ¬ mz_pc (nI (mz_dp la i)) 8 % 2 = 1) (hv : v = - nI (NW (h - mz_dp la i))) : x + v = Int32.ofInt (mz_si (mz_EE n jo NW h la) (i + 1)) := by
  have e : mz_EE n jo NW h la i = - (NW (h - mz_dp la i) : Int) := by
    unfold mz_EE
    rw [if_neg (by omega), if_pos (mz_dq_y.mpr ha), if_neg ho]
  show _ = Int32.ofInt (mz_si (mz_EE n jo NW h la) i + mz_EE n jo NW h la i)
  rw [Int32.ofInt_add, ← hx, e, ← Int32.neg_ofInt, ← mz_ofn, hv]
theorem mz_EE_n {n h i : Nat} {jo : Nat → Int32} {NW : Nat → Nat} {la x : Int32} (hx : x = Int32.ofInt (mz_si (mz_EE n jo NW h la) i)) (ha : ¬ mz_apt n jo (nI (mz_dp la i))) : x = Int32.ofInt (mz_si (mz_EE n jo NW h la) (i + 1)) := by
  have e : mz_EE n jo NW h la i = 0 := by
    unfold mz_EE
    by_cases c : i = 0
    · rw [if_pos c]
    · rw [if_neg c, if_neg (fun q => ha (mz_dq_y.mp q))]
  show _ = Int32.ofInt (mz_si (mz_EE n jo NW h la) i + mz_EE n jo NW h la i)
  rw [e, Int.add_zero]
  exact hx
theorem mz_EE_1 {n h : Nat} {jo : Nat → Int32} {NW : Nat → Nat} {la : Int32} : (0 : Int32) = Int32.ofInt (mz_si (mz_EE n jo NW h la) 1) := by
  have e : mz_EE n jo NW h la 0 = 0 := if_pos rfl
  show _ = Int32.ofInt (0 + mz_EE n jo NW h la 0)
  rw [e]
  rfl
theorem mz_odd8 : ∀ p : Nat, p < 9 → ((nI p &&& 1 = 1) ↔ p % 2 = 1) := by decide +kernel
theorem mz_odd {x : Int32} : (nI (mz_pc x 8) &&& 1 = 1) ↔ mz_pc x 8 % 2 = 1 := mz_odd8 _ (by have := mz_pc_le x 8; omega)
theorem mz_dp_sub {la : Int32} {h i : Nat} (hh : h < 256) (hl : ∀ j, j < 32 → mz_t la j = true → mz_t (nI h) j = true) : mz_dp la i &&& h = mz_dp la i := by
  refine Nat.eq_of_testBit_eq (fun j => ?_)
  rw [Nat.testBit_and]
  cases e : (mz_dp la i).testBit j
  · rfl
  · obtain ⟨j8, jl⟩ := mz_dp_in e
    have u := hl j (by omega) jl
    rw [mz_t_nI (by omega)] at u
    rw [u]
    rfl
theorem mz_dp_b8 {la : Int32} {i : Nat} : ∀ j, j < 32 → mz_t (nI (mz_dp la i)) j = true → j < 8 := by
  intro j hj hx
  rw [mz_t_nI (Nat.lt_trans (mz_dp_lt la i) (by decide))] at hx
  exact (mz_dp_in hx).1
theorem mz_hmc2 {n h c : Nat} {la : Int32} {i : Nat} (hh : h < 256) (hc : c = mz_dp la i) (hs : c &&& h = c) : nI h &&& (nI c ^^^ (-1)) = nI (h - c) := by
  have c8 : c < 256 := by
    rw [hc]
    exact mz_dp_lt la i
  rw [← mz_hmc h hh c c8 hs]
  refine mz_t_eq (fun j hj => ?_)
  rw [mz_t_and, mz_t_and, mz_t_and, mz_t_255 hj, mz_t_nI (by omega)]
  cases e : h.testBit j
  · rfl
  · have := mz_tb8 hh e
    simp [this]
/-- the sum is the number of words of the heap -/
theorem mz_rk {n h : Nat} {jo : Nat → Int32} {V : Nat → Int32 → Prop} {la : Int32} (hn : n ≤ 8) (hs : ∀ a b, a < n → b < n → mz_t (jo a) b = mz_t (jo b) a) (hi : ∀ a, a < n → mz_t (jo a) a = false) (hh : h < 2 ^ n) (h0 : 0 < h) (hla : ∀ k, k < 32 → (mz_t la k = true ↔ k < n ∧ mz_t (nI h) k = true ∧ V k ((jo k) &&& nI h))) : Int32.ofInt (mz_si (mz_EE n jo (fun q => mz_nuw n jo V (nI q)) h la) (2 ^ (mz_pc la 8))) = nI (mz_nuw n jo V (nI h)) := by
  have h256 : h < 256 := Nat.lt_of_lt_of_le hh (mz_2n hn)
  have hne : ¬ nI h = 0 := by
    intro q
    have := mz_n0 q (by omega)
    omega
  have hl : ∀ j, j < 32 → mz_t la j = true → mz_t (nI h) j = true := fun j hj hx => ((hla j hj).mp hx).2.1
  have e := mz_incl (E := mz_EE n jo (fun q => mz_nuw n jo V (nI q)) h la) hn hs hi (mz_hp_of hn hh) hne hla (if_pos rfl) (fun i i0 _ ap => by
    rw [mz_hmc2 (n := n) (la := la) (i := i) h256 rfl (mz_dp_sub h256 hl)]
    unfold mz_EE
    rw [if_neg (by omega), if_pos (mz_dq_y.mpr ap)]) (fun i i0 _ ap => by
    unfold mz_EE
    rw [if_neg (by omega), if_neg (fun q => ap (mz_dq_y.mp q))])
  rw [e]
  exact (mz_ofn _).symm
theorem mz_nw_0 {n : Nat} {jo : Nat → Int32} {V : Nat → Int32 → Prop} : mz_nuw n jo V (nI 0) = 1 := by
  have e : mz_pc (nI 0) 8 = 0 := by decide
  unfold mz_nuw mz_cw
  rw [e]
  show ([[]].filter (fun v => mz_dq (mz_mk v = nI 0))).length = 1
  rw [List.filter_cons_of_pos (p := fun v => mz_dq (mz_mk v = nI 0)) (show (fun v => mz_dq (mz_mk v = nI 0)) [] = true from mz_dq_y.mpr rfl)]
  rfl
def mz_tw (NW : Nat → Nat) (i : Nat) (f : Nat → Int32) : Prop := ∀ q, q < i → f q = nI (NW q)
theorem mz_tw_1 {NW : Nat → Nat} {f : Nat → Int32} (h : NW 0 = 1) : mz_tw NW 1 (upd f 0 1) := by
  intro q hq
  have e : q = 0 := by omega
  rw [e, pk_us, h]
  rfl
theorem mz_tw_s {NW : Nat → Nat} {f : Nat → Int32} {i : Nat} (h : mz_tw NW i f) : mz_tw NW (i + 1) (upd f i (nI (NW i))) := by
  intro q hq
  by_cases e : q = i
  · rw [e, pk_us]
  · rw [pk_un e]
    exact h q (by omega)
/-- which can be last, with and without the wish -/
theorem mz_la0 {n : Nat} {fp fc : Nat → Int32} {H x : Int32} (h : mz_cbl n (mz_jo fp fc) fp H n x) : ∀ k, k < 32 → (mz_t x k = true ↔ k < n ∧ mz_t H k = true ∧ mz_V0 n fp fc k ((mz_jo fp fc k) &&& H)) := h
theorem mz_la1y {n a b : Nat} {fp fc : Nat → Int32} {H x : Int32} (h : mz_cbl n (mz_jo fp fc) fp H n x) (hab : mz_t (mz_jo fp fc b) a = true) (ha : mz_t H a = true) : ∀ k, k < 32 → (mz_t x k = true ↔ k < n ∧ mz_t H k = true ∧ mz_V1 n fp fc a b k ((mz_jo fp fc k) &&& H)) := by
  intro k hk
  rw [h k hk]
  constructor
  · intro ⟨q1, q2, q3⟩
    refine ⟨q1, q2, q3, fun e => ?_⟩
    rw [e, mz_t_and, hab, ha]
    rfl
  · intro ⟨q1, q2, q3⟩
    exact ⟨q1, q2, q3.1⟩
theorem mz_la1n {n a b : Nat} {fp fc : Nat → Int32} {H x : Int32} (hb : b < 32) (h : mz_cbl n (mz_jo fp fc) fp H n x) (ha : mz_t H a = false) : ∀ k, k < 32 → (mz_t (x &&& (((1 : Int32) <<< (nI b &&& 31)) ^^^ (-1))) k = true ↔ k < n ∧ mz_t H k = true ∧ mz_V1 n fp fc a b k ((mz_jo fp fc k) &&& H)) := by
  intro k hk
  rw [mz_t_and, mz_t_not hk, mz_t_1 hb, Bool.and_eq_true, h k hk]
  constructor
  · intro ⟨⟨q1, q2, q3⟩, q4⟩
    refine ⟨q1, q2, q3, fun e => ?_⟩
    rw [e] at q4
    simp at q4
  · intro ⟨q1, q2, q3⟩
    refine ⟨⟨q1, q2, q3.1⟩, ?_⟩
    by_cases e : k = b
    · have u := q3.2 e
      rw [mz_t_and, ha, Bool.and_false] at u
      cases u
    · simpa using e
/-! joined, both sides -/
theorem mz_jo_s {n : Nat} {fp fc gp : Nat → Int32} (hr : mz_rel n fp fc gp) : ∀ a b, a < n → b < n → mz_t (mz_jo fp fc a) b = mz_t (mz_jo fp fc b) a := by
  intro a b ha hb
  unfold mz_jo
  rw [mz_t_or, mz_t_or, hr.2.1 a b ha hb, hr.2.1 b a hb ha, Bool.or_comm]
theorem mz_jo_i {n : Nat} {fp fc gp : Nat → Int32} (hn : n ≤ 8) (hr : mz_rel n fp fc gp) (ha : mz_acy n gp) : ∀ a, a < n → mz_t (mz_jo fp fc a) a = false := by
  intro a h
  have e : mz_t (gp a) a = false := mz_acy_self (by omega) h ha
  unfold mz_jo
  rw [mz_t_or, hr.2.1 a a h h, hr.1 a h, e]
  rfl
theorem mz_jo_p {n : Nat} {fp fc gp : Nat → Int32} (hr : mz_rel n fp fc gp) : ∀ k, k < n → mz_hp n (fp k) := fun k hk j hj hx => hr.2.2.1 k hk j hj hx
theorem mz_jo_m {n : Nat} {fp fc gp : Nat → Int32} (hn : n ≤ 8) (hr : mz_rel n fp fc gp) : ∀ t, t < n → ∀ k, k < 32 → (mz_t (mz_jo fp fc t) k = true ↔ mz_t (gp t) k = true ∨ (k < n ∧ mz_t (gp k) t = true)) := by
  intro t ht k hk
  unfold mz_jo
  rw [mz_t_or, Bool.or_eq_true, hr.1 t ht]
  constructor
  · intro h
    rcases h with h | h
    · exact Or.inl h
    · obtain ⟨k1, _⟩ := hr.2.2.2 t (by omega) k hk h
      refine Or.inr ⟨k1, ?_⟩
      rw [hr.2.1 t k ht k1, hr.1 k k1] at h
      exact h
  · intro h
    rcases h with h | ⟨h1, h2⟩
    · exact Or.inl h
    · right
      rw [hr.2.1 t k ht h1, hr.1 k h1]
      exact h2
/-! the reference's table of what is joined -/
def mz_jr (jo fp : Nat → Int32) (t i : Nat) (f : Nat → Int32) : Prop := (∀ k, k < t → f k = jo k) ∧ ∀ b, b < 32 → (mz_t (f t) b = true ↔ mz_t (fp t) b = true ∨ (b < i ∧ mz_t (fp b) t = true))
theorem mz_jr_0 {jo fp f : Nat → Int32} {t : Nat} (h : ∀ k, k < t → f k = jo k) : mz_jr jo fp t 0 (upd f t (fp t)) := by
  refine ⟨fun k hk => by rw [pk_un (by omega)]; exact h k hk, fun b _ => ?_⟩
  rw [pk_us]
  constructor
  · intro q
    exact Or.inl q
  · intro q
    rcases q with q | q
    · exact q
    · omega
theorem mz_jr_y {jo fp f : Nat → Int32} {t i : Nat} (hi : i < 32) (h : mz_jr jo fp t i f) (hx : mz_t (fp i) t = true) : mz_jr jo fp t (i + 1) (upd f t ((f t) ||| ((1 : Int32) <<< (nI i &&& 31)))) := by
  refine ⟨fun k hk => by rw [pk_un (by omega)]; exact h.1 k hk, fun b hb => ?_⟩
  rw [pk_us, mz_t_or, mz_t_1 hi, Bool.or_eq_true, h.2 b hb]
  constructor
  · intro q
    rcases q with (q | ⟨q1, q2⟩) | q
    · exact Or.inl q
    · exact Or.inr ⟨by omega, q2⟩
    · have e : b = i := by simpa using q
      rw [e]
      exact Or.inr ⟨by omega, hx⟩
  · intro q
    rcases q with q | ⟨q1, q2⟩
    · exact Or.inl (Or.inl q)
    · by_cases e : b = i
      · exact Or.inr (by simpa using e)
      · exact Or.inl (Or.inr ⟨by omega, q2⟩)
theorem mz_jr_n {jo fp f : Nat → Int32} {t i : Nat} (h : mz_jr jo fp t i f) (hx : mz_t (fp i) t = false) : mz_jr jo fp t (i + 1) (upd f t ((f t) ||| 0)) := by
  refine ⟨fun k hk => by rw [pk_un (by omega)]; exact h.1 k hk, fun b hb => ?_⟩
  rw [pk_us, mz_or0, h.2 b hb]
  constructor
  · intro q
    rcases q with q | ⟨q1, q2⟩
    · exact Or.inl q
    · exact Or.inr ⟨by omega, q2⟩
  · intro q
    rcases q with q | ⟨q1, q2⟩
    · exact Or.inl q
    · by_cases e : b = i
      · rw [e, hx] at q2
        cases q2
      · exact Or.inr ⟨by omega, q2⟩
theorem mz_jr_e {n t i : Nat} {jo fp f : Nat → Int32} (hj : ∀ t, t < n → ∀ k, k < 32 → (mz_t (jo t) k = true ↔ mz_t (fp t) k = true ∨ (k < n ∧ mz_t (fp k) t = true))) (ht : t < n) (hi : i = n) (h : mz_jr jo fp t i f) : ∀ k, k < t + 1 → f k = jo k := by
  intro k hk
  by_cases e : k = t
  · rw [e]
    refine mz_t_eq (fun b hb => ?_)
    rw [Bool.eq_iff_iff, h.2 b hb, hj t ht b hb, hi]
  · exact h.1 k (by omega)
/-! the least order -/
def mz_lwo (jo : Nat → Int32) (O : Nat → Nat) (j u : Nat) (x : Int32) : Prop := (x = -1 ∧ mz_lo jo j (mz_wd O u)) ∨ ∃ q, q < u ∧ x = nI q ∧ (mz_lo jo j (mz_wd O u) ↔ mz_lo jo j (mz_wd O (q + 1)))
theorem mz_lw_0 {jo : Nat → Int32} {O : Nat → Nat} {j u : Nat} : mz_lwo jo O j u (nI u - 1) := by
  rcases Nat.eq_zero_or_pos u with c | c
  · rw [c]
    exact Or.inl ⟨by decide, trivial⟩
  · obtain ⟨e, rfl⟩ : ∃ e, u = e + 1 := ⟨u - 1, by omega⟩
    exact Or.inr ⟨e, by omega, nI_pred e, Iff.rfl⟩
theorem mz_lw_s {jo : Nat → Int32} {O : Nat → Nat} {j u q : Nat} {v : Int32} (hq : q < u) (h : mz_lo jo j (mz_wd O u) ↔ mz_lo jo j (mz_wd O (q + 1))) (hJ : mz_t (jo j) (O q) = false) (hle : O q ≤ j) (hv : v = nI q + Int32.ofInt (-1)) : mz_lwo jo O j u v := by
  have e : mz_lo jo j (mz_wd O (q + 1)) ↔ mz_lo jo j (mz_wd O q) := by
    constructor
    · intro w
      rcases w with w | w
      · rw [hJ] at w
        cases w
      · exact w.2
    · intro w
      exact Or.inr ⟨hle, w⟩
  rcases Nat.eq_zero_or_pos q with c | c
  · left
    refine ⟨?_, ?_⟩
    · rw [hv, c]
      decide
    · rw [h, e, c]
      trivial
  · obtain ⟨d, hd⟩ : ∃ d, q = d + 1 := ⟨q - 1, by omega⟩
    right
    refine ⟨d, by omega, ?_, ?_⟩
    · rw [hv, hd]
      exact pk_m1 d
    · rw [h, e, hd]
theorem mz_lw_end {jo : Nat → Int32} {O : Nat → Nat} {j u : Nat} {x : Int32} (hu : u ≤ 8) (h : mz_lwo jo O j u x) (hx : x < 0) : mz_lo jo j (mz_wd O u) := by
  rcases h with h | ⟨q, q1, q2, _⟩
  · exact h.2
  · rw [q2] at hx
    exact absurd hx (nI_pos (by omega))
/-! the search at its head -/
def mz_kk (n : Nat) (jo : Nat → Int32) (V : Nat → Int32 → Prop) (k : Nat) (x1 x2 u : Int32) (fo fc fq fa : Nat → Int32) : Prop := (x2 = -1 ∧ mz_kn n jo V (fun _ => True) x1 fa) ∨ ∃ (N : Nat) (O T : Nat → Nat), x2 = nI N ∧ N ≤ n ∧ (∀ i, i ≤ N → fc i = nI (T i) ∧ T i ≤ n) ∧ mz_dd n jo V N O T fo fq u ∧ mz_kn n jo V (fun v => ¬ mz_pd n O T N v) x1 fa ∧ k = mz_ms T n (N + 1)
theorem mz_kk_l {n : Nat} {jo : Nat → Int32} {V : Nat → Int32 → Prop} {O T : Nat → Nat} {fa : Nat → Int32} {x : Int32} {E : Nat} (hE : n = E + 1) (hO : ∀ d, d < n → O d < T d) (h : mz_kn n jo V (fun v => (¬ mz_pd n O T n v) ∨ v = mz_wd O n) x fa) : mz_kn n jo V (fun v => ¬ mz_pd n O T E v) x fa := by
  refine mz_kn_cg (fun v _ => ?_) h
  rw [mz_pd_leaf hE]
  constructor
  · intro q
    rcases q with q | q
    · exact fun p => q (Or.inr p)
    · rw [q]
      exact mz_pd_w hE hO
  · intro q
    by_cases e : v = mz_wd O n
    · exact Or.inr e
    · exact Or.inl (fun p => p.elim e q)
theorem mz_kk_l0 {n : Nat} {jo : Nat → Int32} {V : Nat → Int32 → Prop} {O T : Nat → Nat} {fa : Nat → Int32} {x : Int32} (hE : n = 0) (h : mz_kn n jo V (fun v => (¬ mz_pd n O T n v) ∨ v = mz_wd O n) x fa) : mz_kn n jo V (fun _ => True) x fa := by
  refine mz_kn_cg (fun v hv => ⟨fun _ => trivial, fun _ => Or.inr ?_⟩) h
  have e := hv.2
  rw [hE] at e ⊢
  exact List.length_eq_zero_iff.mp e
/-! the law: how many, and what is fixed -/
theorem mz_vw_V {n : Nat} {jo : Nat → Int32} {V U : Nat → Int32 → Prop} (h : ∀ k, k < n → ∀ x, (V k x ↔ U k x)) (w : List Nat) : mz_vw n jo V w → mz_vw n jo U w := by
  induction w with
  | nil => exact fun q => q
  | cons t w ih =>
    intro ⟨h1, ⟨h2, h3, h4⟩, h5⟩
    exact ⟨h1, ⟨h2, (h t h1 _).mp h3, h4⟩, ih h5⟩
theorem mz_cw_V {n k : Nat} {jo : Nat → Int32} {V U : Nat → Int32 → Prop} {Q : List Nat → Prop} (h : ∀ k, k < n → ∀ x, (V k x ↔ U k x)) : mz_cw n jo V k Q = mz_cw n jo U k Q := by
  apply Nat.le_antisymm
  · exact mz_cw_le (fun v => v) (fun v h1 h2 h3 => ⟨mz_vw_V h v h1, h2, h3⟩) (fun v w _ _ _ _ e => e)
  · exact mz_cw_le (fun v => v) (fun v h1 h2 h3 => ⟨mz_vw_V (fun k hk x => (h k hk x).symm) v h1, h2, h3⟩) (fun v w _ _ _ _ e => e)
theorem mz_V0m {n : Nat} {fp fc gp : Nat → Int32} (hr : mz_rel n fp fc gp) : ∀ k, k < n → ∀ x, (mz_Vm n (mz_jo fp fc) gp k x ↔ mz_V0 n fp fc k x) := by
  intro k hk x
  unfold mz_Vm mz_V0
  rw [hr.1 k hk]
theorem mz_alike_eq {n : Nat} {fp fc gp : Nat → Int32} (hn : n ≤ 8) (hr : mz_rel n fp fc gp) : nI (mz_cw n (mz_jo fp fc) (mz_Vm n (mz_jo fp fc) gp) n (fun _ => True)) = nI (mz_nuw n (mz_jo fp fc) (mz_V0 n fp fc) (nI (2 ^ n - 1))) := by
  rw [mz_full hn, mz_cw_V (mz_V0m hr)]
theorem mz_gw_b {n : Nat} {jo : Nat → Int32} {V : Nat → Int32 → Prop} (hn : n ≤ 8) (k : Nat) : (mz_gw n jo V k).length ≤ 8 ^ k := by
  induction k with
  | zero => exact Nat.le_refl 1
  | succ k ih =>
    have fl : ∀ (l : List (List Nat)), (l.flatMap (fun w => ((List.range n).filter (fun t => mz_dq (mz_ap jo V w t))).map (fun t => t :: w))).length ≤ 8 * l.length := by
      intro l
      induction l with
      | nil => exact Nat.zero_le _
      | cons x l il =>
        rw [List.flatMap_cons, List.length_append, List.length_map, List.length_cons]
        have u := List.length_filter_le (fun t => mz_dq (mz_ap jo V x t)) (List.range n)
        rw [List.length_range] at u
        omega
    have u := fl (mz_gw n jo V k)
    show ((mz_gw n jo V k).flatMap (fun w => ((List.range n).filter (fun t => mz_dq (mz_ap jo V w t))).map (fun t => t :: w))).length ≤ 8 ^ (k + 1)
    rw [Nat.pow_succ]
    omega
theorem mz_cw_z {n : Nat} {jo : Nat → Int32} {V : Nat → Int32 → Prop} (hn : n ≤ 8) : nI (mz_cw n jo V n (fun _ => True)) = 0 ↔ ∀ v, ¬ mz_fw n jo V v := by
  have b : mz_cw n jo V n (fun _ => True) < 2 ^ 31 := by
    unfold mz_cw
    have u1 := List.length_filter_le (fun v => mz_dq ((fun _ : List Nat => True) v)) (mz_gw n jo V n)
    have u2 := mz_gw_b (jo := jo) (V := V) hn n
    have u3 : 8 ^ n ≤ 8 ^ 8 := Nat.pow_le_pow_right (by decide) hn
    have u4 : (8 : Nat) ^ 8 < 2 ^ 31 := by decide
    exact Nat.lt_of_le_of_lt (Nat.le_trans u1 (Nat.le_trans u2 u3)) u4
  constructor
  · intro h v hv
    have e := mz_n0 h b
    unfold mz_cw at e
    rw [List.length_eq_zero_iff, List.filter_eq_nil_iff] at e
    exact e v ((mz_gw_m n v).mpr hv) (mz_dq_y.mpr trivial)
  · intro h
    have e : mz_cw n jo V n (fun _ => True) = 0 := by
      unfold mz_cw
      rw [List.length_eq_zero_iff, List.filter_eq_nil_iff]
      intro v hv _
      exact h v ((mz_gw_m n v).mp hv)
    rw [e]
    rfl
theorem mz_bf_ss {t : Nat} (w : List Nat) : mz_ss (mz_bf t w) (mz_mk w) := by
  induction w with
  | nil => exact fun _ _ h => h
  | cons o w ih =>
    intro j hj hx
    have hx2 : mz_t (if o = t then mz_mk w else mz_bf t w) j = true := hx
    rw [mz_mk_c, mz_t_or, Bool.or_eq_true]
    left
    by_cases e : o = t
    · rw [if_pos e] at hx2
      exact hx2
    · rw [if_neg e] at hx2
      exact ih j hj hx2
theorem mz_bf_two {n i j : Nat} {jo : Nat → Int32} {V : Nat → Int32 → Prop} (hn : n ≤ 8) (hi : i < n) (hj : j < n) (hij : ¬ i = j) (w : List Nat) : mz_vw n jo V w → mz_t (mz_mk w) i = true → mz_t (mz_mk w) j = true → mz_t (mz_bf i w) j = !mz_t (mz_bf j w) i := by
  induction w with
  | nil =>
    intro _ h
    have h2 : mz_t 0 i = true := h
    rw [mz_t_0] at h2
    cases h2
  | cons o w ih =>
    intro ⟨h1, h2, h3⟩ a b
    rw [mz_mk_c, mz_t_or, mz_t_1 (by omega), Bool.or_eq_true] at a
    rw [mz_mk_c, mz_t_or, mz_t_1 (by omega), Bool.or_eq_true] at b
    have no : ∀ x, x < n → ¬ o = x → (mz_t (mz_mk w) x = true ∨ decide (x = o) = true) → mz_t (mz_mk w) x = true := by
      intro x _ hx q
      rcases q with q | q
      · exact q
      · exact absurd ((by simpa using q : x = o).symm) hx
    have out : ∀ x y, x < n → o = x → mz_t (mz_bf y w) x = false := by
      intro x y hx e
      cases q : mz_t (mz_bf y w) x
      · rfl
      · have u := mz_bf_ss w x (by omega) q
        rw [← e, h2.1] at u
        cases u
    show mz_t (if o = i then mz_mk w else mz_bf i w) j = !mz_t (if o = j then mz_mk w else mz_bf j w) i
    by_cases e1 : o = i
    · have e2 : ¬ o = j := fun q => hij (e1.symm.trans q)
      rw [if_pos e1, if_neg e2, no j hj e2 b, out i j hi e1]
      rfl
    · by_cases e2 : o = j
      · rw [if_neg e1, if_pos e2, no i hi e1 a, out j i hj e2]
        rfl
      · rw [if_neg e1, if_neg e2]
        exact ih h3 (no i hi e1 a) (no j hj e2 b)
theorem mz_V1_out {n i j : Nat} {fp fc : Nat → Int32} {jo : Nat → Int32} (hn : n ≤ 8) (w : List Nat) : mz_t (mz_mk w) i = false → mz_vw n jo (mz_V0 n fp fc) w → mz_vw n jo (mz_V1 n fp fc j i) w := by
  induction w with
  | nil => exact fun _ q => q
  | cons o w ih =>
    intro h ⟨h1, ⟨h2, h3, h4⟩, h5⟩
    rw [mz_mk_c, mz_t_or, mz_t_1 (by omega), Bool.or_eq_false_iff] at h
    refine ⟨h1, ⟨h2, ⟨h3, fun e => ?_⟩, h4⟩, ih h.1 h5⟩
    have u := h.2
    rw [e] at u
    simp at u
theorem mz_V1_in {n i j : Nat} {fp fc : Nat → Int32} {jo : Nat → Int32} (hn : n ≤ 8) (w : List Nat) : mz_vw n jo (mz_V1 n fp fc j i) w → mz_vw n jo (mz_V0 n fp fc) w := by
  induction w with
  | nil => exact fun q => q
  | cons o w ih =>
    intro ⟨h1, ⟨h2, h3, h4⟩, h5⟩
    exact ⟨h1, ⟨h2, h3.1, h4⟩, ih h5⟩
theorem mz_V1_iff {n i j : Nat} {fp fc : Nat → Int32} {jo : Nat → Int32} (hn : n ≤ 8) (w : List Nat) : mz_vw n jo (mz_V0 n fp fc) w → mz_t (mz_mk w) i = true → (mz_vw n jo (mz_V1 n fp fc j i) w ↔ mz_t ((jo i) &&& mz_bf i w) j = true) := by
  induction w with
  | nil =>
    intro _ h
    have h2 : mz_t 0 i = true := h
    rw [mz_t_0] at h2
    cases h2
  | cons o w ih =>
    intro ⟨h1, ⟨h2, h3, h4⟩, h5⟩ a
    show _ ↔ mz_t ((jo i) &&& (if o = i then mz_mk w else mz_bf i w)) j = true
    by_cases e : o = i
    · rw [if_pos e]
      constructor
      · intro ⟨_, ⟨_, q, _⟩, _⟩
        have u := q.2 e
        rw [e] at u
        exact u
      · intro q
        refine ⟨h1, ⟨h2, ⟨h3, fun _ => ?_⟩, h4⟩, mz_V1_out hn w ?_ h5⟩
        · rw [e]
          exact q
        · rw [← e]
          exact h2
    · rw [if_neg e]
      rw [mz_mk_c, mz_t_or, mz_t_1 (by omega), Bool.or_eq_true] at a
      have a2 : mz_t (mz_mk w) i = true := by
        rcases a with a | a
        · exact a
        · exact absurd ((by simpa using a : i = o).symm) e
      rw [← ih h5 a2]
      constructor
      · intro ⟨_, _, q⟩
        exact q
      · intro q
        exact ⟨h1, ⟨h2, ⟨h3, fun e2 => absurd e2 e⟩, h4⟩, q⟩
theorem mz_fixed_law {n i j : Nat} {fp fc gp : Nat → Int32} (hn : n ≤ 8) (hi : i < n) (hj : j < n) (hr : mz_rel n fp fc gp) (ha : mz_acy n gp) (hx : mz_t (fc i) j = true) : nI (mz_nuw n (mz_jo fp fc) (mz_V1 n fp fc j i) (nI (2 ^ n - 1))) = 0 ↔ (mz_t (gp j) i = true ∧ mz_AA n (mz_jo fp fc) (mz_Vm n (mz_jo fp fc) gp) (fun _ => True) i j) := by
  have hg : mz_t (gp j) i = true := by
    rw [← mz_rel_b hr hi hj]
    exact hx
  have jij : mz_t (mz_jo fp fc i) j = true := by
    unfold mz_jo
    rw [mz_t_or, hx, Bool.or_true]
  have jji : mz_t (mz_jo fp fc j) i = true := by
    rw [mz_jo_s hr j i hj hi]
    exact jij
  have hne : ¬ i = j := by
    intro e
    have u := mz_jo_i hn hr ha i hi
    rw [← e] at jij
    rw [jij] at u
    cases u
  have lett : ∀ v x, x < n → mz_fw n (mz_jo fp fc) (mz_V0 n fp fc) v → mz_t (mz_mk v) x = true := by
    intro v x hx2 hv
    rw [mz_mk_f hn hv.1 hv.2]
    exact mz_all_t hn hx2
  rw [mz_full hn, mz_cw_z hn]
  constructor
  · intro h
    refine ⟨hg, fun v hv _ => ?_⟩
    have hv0 : mz_fw n (mz_jo fp fc) (mz_V0 n fp fc) v := ⟨mz_vw_V (mz_V0m hr) v hv.1, hv.2⟩
    have no : ¬ mz_vw n (mz_jo fp fc) (mz_V1 n fp fc j i) v := fun q => h v ⟨q, hv.2⟩
    rw [mz_V1_iff hn v hv0.1 (lett v i hi hv0), mz_t_and, jij, Bool.true_and] at no
    rw [mz_t_and, jji, Bool.true_and]
    have t := mz_bf_two hn hi hj hne v hv0.1 (lett v i hi hv0) (lett v j hj hv0)
    cases e : mz_t (mz_bf j v) i
    · rw [e] at t
      exact absurd t no
    · rfl
  · intro ⟨_, h⟩ v hv
    have hv0 : mz_fw n (mz_jo fp fc) (mz_V0 n fp fc) v := ⟨mz_V1_in hn v hv.1, hv.2⟩
    have q := (mz_V1_iff hn v hv0.1 (lett v i hi hv0)).mp hv.1
    rw [mz_t_and, jij, Bool.true_and] at q
    have p := h v ⟨mz_vw_V (fun k hk x => (mz_V0m hr k hk x).symm) v hv0.1, hv.2⟩ trivial
    rw [mz_t_and, jji, Bool.true_and] at p
    have t := mz_bf_two hn hi hj hne v hv0.1 (lett v i hi hv0) (lett v j hj hv0)
    rw [q, p] at t
    cases t
theorem mz_one_s {f : Nat → Int32} {i : Nat} (h : ∀ q, q < i → f q = 1) : ∀ q, q < i + 1 → upd f i (vp_nar .boolean 1) q = 1 := by
  intro q hq
  by_cases e : q = i
  · rw [e, pk_us]
    decide
  · rw [pk_un e]
    exact h q (by omega)
