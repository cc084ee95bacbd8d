/-! counting bits, what is seen, pages of books, and what told and count answer -/
/-- how many of the first k bits are set -/
def mz_pc (x : Int32) : Nat → Nat
  | 0 => 0
  | k + 1 => mz_pc x k + (if mz_t x k = true then 1 else 0)
theorem mz_pc_le (x : Int32) (k : Nat) : mz_pc x k ≤ k := by
  induction k with
  | zero => exact Nat.le_refl _
  | succ k ih =>
    unfold mz_pc
    split <;> omega
theorem mz_pc_ns {x : Int32} {t : Nat} (ht : mz_t x t = false) (k : Nat) (hk : t < k) : mz_pc x k + 1 ≤ k := by
  induction k with
  | zero => omega
  | succ k ih =>
    unfold mz_pc
    by_cases e : t = k
    · subst e
      rw [if_neg (by rw [ht]; decide)]
      have := mz_pc_le x t
      omega
    · have := ih (by omega)
      split <;> omega
theorem mz_p8 (x : Int32) : 2 ^ (mz_pc x 8) ≤ 256 := mz_2n (mz_pc_le x 8)
theorem mz_256 {x : Int32} (hx : ∀ j, j < 32 → mz_t x j = true → j < 8) : ∃ a : Nat, a < 256 ∧ x = nI a := by
  have h255 : ∀ j : Nat, j < 8 → (255 : Int32).toBitVec.getLsbD j = true := by decide +kernel
  have e : x &&& 255 = x := by
    apply mz_t_eq
    intro j hj
    rw [mz_t_and]
    cases h : mz_t x j
    · simp
    · have h2 : mz_t 255 j = true := h255 j (hx j hj h)
      rw [h2]
      simp
  obtain ⟨a, ha, e2⟩ := pk_andE x (m := 255) 8 (by decide)
  exact ⟨a, ha, by rw [← e2, e]⟩
def mz_bc1 (x : Int32) : Int32 := x - ((x.toUInt32 >>> (Int32.toUInt32 1 &&& Int32.toUInt32 31)).toInt32 &&& 1431655765)
def mz_bc2 (x : Int32) : Int32 := (x &&& 858993459) + ((x.toUInt32 >>> (Int32.toUInt32 2 &&& Int32.toUInt32 31)).toInt32 &&& 858993459)
def mz_bc3 (x : Int32) : Int32 := (x + (x.toUInt32 >>> (Int32.toUInt32 4 &&& Int32.toUInt32 31)).toInt32) &&& 252645135
def mz_bc4 (x : Int32) : Int32 := x + (x.toUInt32 >>> (Int32.toUInt32 8 &&& Int32.toUInt32 31)).toInt32
def mz_bc5 (x : Int32) : Int32 := (x + (x.toUInt32 >>> (Int32.toUInt32 16 &&& Int32.toUInt32 31)).toInt32) &&& 63
theorem mz_bc256 : ∀ a : Nat, a < 256 → mz_bc5 (mz_bc4 (mz_bc3 (mz_bc2 (mz_bc1 (nI a))))) = nI (mz_pc (nI a) 8) := by decide +kernel
theorem mz_bc8 {x v3 v17 v27 v38 v45 : Int32} (hx : ∀ j, j < 32 → mz_t x j = true → j < 8)
    (e3 : v3 = (x.toUInt32 >>> (Int32.toUInt32 1 &&& Int32.toUInt32 31)).toInt32)
    (e17 : v17 = ((x - (v3 &&& 1431655765)).toUInt32 >>> (Int32.toUInt32 2 &&& Int32.toUInt32 31)).toInt32)
    (e27 : v27 = ((((x - (v3 &&& 1431655765)) &&& 858993459) + (v17 &&& 858993459)).toUInt32 >>> (Int32.toUInt32 4 &&& Int32.toUInt32 31)).toInt32)
    (e38 : v38 = ((((((x - (v3 &&& 1431655765)) &&& 858993459) + (v17 &&& 858993459)) + v27) &&& 252645135).toUInt32 >>> (Int32.toUInt32 8 &&& Int32.toUInt32 31)).toInt32)
    (e45 : v45 = (((((((x - (v3 &&& 1431655765)) &&& 858993459) + (v17 &&& 858993459)) + v27) &&& 252645135) + v38).toUInt32 >>> (Int32.toUInt32 16 &&& Int32.toUInt32 31)).toInt32) :
    ((((((((x - (v3 &&& 1431655765)) &&& 858993459) + (v17 &&& 858993459)) + v27) &&& 252645135) + v38) + v45) &&& 63) = nI (mz_pc x 8) := by
  obtain ⟨a, ha, rfl⟩ := mz_256 hx
  rw [← mz_bc256 a ha]
  have h1 : nI a - (v3 &&& 1431655765) = mz_bc1 (nI a) := by rw [e3]; rfl
  rw [h1] at e17 e27 e38 e45 ⊢
  generalize mz_bc1 (nI a) = b1 at e17 e27 e38 e45 ⊢
  have h2 : (b1 &&& 858993459) + (v17 &&& 858993459) = mz_bc2 b1 := by rw [e17]; rfl
  rw [h2] at e27 e38 e45 ⊢
  generalize mz_bc2 b1 = b2 at e27 e38 e45 ⊢
  have h3 : (b2 + v27) &&& 252645135 = mz_bc3 b2 := by rw [e27]; rfl
  rw [h3] at e38 e45 ⊢
  generalize mz_bc3 b2 = b3 at e38 e45 ⊢
  have h4 : b3 + v38 = mz_bc4 b3 := by rw [e38]; rfl
  rw [h4] at e45 ⊢
  generalize mz_bc4 b3 = b4 at e45 ⊢
  rw [e45]
  rfl
theorem mz_pc_s {x y : Int32} {i : Nat} (hi : i < 32) (h : y = nI (mz_pc x i)) : y + ((x >>> (nI i &&& 31)) &&& 1) = nI (mz_pc x (i + 1)) := by
  rw [h]
  show _ = nI (mz_pc x i + (if mz_t x i = true then 1 else 0))
  cases e : mz_t x i
  · rw [(mz_b0 hi).mpr e, if_neg (by decide), Int32.add_zero, Nat.add_zero]
  · rw [(mz_b1 hi).mpr e, if_pos rfl]
    exact nI_1 _
/-- all arrows of the first k things -/
def mz_sm (f : Nat → Int32) : Nat → Nat
  | 0 => 0
  | k + 1 => mz_sm f k + mz_pc (f k) 8
theorem mz_sm_s {f : Nat → Int32} {k : Nat} {y : Int32} (h : y = nI (mz_sm f k)) : y + nI (mz_pc (f k) 8) = nI (mz_sm f (k + 1)) := by
  rw [h]
  exact nI_add _ _
theorem mz_sm_eq {f g : Nat → Int32} (n : Nat) (h : ∀ k, k < n → f k = g k) : mz_sm f n = mz_sm g n := by
  induction n with
  | zero => rfl
  | succ n ih =>
    unfold mz_sm
    rw [ih (fun k hk => h k (by omega)), h n (by omega)]
theorem mz_ltR {j R : Nat} (h : j < R) (hR : R ≤ 256) : ¬ nI R ≤ nI j := fun q => absurd ((nI_leI (a := R) (b := j) (by omega) (by omega)).mp q) (by omega)
theorem mz_ltS {j c : Nat} (h : j < 2 ^ c) (hc : c ≤ 8) : ¬ (1 : Int32) <<< (nI c &&& 31) ≤ nI j := by
  rw [mz_sh1 (by omega)]
  exact mz_ltR h (mz_2n hc)
theorem mz_outR {x : Int32} {R : Nat} (hR : R ≤ 256) (h0 : ¬ x < 0) (h1 : ¬ nI R ≤ x) : ∃ j : Nat, j < R ∧ x = nI j := mz_ix h0 h1 (by omega)
theorem mz_outS {x : Int32} {c : Nat} (hc : c ≤ 8) (h0 : ¬ x < 0) (h1 : ¬ (1 : Int32) <<< (nI c &&& 31) ≤ x) : ∃ j : Nat, j < 2 ^ c ∧ x = nI j := by
  rw [mz_sh1 (by omega)] at h1
  exact mz_outR (mz_2n hc) h0 h1
/-- what may be booked -/
def mz_okp (x : Int32) : Prop := ¬ x < 0 ∧ x ≤ 100
theorem mz_ok2 {x : Int32} (h : x < 0) : ¬ mz_okp x := fun q => q.1 h
theorem mz_ok3 {x : Int32} (h : ¬ x ≤ 100) : ¬ mz_okp x := fun q => h q.2
/-- what told answers, as the class reckons it -/
def mz_tld (sh : Int32) (fp fc : Nat → Int32) (i : Nat) (w r : Int32) : Prop := (w = 0 → r = if mz_t sh i = true then 1 else 0) ∧ (w = 1 → r = fp i) ∧ (w = 2 → r = fc i) ∧ (w = 3 → mz_lst fc (fc i) r) ∧ (¬ w = 0 → ¬ w = 1 → ¬ w = 2 → ¬ w = 3 → r = -1)
theorem mz_tl0 {sh w r : Int32} {fp fc : Nat → Int32} {i : Nat} (h : w = 0) (hr : r = if mz_t sh i = true then 1 else 0) : mz_tld sh fp fc i w r := by
  subst h
  exact ⟨fun _ => hr, fun h => absurd h (by decide), fun h => absurd h (by decide), fun h => absurd h (by decide), fun h => absurd rfl h⟩
theorem mz_tl0y {sh w : Int32} {fp fc : Nat → Int32} {i : Nat} (h : w = 0) (ht : mz_t sh i = true) : mz_tld sh fp fc i w 1 := mz_tl0 h (by rw [if_pos ht])
theorem mz_tl0n {sh w : Int32} {fp fc : Nat → Int32} {i : Nat} (h : w = 0) (ht : mz_t sh i = false) : mz_tld sh fp fc i w 0 := mz_tl0 h (by rw [if_neg (by rw [ht]; decide)])
theorem mz_tl1 {sh w : Int32} {fp fc : Nat → Int32} {i : Nat} (h : w = 1) : mz_tld sh fp fc i w (fp i) := by
  subst h
  exact ⟨fun h => absurd h (by decide), fun _ => rfl, fun h => absurd h (by decide), fun h => absurd h (by decide), fun _ h => absurd rfl h⟩
theorem mz_tl2 {sh w : Int32} {fp fc : Nat → Int32} {i : Nat} (h : w = 2) : mz_tld sh fp fc i w (fc i) := by
  subst h
  exact ⟨fun h => absurd h (by decide), fun h => absurd h (by decide), fun _ => rfl, fun h => absurd h (by decide), fun _ _ h => absurd rfl h⟩
theorem mz_tl3 {sh w r : Int32} {fp fc : Nat → Int32} {i : Nat} (h : w = 3) (hr : mz_lst fc (fc i) r) : mz_tld sh fp fc i w r := by
  subst h
  exact ⟨fun h => absurd h (by decide), fun h => absurd h (by decide), fun h => absurd h (by decide), fun _ => hr, fun _ _ _ h => absurd rfl h⟩
theorem mz_tl4 {sh w : Int32} {fp fc : Nat → Int32} {i : Nat} (h0 : ¬ w = 0) (h1 : ¬ w = 1) (h2 : ¬ w = 2) (h3 : ¬ w = 3) : mz_tld sh fp fc i w (-1) := ⟨fun h => absurd h h0, fun h => absurd h h1, fun h => absurd h h2, fun h => absurd h h3, fun _ _ _ _ => rfl⟩
/-- what told answers, as the reference reckons it -/
def mz_chm (n : Nat) (g : Nat → Int32) (i m : Nat) (r : Int32) : Prop := ∀ j, j < 32 → (mz_t r j = true ↔ j < m ∧ mz_t (g j) i = true)
def mz_tlm (n : Nat) (fs g : Nat → Int32) (i : Nat) (w r : Int32) : Prop := (w = 0 → r = if fs i = 0 then 0 else 1) ∧ (w = 1 → r = g i) ∧ (w = 2 → mz_chm n g i n r) ∧ (w = 3 → mz_bs n g i r ∧ ∀ j, j < 32 → mz_t r j = true → j < n) ∧ (¬ w = 0 → ¬ w = 1 → ¬ w = 2 → ¬ w = 3 → r = -1)
theorem mz_tm0y {n : Nat} {w : Int32} {fs g : Nat → Int32} {i : Nat} (h : w = 0) (ht : ¬ fs i = 0) : mz_tlm n fs g i w 1 := by
  subst h
  exact ⟨fun _ => by rw [if_neg ht], fun h => absurd h (by decide), fun h => absurd h (by decide), fun h => absurd h (by decide), fun h => absurd rfl h⟩
theorem mz_tm0n {n : Nat} {w : Int32} {fs g : Nat → Int32} {i : Nat} (h : w = 0) (ht : fs i = 0) : mz_tlm n fs g i w 0 := by
  subst h
  exact ⟨fun _ => by rw [if_pos ht], fun h => absurd h (by decide), fun h => absurd h (by decide), fun h => absurd h (by decide), fun h => absurd rfl h⟩
theorem mz_tm1 {n : Nat} {w : Int32} {fs g : Nat → Int32} {i : Nat} (h : w = 1) : mz_tlm n fs g i w (g i) := by
  subst h
  exact ⟨fun h => absurd h (by decide), fun _ => rfl, fun h => absurd h (by decide), fun h => absurd h (by decide), fun _ h => absurd rfl h⟩
theorem mz_tm2 {n : Nat} {w r : Int32} {fs g : Nat → Int32} {i : Nat} (h : w = 2) (hr : mz_chm n g i n r) : mz_tlm n fs g i w r := by
  subst h
  exact ⟨fun h => absurd h (by decide), fun h => absurd h (by decide), fun _ => hr, fun h => absurd h (by decide), fun _ _ h => absurd rfl h⟩
theorem mz_tm3 {n : Nat} {w r : Int32} {fs g : Nat → Int32} {i : Nat} (h : w = 3) (hr : mz_bs n g i r ∧ ∀ j, j < 32 → mz_t r j = true → j < n) : mz_tlm n fs g i w r := by
  subst h
  exact ⟨fun h => absurd h (by decide), fun h => absurd h (by decide), fun h => absurd h (by decide), fun _ => hr, fun _ _ _ h => absurd rfl h⟩
theorem mz_tm4 {n : Nat} {w : Int32} {fs g : Nat → Int32} {i : Nat} (h0 : ¬ w = 0) (h1 : ¬ w = 1) (h2 : ¬ w = 2) (h3 : ¬ w = 3) : mz_tlm n fs g i w (-1) := ⟨fun h => absurd h h0, fun h => absurd h h1, fun h => absurd h h2, fun h => absurd h h3, fun _ _ _ _ => rfl⟩
theorem mz_ch_z {n i : Nat} {g : Nat → Int32} : mz_chm n g i 0 0 := by
  intro j hj
  rw [mz_t_0]
  constructor
  · intro h
    cases h
  · intro h
    exact absurd h.1 (Nat.not_lt_zero j)
theorem mz_ch_y {n i m : Nat} {g : Nat → Int32} {r : Int32} (hm : m < 32) (h : mz_chm n g i m r) (ht : mz_t (g m) i = true) : mz_chm n g i (m + 1) (r ||| ((1 : Int32) <<< (nI m &&& 31))) := by
  intro j hj
  rw [mz_t_or, mz_t_1 hm, Bool.or_eq_true, h j hj]
  constructor
  · intro q
    rcases q with q | q
    · exact ⟨by omega, q.2⟩
    · have e : j = m := by simpa using q
      subst e
      exact ⟨by omega, ht⟩
  · intro ⟨q1, q2⟩
    by_cases e : j = m
    · exact Or.inr (by simpa using e)
    · exact Or.inl ⟨by omega, q2⟩
theorem mz_ch_n {n i m : Nat} {g : Nat → Int32} {r : Int32} (h : mz_chm n g i m r) (ht : mz_t (g m) i = false) : mz_chm n g i (m + 1) (r ||| 0) := by
  intro j hj
  rw [mz_t_or, mz_t_0, Bool.or_false, h j hj]
  constructor
  · intro q
    exact ⟨by omega, q.2⟩
  · intro ⟨q1, q2⟩
    by_cases e : j = m
    · subst e
      rw [ht] at q2
      cases q2
    · exact ⟨by omega, q2⟩
/-- what is seen, up to m -/
def mz_sn (m : Nat) (sh : Int32) (fs : Nat → Int32) : Prop := ∀ j, j < 32 → mz_t sh j = (decide (j < m) && !decide (fs j = 0))
theorem mz_sn_0 {fs : Nat → Int32} : mz_sn 0 0 fs := by
  intro j hj
  rw [mz_t_0]
  simp
theorem mz_sn_y {m : Nat} {sh : Int32} {fs gs : Nat → Int32} (hm : m < 32) (h : mz_sn m sh fs) (hs : ∀ j, j < m → gs j = fs j) (ht : ¬ gs m = 0) : mz_sn (m + 1) (sh ||| ((1 : Int32) <<< (nI m &&& 31))) gs := by
  intro j hj
  rw [mz_t_or, mz_t_1 hm, h j hj]
  by_cases e : j = m
  · subst e
    simp [ht]
  · by_cases e2 : j < m
    · rw [hs j e2]
      simp [e, e2, show j < m + 1 by omega]
    · simp [e, e2, show ¬ j < m + 1 by omega]
theorem mz_sn_n {m : Nat} {sh : Int32} {fs gs : Nat → Int32} (h : mz_sn m sh fs) (hs : ∀ j, j < m → gs j = fs j) (ht : gs m = 0) : mz_sn (m + 1) sh gs := by
  intro j hj
  rw [h j hj]
  by_cases e : j = m
  · subst e
    simp [ht]
  · by_cases e2 : j < m
    · rw [hs j e2]
      simp [e2, show j < m + 1 by omega]
    · simp [e2, show ¬ j < m + 1 by omega]
theorem mz_sn_n0 {m : Nat} {sh : Int32} {fs : Nat → Int32} (h : mz_sn m sh fs) (ht : fs m = 0) : mz_sn (m + 1) (sh ||| 0) fs := by
  have e : sh ||| 0 = sh := by
    apply mz_t_eq
    intro j hj
    rw [mz_t_or, mz_t_0, Bool.or_false]
  rw [e]
  exact mz_sn_n h (fun _ _ => rfl) ht
theorem mz_sn_one {n : Nat} {a b : Int32} {fs : Nat → Int32} (h1 : mz_sn n a fs) (h2 : mz_sn n b fs) : a = b := mz_t_eq (fun j hj => by rw [h1 j hj, h2 j hj])
/-- what count answers, on either side -/
def mz_cnt (n s : Nat) (w r : Int32) (S : Int32 → Prop) : Prop := (w = 0 → r = nI n) ∧ (w = 1 → r = nI s) ∧ (w = 2 → S r) ∧ (¬ w = 0 → ¬ w = 1 → ¬ w = 2 → r = -1)
theorem mz_cn0 {n s : Nat} {w : Int32} {S : Int32 → Prop} (h : w = 0) : mz_cnt n s w (nI n) S := by
  subst h
  exact ⟨fun _ => rfl, fun h => absurd h (by decide), fun h => absurd h (by decide), fun h => absurd rfl h⟩
theorem mz_cn1 {n s : Nat} {w r : Int32} {S : Int32 → Prop} (h : w = 1) (hr : r = nI s) : mz_cnt n s w r S := by
  subst h
  exact ⟨fun h => absurd h (by decide), fun _ => hr, fun h => absurd h (by decide), fun _ h => absurd rfl h⟩
theorem mz_cn2 {n s : Nat} {w r : Int32} {S : Int32 → Prop} (h : w = 2) (hr : S r) : mz_cnt n s w r S := by
  subst h
  exact ⟨fun h => absurd h (by decide), fun h => absurd h (by decide), fun _ => hr, fun _ _ h => absurd rfl h⟩
theorem mz_cn3 {n s : Nat} {w : Int32} {S : Int32 → Prop} (h0 : ¬ w = 0) (h1 : ¬ w = 1) (h2 : ¬ w = 2) : mz_cnt n s w (-1) S := ⟨fun h => absurd h h0, fun h => absurd h h1, fun h => absurd h h2, fun _ _ _ => rfl⟩
/-- the pages of the things there are say the same on both sides -/
def mz_be (n : Nat) (a b : Nat → Int32) : Prop := ∀ q, q < 128 * n → a q = b q
theorem mz_be_0 {a b : Nat → Int32} : mz_be 0 a b := fun q hq => absurd hq (by omega)
theorem mz_be_bk {n j : Nat} {a b a1 b1 : Nat → Int32} (h : mz_be n a b) (ha : mz_bkp a a1 j 128) (hb : mz_bkp b b1 j 128) : mz_be n a1 b1 := by
  intro q hq
  rw [ha q, hb q]
  split
  · rfl
  · exact h q hq
theorem mz_be_more {n : Nat} {a b a1 b1 : Nat → Int32} (h : mz_be n a b) (ha : mz_bkp a a1 n 128) (hb : mz_bkp b b1 n 128) : mz_be (n + 1) a1 b1 := by
  intro q hq
  rw [ha q, hb q]
  split
  · rfl
  · exact h q (by omega)
theorem mz_be_two {n i j : Nat} {a b a1 b1 a2 b2 : Nat → Int32} (h : mz_be n a b) (ha : mz_bkp a a1 i 128) (ha2 : mz_bkp a1 a2 j 128) (hb : mz_bkp b b1 j 128) (hb2 : mz_bkp b1 b2 i 128) : mz_be n a2 b2 := by
  intro q hq
  rw [ha2 q, hb2 q, ha q, hb q]
  by_cases c1 : 128 * j ≤ q ∧ q < 128 * j + 128
  · rw [if_pos c1]
    by_cases c2 : 128 * i ≤ q ∧ q < 128 * i + 128
    · rw [if_pos c2]
    · rw [if_neg c2, if_pos c1]
  · rw [if_neg c1]
    by_cases c2 : 128 * i ≤ q ∧ q < 128 * i + 128
    · rw [if_pos c2, if_pos c2]
    · rw [if_neg c2, if_neg c2, if_neg c1]
      exact h q hq
theorem mz_be_w {n k : Nat} {a b : Nat → Int32} {x : Int32} (h : mz_be n a b) : mz_be n (upd a k x) (upd b k x) := by
  intro q hq
  by_cases e : q = k
  · subst e
    rw [pk_us, pk_us]
  · rw [pk_un e, pk_un e]
    exact h q hq
theorem mz_rel_b8 {n : Nat} {fp fc gp : Nat → Int32} (hn : n ≤ 8) (h : mz_rel n fp fc gp) : ∀ k, k < n → ∀ q, q < 32 → mz_t (fp k) q = true → q < 8 := fun k hk q hq hx => Nat.lt_of_lt_of_le (h.2.2.1 k hk q hq hx) hn
theorem mz_j128 {n i j : Nat} {fp fc gp : Nat → Int32} (hn : n ≤ 8) (hi : i < n) (ha : mz_acy n gp) (hr : mz_rel n fp fc gp) (hj : j < 2 ^ (mz_pc (fp i) 8)) : j < 128 := by
  have h1 : mz_t (gp i) i = false := mz_acy_self (by omega) hi ha
  rw [← hr.1 i hi] at h1
  have h2 := mz_pc_ns h1 8 (by omega)
  have h3 := mz_p7 (c := mz_pc (fp i) 8) (by omega)
  omega
theorem mz_row_m {n i j : Nat} {fp fc gp : Nat → Int32} (hi : i < n) (hr : mz_rel n fp fc gp) (hj : j < 2 ^ (mz_pc (fp i) 8)) : j < 2 ^ (mz_pc (gp i) 8) := by
  rw [← hr.1 i hi]
  exact hj
theorem mz_out_m {n : Nat} {x y : Int32} {fp fc gp : Nat → Int32} (hr : mz_rel n fp fc gp) (h : ¬ ∃ i j : Nat, i < n ∧ j < 2 ^ (mz_pc (fp i) 8) ∧ x = nI i ∧ y = nI j) : ¬ ∃ i j : Nat, i < n ∧ j < 2 ^ (mz_pc (gp i) 8) ∧ x = nI i ∧ y = nI j := by
  intro ⟨i, j, hi, hj, e1, e2⟩
  exact h ⟨i, j, hi, by rw [hr.1 i hi]; exact hj, e1, e2⟩
/-- told: both sides answer alike -/
theorem mz_told_eq {n i : Nat} {sh w r1 r2 : Int32} {fp fc gp fs : Nat → Int32} (hn : n ≤ 8) (hi : i < n) (hr : mz_rel n fp fc gp) (hs : mz_sn n sh fs) (h1 : mz_tld sh fp fc i w r1) (h2 : mz_tlm n fs gp i w r2) : r2 = r1 := by
  obtain ⟨a0, a1, a2, a3, a4⟩ := h1
  obtain ⟨b0, b1, b2, b3, b4⟩ := h2
  by_cases e0 : w = 0
  · rw [a0 e0, b0 e0, hs i (by omega)]
    by_cases c : fs i = 0
    · simp [c]
    · simp [c, hi]
  by_cases e1 : w = 1
  · rw [a1 e1, b1 e1, hr.1 i hi]
  by_cases e2 : w = 2
  · rw [a2 e2]
    apply mz_t_eq
    intro j hj
    have h3 := b2 e2 j hj
    cases c : mz_t r2 j
    · cases d : mz_t (fc i) j
      · rfl
      · have h4 := hr.2.2.2 i (by omega) j hj d
        rw [mz_rel_b hr hi h4.1] at d
        rw [h3.mpr ⟨h4.1, d⟩] at c
        cases c
    · have h4 := h3.mp c
      rw [mz_rel_b hr hi h4.1, h4.2]
  by_cases e3 : w = 3
  · obtain ⟨c1, c2⟩ := b3 e3
    have d1 := a3 e3
    apply mz_t_eq
    intro j hj
    by_cases hjn : j < n
    · exact (mz_below hn hi hr d1 c1 j hjn).symm
    · have x1 : mz_t r2 j = false := by
        cases c : mz_t r2 j
        · rfl
        · exact absurd (c2 j hj c) hjn
      rw [x1]
      cases d : mz_t r1 j
      · rfl
      · exfalso
        obtain ⟨M, hM⟩ : ∃ M : Int32, ∀ j, j < 32 → mz_t M j = decide (j < n) := by
          have h5 : ∀ m : Nat, m ≤ 8 → ∀ j : Nat, j < 32 → (nI (2 ^ m - 1)).toBitVec.getLsbD j = decide (j < m) := by decide +kernel
          exact ⟨nI (2 ^ n - 1), fun j hj => h5 n hn j hj⟩
        have y1 : mz_cl2 fc M := by
          intro k hk hx q hq hy
          rw [hM q hq]
          simpa using (hr.2.2.2 k hk q hq hy).1
        have y2 : mz_ss (fc i) M := by
          intro q hq hy
          rw [hM q hq]
          simpa using (hr.2.2.2 i (by omega) q hq hy).1
        have y3 := d1.2.2 M y1 y2 j hj d
        rw [hM j hj] at y3
        exact hjn (by simpa using y3)
  rw [a4 e0 e1 e2 e3, b4 e0 e1 e2 e3]
/-- count: both sides answer alike -/
theorem mz_count_eq {n : Nat} {sh w r1 r2 : Int32} {fp fc gp fs : Nat → Int32} (hr : mz_rel n fp fc gp) (hs : mz_sn n sh fs) (h1 : mz_cnt n (mz_sm fp n) w r1 (fun r => r = sh)) (h2 : mz_cnt n (mz_sm gp n) w r2 (fun r => mz_sn n r fs)) : r2 = r1 := by
  obtain ⟨a0, a1, a2, a3⟩ := h1
  obtain ⟨b0, b1, b2, b3⟩ := h2
  by_cases e0 : w = 0
  · rw [a0 e0, b0 e0]
  by_cases e1 : w = 1
  · rw [a1 e1, b1 e1, mz_sm_eq n hr.1]
  by_cases e2 : w = 2
  · rw [a2 e2]
    exact mz_sn_one (b2 e2) hs
  rw [a3 e0 e1 e2, b3 e0 e1 e2]
theorem mz_bs_up {n k : Nat} {X : Int32} (hk : k < n) (hn : n ≤ 8) (h : ∀ j, j < 32 → mz_t X j = true → j < n) : ∀ j, j < 32 → mz_t (X ||| ((1 : Int32) <<< (nI k &&& 31))) j = true → j < n := by
  intro j hj hx
  rw [mz_t_or, mz_t_1 (by omega), Bool.or_eq_true] at hx
  rcases hx with hx | hx
  · exact h j hj hx
  · have e : j = k := by simpa using hx
    omega
theorem mz_sn_t1 {n : Nat} {sh gsh : Int32} {fs gs : Nat → Int32} (hn : n < 8) (h : mz_sn n sh fs) (h1 : gsh = sh ||| ((1 : Int32) <<< (nI n &&& 31))) (h2 : gs = upd fs n (vp_nar .boolean 1)) : mz_sn (n + 1) gsh gs := by
  rw [h1, h2]
  refine mz_sn_y (by omega) h (fun j hj => pk_un (by omega)) ?_
  rw [pk_us]
  decide
theorem mz_sn_t0 {n : Nat} {sh gsh : Int32} {fs gs : Nat → Int32} (h : mz_sn n sh fs) (h1 : gsh = sh) (h2 : gs = upd fs n (vp_nar .boolean 0)) : mz_sn (n + 1) gsh gs := by
  rw [h1, h2]
  refine mz_sn_n h (fun j hj => pk_un (by omega)) ?_
  rw [pk_us]
  rfl
