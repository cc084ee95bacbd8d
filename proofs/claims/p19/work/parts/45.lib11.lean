/-! all cases together; what might have been otherwise -/
theorem mz_T_sh (g : Nat → Int64) (h o : Int32) (k acc d : Nat) : mz_T g h o k (acc + d) = mz_T (fun c => g (c + d)) h o k acc := by
  induction k generalizing acc with
  | zero => rfl
  | succ k ih =>
    show (if mz_t h k = true then mz_T g h o k (acc + d + (if mz_t o k = true then 2 ^ k else 0)) else mz_T g h o k (acc + d) + mz_T g h o k (acc + d + 2 ^ k)) = (if mz_t h k = true then mz_T (fun c => g (c + d)) h o k (acc + (if mz_t o k = true then 2 ^ k else 0)) else mz_T (fun c => g (c + d)) h o k acc + mz_T (fun c => g (c + d)) h o k (acc + 2 ^ k))
    rw [Nat.add_right_comm acc d (if mz_t o k = true then 2 ^ k else 0), Nat.add_right_comm acc d (2 ^ k), ih, ih, ih]
theorem mz_T_cgh {g : Nat → Int64} {h h1 o : Int32} (k acc : Nat) (e : ∀ j, j < k → mz_t h j = mz_t h1 j) : mz_T g h o k acc = mz_T g h1 o k acc := by
  induction k generalizing acc with
  | zero => rfl
  | succ k ih =>
    have ih := fun a => ih a (fun j hj => e j (by omega))
    show (if mz_t h k = true then mz_T g h o k (acc + (if mz_t o k = true then 2 ^ k else 0)) else mz_T g h o k acc + mz_T g h o k (acc + 2 ^ k)) = (if mz_t h1 k = true then mz_T g h1 o k (acc + (if mz_t o k = true then 2 ^ k else 0)) else mz_T g h1 o k acc + mz_T g h1 o k (acc + 2 ^ k))
    rw [e k (by omega), ih, ih, ih]
theorem mz_add4 (a b c d : Int64) : (a + b) + (c + d) = (a + c) + (b + d) := by
  rw [Int64.add_assoc, ← Int64.add_assoc b c d, Int64.add_comm b c, Int64.add_assoc c b d, ← Int64.add_assoc]
theorem mz_T_split {g : Nat → Int64} {h h1 o : Int32} {t : Nat} (hh : mz_t h t = true) (ho : mz_t o t = false) (h1t : mz_t h1 t = false) (hne : ∀ j, j ≠ t → mz_t h1 j = mz_t h j) (k acc : Nat) (ht : t < k) : mz_T g h1 o k acc = mz_T g h o k acc + mz_T (fun c => g (c + 2 ^ t)) h o k acc := by
  induction k generalizing acc with
  | zero => omega
  | succ k ih =>
    show (if mz_t h1 k = true then mz_T g h1 o k (acc + (if mz_t o k = true then 2 ^ k else 0)) else mz_T g h1 o k acc + mz_T g h1 o k (acc + 2 ^ k)) = (if mz_t h k = true then mz_T g h o k (acc + (if mz_t o k = true then 2 ^ k else 0)) else mz_T g h o k acc + mz_T g h o k (acc + 2 ^ k)) + (if mz_t h k = true then mz_T (fun c => g (c + 2 ^ t)) h o k (acc + (if mz_t o k = true then 2 ^ k else 0)) else mz_T (fun c => g (c + 2 ^ t)) h o k acc + mz_T (fun c => g (c + 2 ^ t)) h o k (acc + 2 ^ k))
    by_cases e : t = k
    · subst e
      rw [if_neg (by rw [h1t]; decide), if_pos hh, if_pos hh, if_neg (by rw [ho]; decide), Nat.add_zero, mz_T_sh, mz_T_cgh t acc (fun j hj => hne j (by omega)), mz_T_cgh (g := fun c => g (c + 2 ^ t)) t acc (fun j hj => hne j (by omega))]
    · have ih := fun a => ih a (by omega)
      rw [hne k (fun q => e q.symm), ih, ih, ih]
      cases mz_t h k
      · rw [if_neg (by decide), if_neg (by decide), if_neg (by decide)]
        exact mz_add4 _ _ _ _
      · rw [if_pos rfl, if_pos rfl, if_pos rfl]
theorem mz_su_add2 (g g1 : Nat → Int64) (m : Nat) : mz_su g m + mz_su g1 m = mz_su (fun c => g c + g1 c) m := by
  induction m with
  | zero => rfl
  | succ m ih =>
    show (mz_su g m + g m) + (mz_su g1 m + g1 m) = mz_su (fun c => g c + g1 c) m + (g m + g1 m)
    rw [← ih]
    exact mz_add4 _ _ _ _
theorem mz_su_mul (g : Nat → Int64) (z : Int64) (m : Nat) : mz_su (fun c => g c * z) m = mz_su g m * z := by
  induction m with
  | zero =>
    show (0 : Int64) = 0 * z
    rw [Int64.zero_mul]
  | succ m ih =>
    show mz_su (fun c => g c * z) m + g m * z = (mz_su g m + g m) * z
    rw [ih, Int64.add_mul]
/-- one more thing, and a case of those before it -/
theorem mz_pr2 {n t c : Nat} {fp fb : Nat → Int32} {d S : Int32} (hn : n ≤ 8) (ht : t < n) (hok : mz_ok fp S t = true) (hcl : mz_cl3 n fp S) (hc : c < 256) (hs : ∀ j, c.testBit j = true → mz_t S j = true) : mz_pr (mz_fac fp fb d c) (S ||| ((1 : Int32) <<< (nI t &&& 31))) n = mz_pr (mz_fac fp fb d c) S n * (100 - mz_pu fp fb d t (nI c)).toInt64 ∧ mz_pr (mz_fac fp fb d (c + 2 ^ t)) (S ||| ((1 : Int32) <<< (nI t &&& 31))) n = mz_pr (mz_fac fp fb d c) S n * (mz_pu fp fb d t (nI c)).toInt64 := by
  obtain ⟨htc, hpa⟩ := mz_ok_t hok
  have ct : c.testBit t = false := by
    cases e : c.testBit t
    · rfl
    · have := hs t e
      rw [htc] at this
      cases this
  have c1 := mz_pl256 t (by omega) c hc ct
  have c2 := (mz_add256 t (by omega) c hc ct).2
  have cb : ∀ j, j < 8 → j ≠ t → (c + 2 ^ t).testBit j = c.testBit j := by
    intro j hj hne
    obtain ⟨_, _, _, h4⟩ := mz_mi256 t (by omega) (c + 2 ^ t) c2 c1
    have h5 := h4 j hj hne
    rw [Nat.add_sub_cancel] at h5
    exact h5.symm
  have bits : ∀ j, j < 8 → mz_t S j = true → mz_t (nI (c + 2 ^ t)) j = mz_t (nI c) j := by
    intro j hj hx
    have hjt : j ≠ t := by
      intro q
      subst q
      rw [htc] at hx
      cases hx
    rw [mz_t_nI (by omega), mz_t_nI (by omega), cb j hj hjt]
  constructor
  · rw [mz_pr_ins n ht (by omega) htc]
    have h2 : mz_fac fp fb d c t = (100 - mz_pu fp fb d t (nI c)).toInt64 := by
      unfold mz_fac
      rw [if_neg (by rw [ct]; decide)]
    rw [h2]
  · rw [mz_pr_ins n ht (by omega) htc]
    have h2 : mz_fac fp fb d (c + 2 ^ t) t = (mz_pu fp fb d t (nI c)).toInt64 := by
      unfold mz_fac
      rw [if_pos c1, mz_pu_on (on := nI (c + 2 ^ t)) (on1 := nI c) (fun j hj hx => bits j hj (hpa j (by omega) hx))]
    rw [h2]
    congr 1
    apply mz_pr_cg n (fun _ _ => rfl)
    intro k hk hx
    have hkt : k ≠ t := by
      intro q
      subst q
      rw [htc] at hx
      cases hx
    unfold mz_fac
    rw [cb k (by omega) hkt, mz_pu_on (on := nI (c + 2 ^ t)) (on1 := nI c) (fun j hj hy => bits j hj (hcl k hk hx j (by omega) hy))]
theorem mz_100 {x : Int32} (h : mz_okp x) : (100 - x).toInt64 + x.toInt64 = 100 := by
  obtain ⟨a, ha, e⟩ := mz_okp_a h
  have h1 : (100 : Int32) - nI a = nI (100 - a) := pk_sub (a := 100) ha
  rw [e, h1, nI_l (by omega), nI_l (by omega), lN_add, show 100 - a + a = 100 by omega]
  rfl
def mz_tt (n : Nat) (fp fb : Nat → Int32) (d S : Int32) : Int64 := mz_T (fun c => mz_pr (mz_fac fp fb d c) S n) (S ^^^ (-1)) 0 n 0
theorem mz_tt_s {n t : Nat} {fp fb : Nat → Int32} {d S : Int32} (hn : n ≤ 8) (ht : t < n) (hok : mz_ok fp S t = true) (hcl : mz_cl3 n fp S) (hb : mz_bo n fb) (hr : ∀ k, k < n → ∀ on, mz_rw (fp k) on 8 < 128) : mz_tt n fp fb d (S ||| ((1 : Int32) <<< (nI t &&& 31))) = mz_tt n fp fb d S * 100 := by
  obtain ⟨htc, hpa⟩ := mz_ok_t hok
  have h256 := mz_2n hn
  have b1 : ∀ j, j < 32 → mz_t ((S ||| ((1 : Int32) <<< (nI t &&& 31))) ^^^ (-1)) j = (!mz_t S j && !decide (j = t)) := by
    intro j hj
    rw [mz_t_not hj, mz_t_or, mz_t_1 (by omega), Bool.not_or]
  have e1 : mz_tt n fp fb d (S ||| ((1 : Int32) <<< (nI t &&& 31))) = mz_T (fun c => mz_pr (mz_fac fp fb d c) (S ||| ((1 : Int32) <<< (nI t &&& 31))) n) (S ^^^ (-1)) 0 n 0 + mz_T (fun c => mz_pr (mz_fac fp fb d (c + 2 ^ t)) (S ||| ((1 : Int32) <<< (nI t &&& 31))) n) (S ^^^ (-1)) 0 n 0 := by
    obtain ⟨R, hR⟩ : ∃ R : Int32, R = (S ^^^ (-1)) &&& (((1 : Int32) <<< (nI t &&& 31)) ^^^ (-1)) := ⟨_, rfl⟩
    have bR : ∀ j, mz_t R j = (mz_t (S ^^^ (-1)) j && mz_t (((1 : Int32) <<< (nI t &&& 31)) ^^^ (-1)) j) := by
      intro j
      rw [hR, mz_t_and]
    have hi : ∀ j, ¬ j < 32 → ∀ x : Int32, mz_t x j = false := by
      intro j hj x
      unfold mz_t
      exact BitVec.getLsbD_of_ge _ _ (by omega)
    rw [← mz_T_split (g := fun c => mz_pr (mz_fac fp fb d c) (S ||| ((1 : Int32) <<< (nI t &&& 31))) n) (h := S ^^^ (-1)) (h1 := R) (o := 0) (t := t) (by rw [mz_t_not (by omega), htc]; rfl) mz_t_0 (by rw [bR, mz_t_not (a := (1 : Int32) <<< (nI t &&& 31)) (by omega), mz_t_1 (by omega)]; simp) (fun j hj => by
      rw [bR]
      by_cases q : j < 32
      · rw [mz_t_not (a := (1 : Int32) <<< (nI t &&& 31)) q, mz_t_1 (by omega)]
        simp [hj]
      · rw [hi j q, hi j q]
        rfl) n 0 ht]
    unfold mz_tt
    apply mz_T_cgh
    intro j hj
    rw [b1 j (by omega), bR, mz_t_not (by omega), mz_t_not (by omega), mz_t_1 (by omega)]
  rw [e1]
  unfold mz_tt
  rw [← mz_T_cs, ← mz_T_cs, ← mz_T_cs, mz_su_add2, ← mz_su_mul]
  apply mz_su_cg
  intro c hc
  cases m : mz_mtc (S ^^^ (-1)) 0 c n
  · rw [if_neg (by decide), if_neg (by decide), if_neg (by decide), Int64.zero_mul]
    rfl
  · rw [if_pos rfl, if_pos rfl, if_pos rfl, Nat.zero_add]
    have hs : ∀ j, c.testBit j = true → mz_t S j = true := by
      intro j hj
      have hjn : j < n := by
        rcases Nat.lt_or_ge j n with q | q
        · exact q
        · rw [Nat.testBit_lt_two_pow (Nat.lt_of_lt_of_le hc (Nat.pow_le_pow_right (by decide) q))] at hj
          cases hj
      cases e : mz_t S j
      · have h1 := (mz_mt_iff n).mp m j hjn (by rw [mz_t_not (by omega), e]; rfl)
        rw [hj, mz_t_0] at h1
        cases h1
      · rfl
    obtain ⟨p1, p2⟩ := mz_pr2 (d := d) (fb := fb) hn ht hok hcl (show c < 256 by omega) hs
    rw [p1, p2, ← Int64.mul_add, mz_100 (mz_pu_ok ht hb hr)]
theorem mz_tot {n : Nat} {fp fb : Nat → Int32} {d : Int32} (hn : n ≤ 8) (ha : mz_acy n fp) (hb : mz_bo n fb) (hr : ∀ k, k < n → ∀ on, mz_rw (fp k) on 8 < 128) : mz_cs (mz_wt n fp fb d) 0 0 n = lN (100 ^ n) := by
  have step : ∀ i, i ≤ n → ∃ S : Int32, mz_cl3 n fp S ∧ n ≤ mz_un S n + i ∧ mz_un S n + i ≤ n ∧ mz_tt n fp fb d S = lN (100 ^ i) := by
    intro i
    induction i with
    | zero =>
      intro _
      refine ⟨0, mz_cl3_0, mz_un_0 hn, mz_un_le _ n, ?_⟩
      have h1 : ∀ c, mz_pr (mz_fac fp fb d c) 0 n = 1 := by
        intro c
        have h2 : ∀ m, mz_pr (mz_fac fp fb d c) 0 m = 1 := by
          intro m
          induction m with
          | zero => rfl
          | succ m ih =>
            show (if mz_t 0 m = true then _ else mz_pr (mz_fac fp fb d c) 0 m) = 1
            rw [mz_t_0, if_neg (by decide), ih]
        exact h2 n
      have h3 : ∀ k acc, k ≤ 8 → mz_T (fun _ => (1 : Int64)) ((0 : Int32) ^^^ (-1)) 0 k acc = 1 := by
        intro k
        induction k with
        | zero => intro _ _; rfl
        | succ k ih =>
          intro acc hk
          show (if mz_t ((0 : Int32) ^^^ (-1)) k = true then mz_T (fun _ => (1 : Int64)) ((0 : Int32) ^^^ (-1)) 0 k (acc + _) else _) = 1
          rw [if_pos (by rw [mz_t_not (by omega), mz_t_0]; rfl), ih _ (by omega)]
      unfold mz_tt
      rw [show (fun c => mz_pr (mz_fac fp fb d c) 0 n) = (fun _ => (1 : Int64)) from funext h1, h3 n 0 hn]
      rfl
    | succ i ih =>
      intro hi
      obtain ⟨S, s1, s2, s3, s4⟩ := ih (by omega)
      obtain ⟨t, t1, t2⟩ := mz_ok_ex ha hn s2 (by omega)
      refine ⟨S ||| ((1 : Int32) <<< (nI t &&& 31)), mz_cl3_s t2 (by omega) s1, mz_un_next hn t1 s2, mz_un_dn hn t1 (mz_ok_t t2).1 s3, ?_⟩
      rw [mz_tt_s hn t1 t2 s1 hb hr, s4]
      have h1 : (100 : Int64) = lN 100 := rfl
      rw [h1, lN_mul, Nat.pow_succ]
  obtain ⟨S, s1, s2, s3, s4⟩ := step n (Nat.le_refl n)
  have full : ∀ k, k < n → mz_t S k = true := by
    intro k hk
    cases e : mz_t S k
    · have := mz_un_set (F := S) (k := k) ((mz_b0 (show k < 32 by omega)).mpr e) (n := n) (by omega) hk
      omega
    · rfl
  rw [← s4]
  unfold mz_tt
  rw [mz_T_cgh (h1 := 0) n 0 (fun j hj => by rw [mz_t_not (by omega), full j hj, mz_t_0]; rfl), ← mz_T_cs]
  unfold mz_cs
  apply mz_su_cg
  intro c _
  rw [Nat.zero_add]
  have h1 : mz_wt n fp fb d c = mz_pr (mz_fac fp fb d c) S n := by
    unfold mz_wt
    exact mz_pr_cg n (fun k hk => by rw [full k hk]; exact mz_all_t hn hk) (fun _ _ _ => rfl)
  rw [h1]
/-! settings of one and of two things -/
def mz_s2 (s : Int32) (t : Nat) (v : Int32) : Int32 := (s ||| ((1 : Int32) <<< (nI t &&& 31))) ||| (v <<< (nI (8 + t) &&& 31))
def mz_so (t : Nat) (v : Int32) : Int32 := mz_s2 0 t v
theorem mz_so_x1 : ∀ t : Nat, t < 8 → ((1 : Int32) <<< (nI t &&& 31)) ||| ((1 : Int32) <<< (nI (t + 8) &&& 31)) = mz_so t 1 := by decide +kernel
theorem mz_so_x0 : ∀ t : Nat, t < 8 → ((1 : Int32) <<< (nI t &&& 31)) ||| ((0 : Int32) <<< (nI (t + 8) &&& 31)) = mz_so t 0 := by decide +kernel
theorem mz_so_h : ∀ t : Nat, t < 8 → mz_so t 1 &&& 255 = ((1 : Int32) <<< (nI t &&& 31)) ∧ (mz_so t 1 >>> ((8 : Int32) &&& 31)) &&& 255 = ((1 : Int32) <<< (nI t &&& 31)) := by decide +kernel
theorem mz_s2_11 : ∀ i : Nat, i < 8 → ∀ j : Nat, j < 8 → mz_s2 (mz_so i 1) j 1 &&& 255 = ((1 : Int32) <<< (nI i &&& 31)) ||| ((1 : Int32) <<< (nI j &&& 31)) ∧ (mz_s2 (mz_so i 1) j 1 >>> ((8 : Int32) &&& 31)) &&& 255 = ((1 : Int32) <<< (nI i &&& 31)) ||| ((1 : Int32) <<< (nI j &&& 31)) := by decide +kernel
theorem mz_s2_10 : ∀ i : Nat, i < 8 → ∀ j : Nat, j < 8 → mz_s2 (mz_so i 1) j 0 &&& 255 = ((1 : Int32) <<< (nI i &&& 31)) ||| ((1 : Int32) <<< (nI j &&& 31)) ∧ (mz_s2 (mz_so i 1) j 0 >>> ((8 : Int32) &&& 31)) &&& 255 = ((1 : Int32) <<< (nI i &&& 31)) := by decide +kernel
theorem mz_s2_01 : ∀ i : Nat, i < 8 → ∀ j : Nat, j < 8 → mz_s2 (mz_so i 0) j 1 &&& 255 = ((1 : Int32) <<< (nI i &&& 31)) ||| ((1 : Int32) <<< (nI j &&& 31)) ∧ (mz_s2 (mz_so i 0) j 1 >>> ((8 : Int32) &&& 31)) &&& 255 = ((1 : Int32) <<< (nI j &&& 31)) := by decide +kernel
theorem mz_s2_00 : ∀ i : Nat, i < 8 → ∀ j : Nat, j < 8 → mz_s2 (mz_so i 0) j 0 &&& 255 = ((1 : Int32) <<< (nI i &&& 31)) ||| ((1 : Int32) <<< (nI j &&& 31)) ∧ (mz_s2 (mz_so i 0) j 0 >>> ((8 : Int32) &&& 31)) &&& 255 = 0 := by decide +kernel
theorem mz_vb : ∀ t : Nat, t < 8 → ∀ k : Nat, k < 32 → ((1 : Int32) <<< (nI (8 + t) &&& 31)).toBitVec.getLsbD k = decide (k = 8 + t) := by decide +kernel
theorem mz_vz : ∀ t : Nat, t < 8 → ((0 : Int32) <<< (nI (8 + t) &&& 31)) = 0 := by decide +kernel
theorem mz_st_0 {n : Nat} : mz_stg n 0 := ⟨fun j _ _ => mz_t_0, fun j _ h => absurd h (by rw [mz_t_0]; decide), fun j _ h => absurd h (by rw [mz_t_0]; decide)⟩
theorem mz_s2_st {n t : Nat} {s v : Int32} (hn : n ≤ 8) (ht : t < n) (hs : mz_stg n s) (hv : v = 0 ∨ v = 1) : mz_stg n (mz_s2 s t v) := by
  have bv : ∀ k, k < 32 → mz_t (v <<< (nI (8 + t) &&& 31)) k = true → k = 8 + t := by
    intro k hk hx
    rcases hv with rfl | rfl
    · rw [mz_vz t (by omega), mz_t_0] at hx
      cases hx
    · have h1 := mz_vb t (by omega) k hk
      have h2 : mz_t ((1 : Int32) <<< (nI (8 + t) &&& 31)) k = decide (k = 8 + t) := h1
      rw [h2] at hx
      simpa using hx
  have b : ∀ k, k < 32 → mz_t (mz_s2 s t v) k = true → mz_t s k = true ∨ k = t ∨ k = 8 + t := by
    intro k hk hx
    unfold mz_s2 at hx
    rw [mz_t_or, mz_t_or, Bool.or_eq_true, Bool.or_eq_true, mz_t_1 (by omega)] at hx
    rcases hx with (hx | hx) | hx
    · exact Or.inl hx
    · exact Or.inr (Or.inl (by simpa using hx))
    · exact Or.inr (Or.inr (bv k hk hx))
  have bt : mz_t (mz_s2 s t v) t = true := by
    unfold mz_s2
    rw [mz_t_or, mz_t_or, mz_t_1 (by omega)]
    simp
  refine ⟨fun j hj hj2 => ?_, fun j hj hx => ?_, fun j hj hx => ?_⟩
  · cases e : mz_t (mz_s2 s t v) j
    · rfl
    · rcases b j hj2 e with q | q | q
      · rw [hs.1 j hj hj2] at q
        cases q
      · omega
      · omega
  · rcases b j (by omega) hx with q | q | q
    · exact hs.2.1 j hj q
    · omega
    · omega
  · rcases b (8 + j) (by omega) hx with q | q | q
    · have h1 := hs.2.2 j hj q
      unfold mz_s2
      rw [mz_t_or, mz_t_or, h1]
      rfl
    · omega
    · have e : j = t := by omega
      rw [e]
      exact bt
theorem mz_so_st {n t : Nat} {v : Int32} (hn : n ≤ 8) (ht : t < n) (hv : v = 0 ∨ v = 1) : mz_stg n (mz_so t v) := mz_s2_st hn ht mz_st_0 hv
theorem mz_hp_bi {n t : Nat} (ht : t < n) (hn : n ≤ 8) : mz_hp n ((1 : Int32) <<< (nI t &&& 31)) := by
  intro j hj hx
  rw [mz_t_1 (by omega)] at hx
  have e : j = t := by simpa using hx
  omega
theorem mz_hp_or {n : Nat} {x y : Int32} (hx : mz_hp n x) (hy : mz_hp n y) : mz_hp n (x ||| y) := by
  intro j hj h
  rw [mz_t_or, Bool.or_eq_true] at h
  exact h.elim (hx j hj) (hy j hj)
theorem mz_hp_0 {n : Nat} : mz_hp n 0 := by
  intro j hj h
  rw [mz_t_0] at h
  cases h
theorem mz_in_s (x : Int32) : ∀ j, j < 32 → mz_t x j = true → mz_t x j = true := fun _ _ h => h
theorem mz_in_l (x y : Int32) : ∀ j, j < 32 → mz_t x j = true → mz_t (x ||| y) j = true := by
  intro j _ h
  rw [mz_t_or, h]
  rfl
theorem mz_in_r (x y : Int32) : ∀ j, j < 32 → mz_t y j = true → mz_t (x ||| y) j = true := by
  intro j _ h
  rw [mz_t_or, h, Bool.or_true]
theorem mz_in_0 (x : Int32) : ∀ j, j < 32 → mz_t 0 j = true → mz_t x j = true := by
  intro j _ h
  rw [mz_t_0] at h
  cases h
theorem mz_hv_w2 {n : Nat} {fp fb : Nat → Int32} {d h o : Int32} {gw : Nat → Int64} (hn : n ≤ 8) (hh : mz_hp n h) (ho : ∀ j, j < 32 → mz_t o j = true → mz_t h j = true) (hg : ∀ c, c < 2 ^ n → gw c = mz_wt n fp fb d c) : mz_hv (nI (2 ^ n - 1)) gw h o = mz_cs (mz_wt n fp fb d) h o n := by
  rw [mz_hv_cs hn hh ho]
  exact mz_cs_cg hg
def mz_mx (x y : Int64) : Int64 := if y < x then x else y
def mz_mn (x y : Int64) : Int64 := if y < x then y else x
theorem mz_mx_1 {x y : Int64} (h : ¬ lg_cmp x y ≤ 0) : x = mz_mx x y := by
  unfold mz_mx
  rw [if_pos (mz_lcg.mp (by
    rw [Int32.lt_iff_toInt_lt]
    rw [Int32.le_iff_toInt_le] at h
    omega))]
theorem mz_mx_2 {x y : Int64} (h : lg_cmp x y ≤ 0) : y = mz_mx x y := by
  unfold mz_mx
  rw [if_neg (fun q => by
    have h1 := mz_lcg.mpr q
    rw [Int32.lt_iff_toInt_lt] at h1
    rw [Int32.le_iff_toInt_le] at h
    omega)]
theorem mz_mn_1 {x y : Int64} (h : ¬ 0 ≤ lg_cmp x y) : x = mz_mn x y := by
  rw [lg_cmp_ge] at h
  unfold mz_mn
  rw [if_neg (fun q => h (by
    rw [Int64.le_iff_toInt_le]
    rw [Int64.lt_iff_toInt_lt] at q
    omega))]
theorem mz_mn_2 {x y : Int64} (h : 0 ≤ lg_cmp x y) : y = mz_mn x y := by
  rw [lg_cmp_ge] at h
  unfold mz_mn
  by_cases q : y < x
  · rw [if_pos q]
  · rw [if_neg q]
    rw [Int64.le_iff_toInt_le] at h
    rw [Int64.lt_iff_toInt_lt] at q
    apply Int64.toInt_inj.mp
    omega
/-- the five answers of otherwise -/
def mz_ow (d1 d0 b1 p11 p10 p01 p00 al : Int64) (w : Int32) : Int64 := if w = 0 then mz_mx (mz_mx 0 (d1 - d0)) (mz_mx (b1 - d0) (d1 - b1)) else if w = 1 then mz_mn (mz_mn d1 (al - d0)) (mz_mn (p11 + p00) ((d1 - d0 + p10) + p01)) else if w = 2 then mz_mx 0 (b1 - d0) else if w = 3 then mz_mn p11 ((al - d0) - p00) else p11
theorem mz_ow0 {d1 d0 b1 p11 p10 p01 p00 al : Int64} {w : Int32} (h : w = 0) : mz_ow d1 d0 b1 p11 p10 p01 p00 al w = mz_mx (mz_mx 0 (d1 - d0)) (mz_mx (b1 - d0) (d1 - b1)) := by
  unfold mz_ow
  rw [if_pos h]
theorem mz_ow1 {d1 d0 b1 p11 p10 p01 p00 al : Int64} {w : Int32} (h : w = 1) : mz_ow d1 d0 b1 p11 p10 p01 p00 al w = mz_mn (mz_mn d1 (al - d0)) (mz_mn (p11 + p00) ((d1 - d0 + p10) + p01)) := by
  subst h
  unfold mz_ow
  rw [if_neg (show ¬ (1 : Int32) = 0 by decide), if_pos rfl]
theorem mz_ow2 {d1 d0 b1 p11 p10 p01 p00 al : Int64} {w : Int32} (h : w = 2) : mz_ow d1 d0 b1 p11 p10 p01 p00 al w = mz_mx 0 (b1 - d0) := by
  subst h
  unfold mz_ow
  rw [if_neg (show ¬ (2 : Int32) = 0 by decide), if_neg (show ¬ (2 : Int32) = 1 by decide), if_pos rfl]
theorem mz_ow3 {d1 d0 b1 p11 p10 p01 p00 al : Int64} {w : Int32} (h : w = 3) : mz_ow d1 d0 b1 p11 p10 p01 p00 al w = mz_mn p11 ((al - d0) - p00) := by
  subst h
  unfold mz_ow
  rw [if_neg (show ¬ (3 : Int32) = 0 by decide), if_neg (show ¬ (3 : Int32) = 1 by decide), if_neg (show ¬ (3 : Int32) = 2 by decide), if_pos rfl]
theorem mz_ow4 {d1 d0 b1 p11 p10 p01 p00 al : Int64} {w : Int32} (h0 : ¬ w = 0) (h1 : ¬ w = 1) (h2 : ¬ w = 2) (h3 : ¬ w = 3) : mz_ow d1 d0 b1 p11 p10 p01 p00 al w = p11 := by
  unfold mz_ow
  rw [if_neg h0, if_neg h1, if_neg h2, if_neg h3]
theorem mz_pw {i : Nat} {x : Int64} (h : x = lN (100 ^ i)) : x * 100 = lN (100 ^ (i + 1)) := by
  have h1 : (100 : Int64) = lN 100 := rfl
  rw [h, h1, lN_mul, Nat.pow_succ]
