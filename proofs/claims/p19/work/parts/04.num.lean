/-! plain facts of ints that the settings' tests rest on -/
theorem mz_lc (x : Int64) : lg_cmp x x = 0 := by simp [lg_cmp]
theorem mz_n0 {n : Nat} (h : nI n = 0) (hn : n < 2 ^ 31) : n = 0 := by
  rw [← nI_0, nI_eq hn (by decide)] at h
  exact h
theorem mz_h1 {x : Int32} (h1 : ¬ x < 0) (h2 : ¬ 1 ≤ x) : x = 0 := by
  rw [Int32.lt_iff_toInt_lt] at h1
  rw [Int32.le_iff_toInt_le] at h2
  have e0 : (0 : Int32).toInt = 0 := rfl
  have e1 : (1 : Int32).toInt = 1 := rfl
  rw [e0] at h1
  rw [e1] at h2
  rw [← Int32.toInt_inj, e0]
  omega
theorem mz_low {n : Nat} (hn : n < 65536) (h2 : nI n &&& 255 = 0) (h3 : nI n >>> (8 &&& 31) &&& 255 = 0) : n = 0 := by
  have e2 := pk_andN (n := n) (by omega) (m := 255) 8 (by decide)
  rw [e2] at h2
  have a2 := mz_n0 h2 (by omega)
  have e3 := pk_shrN (n := n) (by omega) (8 &&& 31) 8 (by decide)
  rw [e3, pk_andN (by omega) (m := 255) 8 (by decide)] at h3
  have a3 := mz_n0 h3 (by omega)
  omega
theorem mz_set {x : Int32} (h1 : (x.toUInt32 >>> ((16 : Int32).toUInt32 &&& Int32.toUInt32 31)).toInt32 = 0) (h2 : x &&& 255 = 0) (h3 : (x >>> (8 &&& 31) &&& 255) &&& ((x &&& 255) ^^^ (-1)) = 0) : x = 0 := by
  have e1 := pk_ushr x 16 16 (by decide)
  rw [h1] at e1
  have z : (0 : Int32).toBitVec.toNat = 0 := rfl
  rw [z] at e1
  have hx : x = nI x.toBitVec.toNat := by
    apply Int32.toBitVec_inj.mp
    show x.toBitVec = BitVec.ofNat 32 x.toBitVec.toNat
    simp
  have hlt : x.toBitVec.toNat < 65536 := by omega
  rw [h2] at h3
  rw [show ((0 : Int32) ^^^ (-1)) = -1 by decide, mz_am] at h3
  rw [hx] at h2 h3
  rw [hx, mz_low hlt h2 h3]
  rfl
theorem mz_setM {x : Int32} (h0 : ¬ x < 0) (h1 : ¬ 65536 ≤ x) (h2 : x &&& 255 = 0) (h3 : (x >>> (8 &&& 31)) &&& ((x &&& 255) ^^^ (-1)) = 0) : x = 0 := by
  obtain ⟨j, hj, rfl⟩ := nI_of h0
  have hlt : j < 65536 := by
    rcases Nat.lt_or_ge j 65536 with q | q
    · exact q
    · exact absurd (nI_le q hj) h1
  rw [h2] at h3
  rw [show ((0 : Int32) ^^^ (-1)) = -1 by decide, mz_am] at h3
  rw [mz_low hlt h2 (by rw [h3]; rfl)]
  rfl
