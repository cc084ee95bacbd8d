/-! rows of this claim's own: tops of the stack by another name, nest words, a counting loop -/
section MzW
variable {p : Program} {l : Launch} {e : Env} {R : Room} {s : State} {m : MethodId} {args : Array Value} {below : List Frame} {meth : Method} {c : Code} {H : Heap} {locs : List Loc} {cells slots : Nat} {Q : State → Prop}
variable {pc : Nat} {ls : Array Slot} {rest : List Value}
theorem mz_ti {x y : Int32} (h : x = y) (k : W p l e R s m args below meth c H locs cells slots Q (F0 m pc ls (.int y :: rest))) : W p l e R s m args below meth c H locs cells slots Q (F0 m pc ls (.int x :: rest)) := by
  subst h
  exact k
theorem mz_tl {x y : Int64} (h : x = y) (k : W p l e R s m args below meth c H locs cells slots Q (F0 m pc ls (.long y :: rest))) : W p l e R s m args below meth c H locs cells slots Q (F0 m pc ls (.long x :: rest)) := by
  subst h
  exact k
theorem mz_loop (N : Nat) (I : Nat → Heap → List Loc → Array Slot → Prop)
    (hstep : ∀ (i : Nat) (H : Heap) (locs : List Loc) (ls : Array Slot), i < N → I i H locs ls → (∀ (H' : Heap) (locs' : List Loc) (ls' : Array Slot), I (i + 1) H' locs' ls' → W p l e R s m args below meth c H' locs' cells slots Q (F0 m pc ls' [])) → W p l e R s m args below meth c H locs cells slots Q (F0 m pc ls []))
    (hend : ∀ (H : Heap) (locs : List Loc) (ls : Array Slot), I N H locs ls → W p l e R s m args below meth c H locs cells slots Q (F0 m pc ls [])) :
    ∀ (i : Nat), i ≤ N → ∀ (H : Heap) (locs : List Loc) (ls : Array Slot), I i H locs ls → W p l e R s m args below meth c H locs cells slots Q (F0 m pc ls []) := by
  intro i hi
  obtain ⟨n, hn⟩ : ∃ n, n = N - i := ⟨_, rfl⟩
  induction n generalizing i with
  | zero =>
    intro H locs ls h
    have : i = N := by omega
    subst this
    exact hend H locs ls h
  | succ n ih =>
    intro H locs ls h
    refine hstep i H locs ls (by omega) h (fun H' locs' ls' h' => ih (i + 1) (by omega) (by omega) H' locs' ls' h')
end MzW
section MzA
variable {p : Program} {l : Launch} {e : Env} {R : Room} {s : State} {m : MethodId} {args : Array Value} {below : List Frame} {meth : Method} {c : Code} {H : Heap} {locs : List Loc} {cells slots : Nat} {Q : State → Prop}
variable {cc : ByteArray} {pc : Nat} {ls : Array Slot} {rest : List Value} {D : va_G} {cl : List vw_C} {A : Nat → Prop} {a : Nat} {tys : List (ClassId × FieldType)} {ws : va_W} {H0 : Heap}
/-- a new array, whose class is one that is known already -/
theorem mz_newa (t0 : Nat) {cQ : ClassId} {ty : FieldType} (hprim : ∀ c1 c2 : ClassId, va_RA s c1 ty → va_RA s c2 ty → c1 = c2) (hexec : p.tables.exec = Jvm.exec) (hb : c.code = cc) {atype : ArrayType} (harr : (Cond.arrayClass (newarray.typeOf atype)).before args s = true) (hty : newarray.typeOf atype = ty) (hK : va_K D cl tys s) (hP : va_P D cl ws H) (hD : va_D A ws) (hS : va_S A H0 H locs) (hA : ∀ q, H0.size ≤ q → A q) (ht : tys[t0]? = some (cQ, ty))
    {n : Int32} {N' : Nat} {a0 : vp_A} (ha : ∀ cA : ClassId, vp_cell cA a0 = arrV cA N' (fun _ => defaultValue ty)) (hn : ¬ n < 0) (hN : n.toNatClampNeg = N') (hbytes : N' * componentBytes ty ≤ 536870912) (hcells : cells + 1 ≤ R.cells) (hslots : slots + N' ≤ R.slots) (hdg : decode cc pc = .ok (.newarray atype, 2))
    (kk : ∀ (q : Nat) (H1 : Heap), va_P D cl (ws ++ [(q, .inl (cQ, a0))]) H1 → va_D A (ws ++ [(q, .inl (cQ, a0))]) → va_S A H0 H1 locs →
      W p l e R s m args below meth c H1 locs (cells + 1) (slots + N') Q (F0 m (pc + 2) ls (.ref q :: rest))) : W p l e R s m args below meth c H locs cells slots Q (F0 m pc ls (.int n :: rest)) := by
  refine va_newa hexec hb harr hty hK hP hD hS hA ha hn hN hbytes hcells hslots hdg (fun q cA H1 hK1 hP1 hD1 hS1 => ?_)
  have h1 := (hK1.2 tys.length (cA, ty) (by simp)).2
  have h2 := (hK.2 t0 _ ht).2
  obtain rfl : cA = cQ := hprim _ _ h1 h2
  exact kk q H1 hP1 hD1 hS1
end MzA
theorem mz_in {i : Int32} {n : Nat} (h : (decide (i < 0) || decide (n ≤ i.toNatClampNeg)) = false) : vp_in i n := by
  intro h2
  rcases h2 with h2 | h2 <;> simp [h2] at h
theorem mz_z0 (x : Int32) : 0 + x = x := Int32.zero_add x
theorem mz_am (x : Int32) : x &&& (-1) = x := by
  apply Int32.toBitVec_inj.mp
  rw [Int32.toBitVec_and]
  exact BitVec.and_allOnes
theorem mz_0s (x : Int32) : (0 : Int32) >>> x = 0 := by
  apply Int32.toBitVec_inj.mp
  rw [Int32.toBitVec_shiftRight]
  simp
theorem mz_nz {v : Int32} (h : (decide (v = 0) || decide (v = 1)) = true) : narrow .boolean (.int v) = .int v := by
  by_cases h0 : v = 0
  · subst h0
    rfl
  · by_cases h1 : v = 1
    · subst h1
      rfl
    · simp [h0, h1] at h
theorem mz_nn {x : Int32} (h : ¬ x < 0) : 0 ≤ x := by
  rw [Int32.lt_iff_toInt_lt] at h
  rw [Int32.le_iff_toInt_le]
  omega
theorem mz_sw {x : Int32} (h0 : ¬ x = 0) (h1 : ¬ x = 1) (h2 : ¬ x = 2) : x.toInt < 0 ∨ 2 < x.toInt := by
  rw [← Int32.toInt_inj] at h0 h1 h2
  have e0 : (0 : Int32).toInt = 0 := rfl
  have e1 : (1 : Int32).toInt = 1 := rfl
  have e2 : (2 : Int32).toInt = 2 := rfl
  rw [e0] at h0
  rw [e1] at h1
  rw [e2] at h2
  omega
/-- the links to nest mates' private methods that the class uses -/
def mz_nl : List (String × Nat × MethodName × String) := [(RX7, 11, yX2_init, "MadeItSo"), (RX7, 21, yX1_init, "MadeItSo"), (RX7, 28, yX6_init, "MadeItSo"), (RX7, 35, yX5_init, "MadeItSo"), (RX5, 9, yX0_init, "MadeItSo"), (RX7, 42, yX3_init, "MadeItSo"), (RX7, 49, yX4_init, "MadeItSo"), (RX2, 26, yX7_inHeap, "MadeItSo"), (RX2, 37, yX7_bit, "MadeItSo"), (RX6, 31, yX7_partsOf, "MadeItSo"), (RX6, 34, yX7_bit, "MadeItSo"), (RX1, 19, yX7_heapOf, "MadeItSo"), (RX1, 23, yX7_inHeap, "MadeItSo"), (RX1, 26, yX7_onesOf, "MadeItSo"), (RX6, 47, yX7_nextPart, "MadeItSo"), (RX3, 19, yX7_bit, "MadeItSo"), (RX3, 23, yX7_partsOf, "MadeItSo"), (RX3, 36, yX7_nextPart, "MadeItSo"), (RX5, 26, yX7_commonDivisor, "MadeItSo"), (RX4, 25, yX7_inHeap, "MadeItSo"), (RX4, 29, yX7_bit, "MadeItSo"), (RX4, 37, yX7_partsOf, "MadeItSo"), (RX4, 40, yX7_nextPart, "MadeItSo")]
def mz_N (U : State) : Prop := ∀ q ∈ mz_nl, va_Nw (.methodLinkNest q.1 q.2.1 q.2.2.1 q.2.2.2) U
theorem mz_nw {s U : State} (hW : s.WarmedH U.vm) (h : mz_N s) : mz_N U := fun q hq => va_Nw.warmM hW (h q hq)
theorem mz_ns {u U : State} (hv : u.vm = U.vm) (h : mz_N u) : mz_N U := fun q hq => va_Nw.same rfl hv (h q hq)
theorem mz_blP {av : List Value} {Hq : Heap} {D : va_G} {cl : List vw_C} {ws : va_W} {tys : List (ClassId × FieldType)} {a : Array Value} {U : State} {g : JFrame} {mk : MethodId} (q : va_Pc av (fun U => U.heap = Hq ∧ va_P D cl ws Hq ∧ va_K D cl tys U ∧ mz_N U) a U) : va_Pc av (fun U => U.heap = Hq ∧ va_P D cl ws Hq ∧ va_K D cl tys U ∧ mz_N U) a (U.calling g mk a) :=
  ⟨q.1, q.2.1, q.2.2.1, va_K.moved (u := U) (U := U.calling g mk a) (Vm.Alike.refl U.vm) q.2.2.2.1, mz_ns (u := U) rfl q.2.2.2.2⟩
theorem mz_blI {av : List Value} {sz : Nat} {D : va_G} {cl : List vw_C} {ws : va_W} {tys : List (ClassId × FieldType)} {a : Array Value} {U : State} {g : JFrame} {mk : MethodId} (q : va_Pc av (fun U => U.heap.size = sz ∧ va_P D cl ws U.heap ∧ va_K D cl tys U ∧ va_D (fun _ => True) ws ∧ mz_N U) a U) : va_Pc av (fun U => U.heap.size = sz ∧ va_P D cl ws U.heap ∧ va_K D cl tys U ∧ va_D (fun _ => True) ws ∧ mz_N U) a (U.calling g mk a) :=
  ⟨q.1, q.2.1, q.2.2.1, va_K.moved (u := U) (U := U.calling g mk a) (Vm.Alike.refl U.vm) q.2.2.2.1, q.2.2.2.2.1, mz_ns (u := U) rfl q.2.2.2.2.2⟩
