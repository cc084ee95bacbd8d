section
-- ===== PART A: goes FIRST, ahead of the names: the tables' words, and 'selects' of the private methods out of them =====
/-- a private method of a class that the tables say can be made, by its rows of tables_1 -/
def lw_okq (q : MethodName × Nat) : Prop := (q.1.cls ≠ "java/lang/invoke/MethodHandle" ∧ q.1.cls ≠ "java/lang/invoke/VarHandle") ∧ Cond.instantiable q.1.cls q.2 ∈ tables_1 ∧ Cond.privateMethod q.1 ∈ tables_1 ∧ Cond.instanceMethod q.1 ∈ tables_1
theorem lw_p0 : lw_okq (⟨"MadeItSo$Drawing", "spread", "(I[I)I"⟩, 3) := ⟨⟨by decide +kernel, by decide +kernel⟩, List.mem_of_getElem? (i := 21) (by decide +kernel), List.mem_of_getElem? (i := 192) (by decide +kernel), List.mem_of_getElem? (i := 193) (by decide +kernel)⟩
theorem lw_p1 : lw_okq (⟨"MadeItSo", "hasRow", "(II)Z"⟩, 10) := ⟨⟨by decide +kernel, by decide +kernel⟩, List.mem_of_getElem? (i := 13) (by decide +kernel), List.mem_of_getElem? (i := 224) (by decide +kernel), List.mem_of_getElem? (i := 225) (by decide +kernel)⟩
theorem lw_p2 : lw_okq (⟨"MadeItSo", "isSetting", "(I)Z"⟩, 10) := ⟨⟨by decide +kernel, by decide +kernel⟩, List.mem_of_getElem? (i := 13) (by decide +kernel), List.mem_of_getElem? (i := 267) (by decide +kernel), List.mem_of_getElem? (i := 268) (by decide +kernel)⟩
theorem lw_p3 : lw_okq (⟨"MadeItSo", "isHeap", "(I)Z"⟩, 10) := ⟨⟨by decide +kernel, by decide +kernel⟩, List.mem_of_getElem? (i := 13) (by decide +kernel), List.mem_of_getElem? (i := 274) (by decide +kernel), List.mem_of_getElem? (i := 275) (by decide +kernel)⟩
theorem lw_p4 : lw_okq (⟨"MadeItSo$Weights", "split", "(III)V"⟩, 2) := ⟨⟨by decide +kernel, by decide +kernel⟩, List.mem_of_getElem? (i := 48) (by decide +kernel), List.mem_of_getElem? (i := 313) (by decide +kernel), List.mem_of_getElem? (i := 314) (by decide +kernel)⟩
theorem lw_p5 : lw_okq (⟨"MadeItSo", "areTwo", "(II)Z"⟩, 10) := ⟨⟨by decide +kernel, by decide +kernel⟩, List.mem_of_getElem? (i := 13) (by decide +kernel), List.mem_of_getElem? (i := 357) (by decide +kernel), List.mem_of_getElem? (i := 358) (by decide +kernel)⟩
theorem lw_p6 : lw_okq (⟨"MadeItSo$LeastHeaps", "holdsOne", "(I)Z"⟩, 2) := ⟨⟨by decide +kernel, by decide +kernel⟩, List.mem_of_getElem? (i := 91) (by decide +kernel), List.mem_of_getElem? (i := 367) (by decide +kernel), List.mem_of_getElem? (i := 368) (by decide +kernel)⟩
theorem lw_p7 : lw_okq (⟨"MadeItSo", "sumOver", "(III)Z"⟩, 10) := ⟨⟨by decide +kernel, by decide +kernel⟩, List.mem_of_getElem? (i := 13) (by decide +kernel), List.mem_of_getElem? (i := 408) (by decide +kernel), List.mem_of_getElem? (i := 409) (by decide +kernel)⟩
theorem lw_p8 : lw_okq (⟨"MadeItSo$Big", "trim", "()V"⟩, 2) := ⟨⟨by decide +kernel, by decide +kernel⟩, List.mem_of_getElem? (i := 68) (by decide +kernel), List.mem_of_getElem? (i := 420) (by decide +kernel), List.mem_of_getElem? (i := 421) (by decide +kernel)⟩
theorem lw_p9 : lw_okq (⟨"MadeItSo$Drawing", "unjoinedWith", "(II)I"⟩, 3) := ⟨⟨by decide +kernel, by decide +kernel⟩, List.mem_of_getElem? (i := 21) (by decide +kernel), List.mem_of_getElem? (i := 477) (by decide +kernel), List.mem_of_getElem? (i := 478) (by decide +kernel)⟩
theorem lw_p10 : lw_okq (⟨"MadeItSo$Lookalikes", "waysEndingIn", "(LMadeItSo$Drawing;II)I"⟩, 1) := ⟨⟨by decide +kernel, by decide +kernel⟩, List.mem_of_getElem? (i := 104) (by decide +kernel), List.mem_of_getElem? (i := 482) (by decide +kernel), List.mem_of_getElem? (i := 483) (by decide +kernel)⟩
theorem lw_p11 : lw_okq (⟨"MadeItSo", "leastOfBoth", "(IJJ)J"⟩, 10) := ⟨⟨by decide +kernel, by decide +kernel⟩, List.mem_of_getElem? (i := 13) (by decide +kernel), List.mem_of_getElem? (i := 501) (by decide +kernel), List.mem_of_getElem? (i := 502) (by decide +kernel)⟩
theorem lw_p12 : lw_okq (⟨"MadeItSo", "mostOfBoth", "(IIJJ)J"⟩, 10) := ⟨⟨by decide +kernel, by decide +kernel⟩, List.mem_of_getElem? (i := 13) (by decide +kernel), List.mem_of_getElem? (i := 505) (by decide +kernel), List.mem_of_getElem? (i := 506) (by decide +kernel)⟩
theorem lw_p13 : lw_okq (⟨"MadeItSo", "mostOfNeed", "(IIJ)J"⟩, 10) := ⟨⟨by decide +kernel, by decide +kernel⟩, List.mem_of_getElem? (i := 13) (by decide +kernel), List.mem_of_getElem? (i := 512) (by decide +kernel), List.mem_of_getElem? (i := 513) (by decide +kernel)⟩
theorem lw_p14 : lw_okq (⟨"MadeItSoModel", "fresh", "(I)V"⟩, 17) := ⟨⟨by decide +kernel, by decide +kernel⟩, List.mem_of_getElem? (i := 533) (by decide +kernel), List.mem_of_getElem? (i := 596) (by decide +kernel), List.mem_of_getElem? (i := 597) (by decide +kernel)⟩
theorem lw_p15 : lw_okq (⟨"MadeItSoModel", "isThing", "(I)Z"⟩, 17) := ⟨⟨by decide +kernel, by decide +kernel⟩, List.mem_of_getElem? (i := 533) (by decide +kernel), List.mem_of_getElem? (i := 604) (by decide +kernel), List.mem_of_getElem? (i := 605) (by decide +kernel)⟩
def lw_privs_1 : List (MethodName × Nat) := [(⟨"MadeItSo$Drawing", "spread", "(I[I)I"⟩, 3), (⟨"MadeItSo", "hasRow", "(II)Z"⟩, 10), (⟨"MadeItSo", "isSetting", "(I)Z"⟩, 10), (⟨"MadeItSo", "isHeap", "(I)Z"⟩, 10), (⟨"MadeItSo$Weights", "split", "(III)V"⟩, 2), (⟨"MadeItSo", "areTwo", "(II)Z"⟩, 10), (⟨"MadeItSo$LeastHeaps", "holdsOne", "(I)Z"⟩, 2), (⟨"MadeItSo", "sumOver", "(III)Z"⟩, 10), (⟨"MadeItSo$Big", "trim", "()V"⟩, 2), (⟨"MadeItSo$Drawing", "unjoinedWith", "(II)I"⟩, 3), (⟨"MadeItSo$Lookalikes", "waysEndingIn", "(LMadeItSo$Drawing;II)I"⟩, 1), (⟨"MadeItSo", "leastOfBoth", "(IJJ)J"⟩, 10), (⟨"MadeItSo", "mostOfBoth", "(IIJJ)J"⟩, 10), (⟨"MadeItSo", "mostOfNeed", "(IIJ)J"⟩, 10), (⟨"MadeItSoModel", "fresh", "(I)V"⟩, 17), (⟨"MadeItSoModel", "isThing", "(I)Z"⟩, 17)]
theorem lw_r1 : ∀ q ∈ lw_privs_1, lw_okq q := List.forall_mem_cons.mpr ⟨lw_p0, List.forall_mem_cons.mpr ⟨lw_p1, List.forall_mem_cons.mpr ⟨lw_p2, List.forall_mem_cons.mpr ⟨lw_p3, List.forall_mem_cons.mpr ⟨lw_p4, List.forall_mem_cons.mpr ⟨lw_p5, List.forall_mem_cons.mpr ⟨lw_p6, List.forall_mem_cons.mpr ⟨lw_p7, List.forall_mem_cons.mpr ⟨lw_p8, List.forall_mem_cons.mpr ⟨lw_p9, List.forall_mem_cons.mpr ⟨lw_p10, List.forall_mem_cons.mpr ⟨lw_p11, List.forall_mem_cons.mpr ⟨lw_p12, List.forall_mem_cons.mpr ⟨lw_p13, List.forall_mem_cons.mpr ⟨lw_p14, List.forall_mem_cons.mpr ⟨lw_p15, fun _ h => absurd h List.not_mem_nil⟩⟩⟩⟩⟩⟩⟩⟩⟩⟩⟩⟩⟩⟩⟩⟩
theorem lw_p16 : lw_okq (⟨"MadeItSoModel", "has", "(II)Z"⟩, 17) := ⟨⟨by decide +kernel, by decide +kernel⟩, List.mem_of_getElem? (i := 533) (by decide +kernel), List.mem_of_getElem? (i := 608) (by decide +kernel), List.mem_of_getElem? (i := 609) (by decide +kernel)⟩
theorem lw_p17 : lw_okq (⟨"MadeItSoModel", "belowOf", "(II)I"⟩, 17) := ⟨⟨by decide +kernel, by decide +kernel⟩, List.mem_of_getElem? (i := 533) (by decide +kernel), List.mem_of_getElem? (i := 612) (by decide +kernel), List.mem_of_getElem? (i := 613) (by decide +kernel)⟩
theorem lw_p18 : lw_okq (⟨"MadeItSoModel", "parentsWithout", "(III)I"⟩, 17) := ⟨⟨by decide +kernel, by decide +kernel⟩, List.mem_of_getElem? (i := 533) (by decide +kernel), List.mem_of_getElem? (i := 616) (by decide +kernel), List.mem_of_getElem? (i := 617) (by decide +kernel)⟩
theorem lw_p19 : lw_okq (⟨"MadeItSoModel", "isRow", "(II)Z"⟩, 17) := ⟨⟨by decide +kernel, by decide +kernel⟩, List.mem_of_getElem? (i := 533) (by decide +kernel), List.mem_of_getElem? (i := 632) (by decide +kernel), List.mem_of_getElem? (i := 633) (by decide +kernel)⟩
theorem lw_p20 : lw_okq (⟨"MadeItSoModel", "isSetting", "(I)Z"⟩, 17) := ⟨⟨by decide +kernel, by decide +kernel⟩, List.mem_of_getElem? (i := 533) (by decide +kernel), List.mem_of_getElem? (i := 651) (by decide +kernel), List.mem_of_getElem? (i := 652) (by decide +kernel)⟩
theorem lw_p21 : lw_okq (⟨"MadeItSoModel", "isHeap", "(I)Z"⟩, 17) := ⟨⟨by decide +kernel, by decide +kernel⟩, List.mem_of_getElem? (i := 533) (by decide +kernel), List.mem_of_getElem? (i := 656) (by decide +kernel), List.mem_of_getElem? (i := 657) (by decide +kernel)⟩
theorem lw_p22 : lw_okq (⟨"MadeItSoModel", "sum", "(II)J"⟩, 17) := ⟨⟨by decide +kernel, by decide +kernel⟩, List.mem_of_getElem? (i := 533) (by decide +kernel), List.mem_of_getElem? (i := 660) (by decide +kernel), List.mem_of_getElem? (i := 661) (by decide +kernel)⟩
theorem lw_p23 : lw_okq (⟨"MadeItSoModel", "weightOf", "(II)J"⟩, 17) := ⟨⟨by decide +kernel, by decide +kernel⟩, List.mem_of_getElem? (i := 533) (by decide +kernel), List.mem_of_getElem? (i := 664) (by decide +kernel), List.mem_of_getElem? (i := 665) (by decide +kernel)⟩
theorem lw_p24 : lw_okq (⟨"MadeItSoModel", "partsOf", "(II)I"⟩, 17) := ⟨⟨by decide +kernel, by decide +kernel⟩, List.mem_of_getElem? (i := 533) (by decide +kernel), List.mem_of_getElem? (i := 668) (by decide +kernel), List.mem_of_getElem? (i := 669) (by decide +kernel)⟩
theorem lw_p25 : lw_okq (⟨"MadeItSoModel", "barred", "(IIIII)Z"⟩, 17) := ⟨⟨by decide +kernel, by decide +kernel⟩, List.mem_of_getElem? (i := 533) (by decide +kernel), List.mem_of_getElem? (i := 693) (by decide +kernel), List.mem_of_getElem? (i := 694) (by decide +kernel)⟩
theorem lw_p26 : lw_okq (⟨"MadeItSoModel", "joins", "(IIIII)Z"⟩, 17) := ⟨⟨by decide +kernel, by decide +kernel⟩, List.mem_of_getElem? (i := 533) (by decide +kernel), List.mem_of_getElem? (i := 697) (by decide +kernel), List.mem_of_getElem? (i := 698) (by decide +kernel)⟩
theorem lw_p27 : lw_okq (⟨"MadeItSoModel", "isArrow", "(IIII)Z"⟩, 17) := ⟨⟨by decide +kernel, by decide +kernel⟩, List.mem_of_getElem? (i := 533) (by decide +kernel), List.mem_of_getElem? (i := 701) (by decide +kernel), List.mem_of_getElem? (i := 702) (by decide +kernel)⟩
theorem lw_p28 : lw_okq (⟨"MadeItSoModel", "isOpen", "(IIII)Z"⟩, 17) := ⟨⟨by decide +kernel, by decide +kernel⟩, List.mem_of_getElem? (i := 533) (by decide +kernel), List.mem_of_getElem? (i := 705) (by decide +kernel), List.mem_of_getElem? (i := 706) (by decide +kernel)⟩
theorem lw_p29 : lw_okq (⟨"MadeItSoModel", "belowWithout", "(III)I"⟩, 17) := ⟨⟨by decide +kernel, by decide +kernel⟩, List.mem_of_getElem? (i := 533) (by decide +kernel), List.mem_of_getElem? (i := 709) (by decide +kernel), List.mem_of_getElem? (i := 710) (by decide +kernel)⟩
theorem lw_p30 : lw_okq (⟨"MadeItSoModel", "works", "(II)Z"⟩, 17) := ⟨⟨by decide +kernel, by decide +kernel⟩, List.mem_of_getElem? (i := 533) (by decide +kernel), List.mem_of_getElem? (i := 717) (by decide +kernel), List.mem_of_getElem? (i := 718) (by decide +kernel)⟩
theorem lw_p31 : lw_okq (⟨"MadeItSoModel", "seen", "()I"⟩, 17) := ⟨⟨by decide +kernel, by decide +kernel⟩, List.mem_of_getElem? (i := 533) (by decide +kernel), List.mem_of_getElem? (i := 721) (by decide +kernel), List.mem_of_getElem? (i := 722) (by decide +kernel)⟩
def lw_privs_2 : List (MethodName × Nat) := [(⟨"MadeItSoModel", "has", "(II)Z"⟩, 17), (⟨"MadeItSoModel", "belowOf", "(II)I"⟩, 17), (⟨"MadeItSoModel", "parentsWithout", "(III)I"⟩, 17), (⟨"MadeItSoModel", "isRow", "(II)Z"⟩, 17), (⟨"MadeItSoModel", "isSetting", "(I)Z"⟩, 17), (⟨"MadeItSoModel", "isHeap", "(I)Z"⟩, 17), (⟨"MadeItSoModel", "sum", "(II)J"⟩, 17), (⟨"MadeItSoModel", "weightOf", "(II)J"⟩, 17), (⟨"MadeItSoModel", "partsOf", "(II)I"⟩, 17), (⟨"MadeItSoModel", "barred", "(IIIII)Z"⟩, 17), (⟨"MadeItSoModel", "joins", "(IIIII)Z"⟩, 17), (⟨"MadeItSoModel", "isArrow", "(IIII)Z"⟩, 17), (⟨"MadeItSoModel", "isOpen", "(IIII)Z"⟩, 17), (⟨"MadeItSoModel", "belowWithout", "(III)I"⟩, 17), (⟨"MadeItSoModel", "works", "(II)Z"⟩, 17), (⟨"MadeItSoModel", "seen", "()I"⟩, 17)]
theorem lw_r2 : ∀ q ∈ lw_privs_2, lw_okq q := List.forall_mem_cons.mpr ⟨lw_p16, List.forall_mem_cons.mpr ⟨lw_p17, List.forall_mem_cons.mpr ⟨lw_p18, List.forall_mem_cons.mpr ⟨lw_p19, List.forall_mem_cons.mpr ⟨lw_p20, List.forall_mem_cons.mpr ⟨lw_p21, List.forall_mem_cons.mpr ⟨lw_p22, List.forall_mem_cons.mpr ⟨lw_p23, List.forall_mem_cons.mpr ⟨lw_p24, List.forall_mem_cons.mpr ⟨lw_p25, List.forall_mem_cons.mpr ⟨lw_p26, List.forall_mem_cons.mpr ⟨lw_p27, List.forall_mem_cons.mpr ⟨lw_p28, List.forall_mem_cons.mpr ⟨lw_p29, List.forall_mem_cons.mpr ⟨lw_p30, List.forall_mem_cons.mpr ⟨lw_p31, fun _ h => absurd h List.not_mem_nil⟩⟩⟩⟩⟩⟩⟩⟩⟩⟩⟩⟩⟩⟩⟩⟩
theorem lw_p32 : lw_okq (⟨"MadeItSoModel", "isLeast", "(I)Z"⟩, 17) := ⟨⟨by decide +kernel, by decide +kernel⟩, List.mem_of_getElem? (i := 533) (by decide +kernel), List.mem_of_getElem? (i := 725) (by decide +kernel), List.mem_of_getElem? (i := 726) (by decide +kernel)⟩
theorem lw_p33 : lw_okq (⟨"MadeItSoModel", "adds", "(JJ)V"⟩, 17) := ⟨⟨by decide +kernel, by decide +kernel⟩, List.mem_of_getElem? (i := 533) (by decide +kernel), List.mem_of_getElem? (i := 745) (by decide +kernel), List.mem_of_getElem? (i := 746) (by decide +kernel)⟩
theorem lw_p34 : lw_okq (⟨"MadeItSoModel", "times", "([JJ)V"⟩, 17) := ⟨⟨by decide +kernel, by decide +kernel⟩, List.mem_of_getElem? (i := 533) (by decide +kernel), List.mem_of_getElem? (i := 749) (by decide +kernel), List.mem_of_getElem? (i := 750) (by decide +kernel)⟩
theorem lw_p35 : lw_okq (⟨"MadeItSoModel", "drawings", "()I"⟩, 17) := ⟨⟨by decide +kernel, by decide +kernel⟩, List.mem_of_getElem? (i := 533) (by decide +kernel), List.mem_of_getElem? (i := 759) (by decide +kernel), List.mem_of_getElem? (i := 760) (by decide +kernel)⟩
theorem lw_p36 : lw_okq (⟨"MadeItSoModel", "meetsLike", "(II)Z"⟩, 17) := ⟨⟨by decide +kernel, by decide +kernel⟩, List.mem_of_getElem? (i := 533) (by decide +kernel), List.mem_of_getElem? (i := 763) (by decide +kernel), List.mem_of_getElem? (i := 764) (by decide +kernel)⟩
theorem lw_p37 : lw_okq (⟨"MadeItSoModel", "isLeastOrder", "(II)Z"⟩, 17) := ⟨⟨by decide +kernel, by decide +kernel⟩, List.mem_of_getElem? (i := 533) (by decide +kernel), List.mem_of_getElem? (i := 767) (by decide +kernel), List.mem_of_getElem? (i := 768) (by decide +kernel)⟩
def lw_privs_3 : List (MethodName × Nat) := [(⟨"MadeItSoModel", "isLeast", "(I)Z"⟩, 17), (⟨"MadeItSoModel", "adds", "(JJ)V"⟩, 17), (⟨"MadeItSoModel", "times", "([JJ)V"⟩, 17), (⟨"MadeItSoModel", "drawings", "()I"⟩, 17), (⟨"MadeItSoModel", "meetsLike", "(II)Z"⟩, 17), (⟨"MadeItSoModel", "isLeastOrder", "(II)Z"⟩, 17)]
theorem lw_r3 : ∀ q ∈ lw_privs_3, lw_okq q := List.forall_mem_cons.mpr ⟨lw_p32, List.forall_mem_cons.mpr ⟨lw_p33, List.forall_mem_cons.mpr ⟨lw_p34, List.forall_mem_cons.mpr ⟨lw_p35, List.forall_mem_cons.mpr ⟨lw_p36, List.forall_mem_cons.mpr ⟨lw_p37, fun _ h => absurd h List.not_mem_nil⟩⟩⟩⟩⟩⟩
def lw_privs : List (MethodName × Nat) := lw_privs_1 ++ (lw_privs_2 ++ (lw_privs_3))
def lw_tbl : List Cond := k2_sels lw_privs ++ tables_1
theorem lw_privs_ok : ∀ q ∈ lw_privs, lw_okq q := by
  show ∀ q ∈ lw_privs_1 ++ (lw_privs_2 ++ (lw_privs_3)), lw_okq q
  exact List.forall_mem_append.mpr ⟨lw_r1, List.forall_mem_append.mpr ⟨lw_r2, lw_r3⟩⟩
end
section
/-! ===== BEGIN words of one list among another's, by their places ===== -/
theorem goodIn_r {big : List Cond} (ws : List Cond) (ps : List Nat) (hp : ws = ps.filterMap (fun i => big[i]?)) (h : ws.all goodWord = true) : GoodIn big ws := by
  intro w hw
  have h1 := List.all_eq_true.mp h w hw
  rw [hp] at hw
  obtain ⟨i, -, hi⟩ := List.mem_filterMap.mp hw
  have hm : w ∈ big := by first | exact List.mem_of_getElem? hi | exact List.getElem?_mem hi
  exact ⟨hm, good_of_word h1⟩
theorem goodIn_app {big a b : List Cond} (ha : GoodIn big a) (hb : GoodIn big b) : GoodIn big (a ++ b) := fun w h => (List.mem_append.mp h).elim (ha w) (hb w)
theorem goodIn_ca {big a b : List Cond} {c : Cond} (ha : GoodIn big (c :: a)) (hb : GoodIn big b) : GoodIn big (c :: (a ++ b)) := fun w h => (List.mem_cons.mp h).elim (fun e => ha w (List.mem_cons.mpr (Or.inl e))) (fun h => (List.mem_append.mp h).elim (fun h => ha w (List.mem_cons.mpr (Or.inr h))) (hb w))
theorem goodIn_sub {big ws : List Cond} (hm : ∀ w ∈ ws, w ∈ big) (h : ws.all goodWord = true) : GoodIn big ws := fun w hw => ⟨hm w hw, good_of_word (List.all_eq_true.mp h w hw)⟩
/-! ===== END ===== -/

/-! ===== BEGIN printed: names, fields, word lists, decode rows ===== -/
def RX0 : String := "MadeItSo$Big"
def TX0 : u_T := fun k => match k with
  | 0 => ("MadeItSo$Big", "limbs", "[J", true)
  | _ => ("MadeItSo$Big", "used", "I", false)
def tyX0 : Nat → FieldType := fun k => match k with
  | 0 => .array .long
  | _ => .int
abbrev wsX00 : List Cond := u_ws RX0 TX0 2
theorem nmX0 : ∀ a, a < 2 → ∀ b, b < 2 → a ≠ b → (TX0 a).2.1 ≠ (TX0 b).2.1 := by decide +kernel
theorem tyX0_ok : ∀ k, k < 2 → parseFieldDescriptor (TX0 k).2.2.1 = some (tyX0 k) := by decide +kernel
abbrev cX0_init : ByteArray := prog_2_method_1_code
def yX0_init : MethodName := ⟨RX0, "<init>", "()V"⟩
abbrev cX0_becomeDigit : ByteArray := prog_2_method_2_code
def yX0_becomeDigit : MethodName := ⟨RX0, "becomeDigit", "(I)V"⟩
abbrev cX0_become : ByteArray := prog_2_method_3_code
def yX0_become : MethodName := ⟨RX0, "become", "(LMadeItSo$Big;)V"⟩
abbrev cX0_times : ByteArray := prog_2_method_4_code
def yX0_times : MethodName := ⟨RX0, "times", "(J)V"⟩
abbrev cX0_plus : ByteArray := prog_2_method_5_code
def yX0_plus : MethodName := ⟨RX0, "plus", "(LMadeItSo$Big;)V"⟩
abbrev cX0_same : ByteArray := prog_2_method_6_code
def yX0_same : MethodName := ⟨RX0, "same", "(LMadeItSo$Big;)Z"⟩
abbrev cX0_trim : ByteArray := prog_2_method_7_code
def yX0_trim : MethodName := ⟨RX0, "trim", "()V"⟩
def RX1 : String := "MadeItSo$Books"
def TX1 : u_T := fun k => match k with
  | _ => ("MadeItSo$Books", "parts", "[I", true)
def tyX1 : Nat → FieldType := fun k => match k with
  | _ => .array .int
abbrev wsX10 : List Cond := u_ws RX1 TX1 1
theorem nmX1 : ∀ a, a < 1 → ∀ b, b < 1 → a ≠ b → (TX1 a).2.1 ≠ (TX1 b).2.1 := by decide +kernel
theorem tyX1_ok : ∀ k, k < 1 → parseFieldDescriptor (TX1 k).2.2.1 = some (tyX1 k) := by decide +kernel
abbrev cX1_init : ByteArray := prog_3_method_1_code
def yX1_init : MethodName := ⟨RX1, "<init>", "()V"⟩
abbrev cX1_blank : ByteArray := prog_3_method_2_code
def yX1_blank : MethodName := ⟨RX1, "blank", "(I)V"⟩
abbrev cX1_write : ByteArray := prog_3_method_3_code
def yX1_write : MethodName := ⟨RX1, "write", "(III)V"⟩
abbrev cX1_read : ByteArray := prog_3_method_4_code
def yX1_read : MethodName := ⟨RX1, "read", "(II)I"⟩
abbrev cX1_partsUnder : ByteArray := prog_3_method_5_code
def yX1_partsUnder : MethodName := ⟨RX1, "partsUnder", "(LMadeItSo$Drawing;III)I"⟩
abbrev cX1_isPlace : ByteArray := prog_3_method_6_code
def yX1_isPlace : MethodName := ⟨RX1, "isPlace", "(II)Z"⟩
abbrev cX1_rowOf : ByteArray := prog_3_method_7_code
def yX1_rowOf : MethodName := ⟨RX1, "rowOf", "(II)I"⟩
def RX2 : String := "MadeItSo$Drawing"
def TX2 : u_T := fun k => match k with
  | 0 => ("MadeItSo$Drawing", "parents", "[I", true)
  | 1 => ("MadeItSo$Drawing", "children", "[I", true)
  | _ => ("MadeItSo$Drawing", "things", "I", false)
def tyX2 : Nat → FieldType := fun k => match k with
  | 0 => .array .int
  | 1 => .array .int
  | _ => .int
abbrev wsX20 : List Cond := u_ws RX2 TX2 3
theorem nmX2 : ∀ a, a < 3 → ∀ b, b < 3 → a ≠ b → (TX2 a).2.1 ≠ (TX2 b).2.1 := by decide +kernel
theorem tyX2_ok : ∀ k, k < 3 → parseFieldDescriptor (TX2 k).2.2.1 = some (tyX2 k) := by decide +kernel
abbrev cX2_init : ByteArray := prog_4_method_1_code
def yX2_init : MethodName := ⟨RX2, "<init>", "()V"⟩
abbrev cX2_size : ByteArray := prog_4_method_2_code
def yX2_size : MethodName := ⟨RX2, "size", "()I"⟩
abbrev cX2_has : ByteArray := prog_4_method_3_code
def yX2_has : MethodName := ⟨RX2, "has", "(I)Z"⟩
abbrev cX2_everything : ByteArray := prog_4_method_4_code
def yX2_everything : MethodName := ⟨RX2, "everything", "()I"⟩
abbrev cX2_grow : ByteArray := prog_4_method_5_code
def yX2_grow : MethodName := ⟨RX2, "grow", "()I"⟩
abbrev cX2_parentsOf : ByteArray := prog_4_method_6_code
def yX2_parentsOf : MethodName := ⟨RX2, "parentsOf", "(I)I"⟩
abbrev cX2_childrenOf : ByteArray := prog_4_method_7_code
def yX2_childrenOf : MethodName := ⟨RX2, "childrenOf", "(I)I"⟩
abbrev cX2_joinedTo : ByteArray := prog_4_method_8_code
def yX2_joinedTo : MethodName := ⟨RX2, "joinedTo", "(I)I"⟩
abbrev cX2_leads : ByteArray := prog_4_method_9_code
def yX2_leads : MethodName := ⟨RX2, "leads", "(II)Z"⟩
abbrev cX2_canJoin : ByteArray := prog_4_method_10_code
def yX2_canJoin : MethodName := ⟨RX2, "canJoin", "(II)Z"⟩
abbrev cX2_join : ByteArray := prog_4_method_11_code
def yX2_join : MethodName := ⟨RX2, "join", "(II)V"⟩
abbrev cX2_part : ByteArray := prog_4_method_12_code
def yX2_part : MethodName := ⟨RX2, "part", "(II)V"⟩
abbrev cX2_arrows : ByteArray := prog_4_method_13_code
def yX2_arrows : MethodName := ⟨RX2, "arrows", "()I"⟩
abbrev cX2_allBelow : ByteArray := prog_4_method_14_code
def yX2_allBelow : MethodName := ⟨RX2, "allBelow", "(I)I"⟩
abbrev cX2_withAllBelow : ByteArray := prog_4_method_15_code
def yX2_withAllBelow : MethodName := ⟨RX2, "withAllBelow", "(I)I"⟩
abbrev cX2_road : ByteArray := prog_4_method_16_code
def yX2_road : MethodName := ⟨RX2, "road", "(II)I"⟩
abbrev cX2_nextAfter : ByteArray := prog_4_method_17_code
def yX2_nextAfter : MethodName := ⟨RX2, "nextAfter", "(I)I"⟩
abbrev cX2_copyWithout : ByteArray := prog_4_method_18_code
def yX2_copyWithout : MethodName := ⟨RX2, "copyWithout", "(LMadeItSo$Drawing;II)V"⟩
abbrev cX2_barred : ByteArray := prog_4_method_19_code
def yX2_barred : MethodName := ⟨RX2, "barred", "(III)Z"⟩
abbrev cX2_apart : ByteArray := prog_4_method_20_code
def yX2_apart : MethodName := ⟨RX2, "apart", "(I)Z"⟩
abbrev cX2_sameThirds : ByteArray := prog_4_method_21_code
def yX2_sameThirds : MethodName := ⟨RX2, "sameThirds", "(II)Z"⟩
abbrev cX2_unjoinedWith : ByteArray := prog_4_method_22_code
def yX2_unjoinedWith : MethodName := ⟨RX2, "unjoinedWith", "(II)I"⟩
abbrev cX2_spread : ByteArray := prog_4_method_23_code
def yX2_spread : MethodName := ⟨RX2, "spread", "(I[I)I"⟩
abbrev cX2_gather : ByteArray := prog_4_method_24_code
def yX2_gather : MethodName := ⟨RX2, "gather", "(I[I)I"⟩
def RX3 : String := "MadeItSo$LeastHeaps"
def TX3 : u_T := fun k => match k with
  | 0 => ("MadeItSo$LeastHeaps", "found", "[I", true)
  | _ => ("MadeItSo$LeastHeaps", "many", "I", false)
def tyX3 : Nat → FieldType := fun k => match k with
  | 0 => .array .int
  | _ => .int
abbrev wsX30 : List Cond := u_ws RX3 TX3 2
theorem nmX3 : ∀ a, a < 2 → ∀ b, b < 2 → a ≠ b → (TX3 a).2.1 ≠ (TX3 b).2.1 := by decide +kernel
theorem tyX3_ok : ∀ k, k < 2 → parseFieldDescriptor (TX3 k).2.2.1 = some (tyX3 k) := by decide +kernel
abbrev cX3_init : ByteArray := prog_5_method_1_code
def yX3_init : MethodName := ⟨RX3, "<init>", "()V"⟩
abbrev cX3_seek : ByteArray := prog_5_method_2_code
def yX3_seek : MethodName := ⟨RX3, "seek", "(LMadeItSo$Drawing;III)V"⟩
abbrev cX3_size : ByteArray := prog_5_method_3_code
def yX3_size : MethodName := ⟨RX3, "size", "()I"⟩
abbrev cX3_at : ByteArray := prog_5_method_4_code
def yX3_at : MethodName := ⟨RX3, "at", "(I)I"⟩
abbrev cX3_holdsOne : ByteArray := prog_5_method_5_code
def yX3_holdsOne : MethodName := ⟨RX3, "holdsOne", "(I)Z"⟩
def RX4 : String := "MadeItSo$Lookalikes"
def TX4 : u_T := fun k => match k with
  | _ => ("MadeItSo$Lookalikes", "waysOf", "[I", true)
def tyX4 : Nat → FieldType := fun k => match k with
  | _ => .array .int
abbrev wsX40 : List Cond := u_ws RX4 TX4 1
theorem nmX4 : ∀ a, a < 1 → ∀ b, b < 1 → a ≠ b → (TX4 a).2.1 ≠ (TX4 b).2.1 := by decide +kernel
theorem tyX4_ok : ∀ k, k < 1 → parseFieldDescriptor (TX4 k).2.2.1 = some (tyX4 k) := by decide +kernel
abbrev cX4_init : ByteArray := prog_6_method_1_code
def yX4_init : MethodName := ⟨RX4, "<init>", "()V"⟩
abbrev cX4_reckon : ByteArray := prog_6_method_2_code
def yX4_reckon : MethodName := ⟨RX4, "reckon", "(LMadeItSo$Drawing;II)I"⟩
abbrev cX4_waysEndingIn : ByteArray := prog_6_method_3_code
def yX4_waysEndingIn : MethodName := ⟨RX4, "waysEndingIn", "(LMadeItSo$Drawing;II)I"⟩
abbrev cX4_canBeLast : ByteArray := prog_6_method_4_code
def yX4_canBeLast : MethodName := ⟨RX4, "canBeLast", "(LMadeItSo$Drawing;I)I"⟩
def RX5 : String := "MadeItSo$Total"
def TX5 : u_T := fun k => match k with
  | 0 => ("MadeItSo$Total", "top", "LMadeItSo$Big;", true)
  | 1 => ("MadeItSo$Total", "bottom", "LMadeItSo$Big;", true)
  | _ => ("MadeItSo$Total", "spare", "LMadeItSo$Big;", true)
def tyX5 : Nat → FieldType := fun k => match k with
  | 0 => .object "MadeItSo$Big"
  | 1 => .object "MadeItSo$Big"
  | _ => .object "MadeItSo$Big"
abbrev wsX50 : List Cond := u_ws RX5 TX5 3
theorem nmX5 : ∀ a, a < 3 → ∀ b, b < 3 → a ≠ b → (TX5 a).2.1 ≠ (TX5 b).2.1 := by decide +kernel
theorem tyX5_ok : ∀ k, k < 3 → parseFieldDescriptor (TX5 k).2.2.1 = some (tyX5 k) := by decide +kernel
abbrev cX5_init : ByteArray := prog_7_method_1_code
def yX5_init : MethodName := ⟨RX5, "<init>", "()V"⟩
abbrev cX5_clear : ByteArray := prog_7_method_2_code
def yX5_clear : MethodName := ⟨RX5, "clear", "()V"⟩
abbrev cX5_add : ByteArray := prog_7_method_3_code
def yX5_add : MethodName := ⟨RX5, "add", "(JJJ)V"⟩
abbrev cX5_is : ByteArray := prog_7_method_4_code
def yX5_is : MethodName := ⟨RX5, "is", "(J)Z"⟩
def RX6 : String := "MadeItSo$Weights"
def TX6 : u_T := fun k => match k with
  | 0 => ("MadeItSo$Weights", "ofCase", "[J", true)
  | _ => ("MadeItSo$Weights", "everything", "I", false)
def tyX6 : Nat → FieldType := fun k => match k with
  | 0 => .array .long
  | _ => .int
abbrev wsX60 : List Cond := u_ws RX6 TX6 2
theorem nmX6 : ∀ a, a < 2 → ∀ b, b < 2 → a ≠ b → (TX6 a).2.1 ≠ (TX6 b).2.1 := by decide +kernel
theorem tyX6_ok : ∀ k, k < 2 → parseFieldDescriptor (TX6 k).2.2.1 = some (tyX6 k) := by decide +kernel
abbrev cX6_init : ByteArray := prog_8_method_1_code
def yX6_init : MethodName := ⟨RX6, "<init>", "()V"⟩
abbrev cX6_weigh : ByteArray := prog_8_method_2_code
def yX6_weigh : MethodName := ⟨RX6, "weigh", "(LMadeItSo$Drawing;LMadeItSo$Books;I)V"⟩
abbrev cX6_having : ByteArray := prog_8_method_3_code
def yX6_having : MethodName := ⟨RX6, "having", "(II)J"⟩
abbrev cX6_split : ByteArray := prog_8_method_4_code
def yX6_split : MethodName := ⟨RX6, "split", "(III)V"⟩
def RX7 : String := "MadeItSo"
def TX7 : u_T := fun k => match k with
  | 0 => ("MadeItSo", "drawing", "LMadeItSo$Drawing;", true)
  | 1 => ("MadeItSo", "thinned", "LMadeItSo$Drawing;", true)
  | 2 => ("MadeItSo", "books", "LMadeItSo$Books;", true)
  | 3 => ("MadeItSo", "weights", "LMadeItSo$Weights;", true)
  | 4 => ("MadeItSo", "total", "LMadeItSo$Total;", true)
  | 5 => ("MadeItSo", "leastHeaps", "LMadeItSo$LeastHeaps;", true)
  | 6 => ("MadeItSo", "lookalikes", "LMadeItSo$Lookalikes;", true)
  | 7 => ("MadeItSo", "seenHeap", "I", false)
  | 8 => ("MadeItSo", "aboveLine", "J", false)
  | _ => ("MadeItSo", "belowLine", "J", false)
def tyX7 : Nat → FieldType := fun k => match k with
  | 0 => .object "MadeItSo$Drawing"
  | 1 => .object "MadeItSo$Drawing"
  | 2 => .object "MadeItSo$Books"
  | 3 => .object "MadeItSo$Weights"
  | 4 => .object "MadeItSo$Total"
  | 5 => .object "MadeItSo$LeastHeaps"
  | 6 => .object "MadeItSo$Lookalikes"
  | 7 => .int
  | 8 => .long
  | _ => .long
abbrev wsX70 : List Cond := u_ws RX7 TX7 10
theorem nmX7 : ∀ a, a < 10 → ∀ b, b < 10 → a ≠ b → (TX7 a).2.1 ≠ (TX7 b).2.1 := by decide +kernel
theorem tyX7_ok : ∀ k, k < 10 → parseFieldDescriptor (TX7 k).2.2.1 = some (tyX7 k) := by decide +kernel
abbrev cX7_init : ByteArray := prog_1_method_1_code
def yX7_init : MethodName := ⟨RX7, "<init>", "()V"⟩
abbrev cX7_thing : ByteArray := prog_1_method_2_code
def yX7_thing : MethodName := ⟨RX7, "thing", "(Z)I"⟩
abbrev cX7_arrow : ByteArray := prog_1_method_3_code
def yX7_arrow : MethodName := ⟨RX7, "arrow", "(II)Z"⟩
abbrev cX7_cut : ByteArray := prog_1_method_4_code
def yX7_cut : MethodName := ⟨RX7, "cut", "(II)Z"⟩
abbrev cX7_turn : ByteArray := prog_1_method_5_code
def yX7_turn : MethodName := ⟨RX7, "turn", "(II)Z"⟩
abbrev cX7_book : ByteArray := prog_1_method_6_code
def yX7_book : MethodName := ⟨RX7, "book", "(III)Z"⟩
abbrev cX7_booked : ByteArray := prog_1_method_7_code
def yX7_booked : MethodName := ⟨RX7, "booked", "(II)I"⟩
abbrev cX7_told : ByteArray := prog_1_method_8_code
def yX7_told : MethodName := ⟨RX7, "told", "(II)I"⟩
abbrev cX7_weight : ByteArray := prog_1_method_9_code
def yX7_weight : MethodName := ⟨RX7, "weight", "(II)J"⟩
abbrev cX7_chance : ByteArray := prog_1_method_10_code
def yX7_chance : MethodName := ⟨RX7, "chance", "(III)I"⟩
abbrev cX7_above : ByteArray := prog_1_method_11_code
def yX7_above : MethodName := ⟨RX7, "above", "()J"⟩
abbrev cX7_below : ByteArray := prog_1_method_12_code
def yX7_below : MethodName := ⟨RX7, "below", "()J"⟩
abbrev cX7_bars : ByteArray := prog_1_method_13_code
def yX7_bars : MethodName := ⟨RX7, "bars", "(III)Z"⟩
abbrev cX7_least : ByteArray := prog_1_method_14_code
def yX7_least : MethodName := ⟨RX7, "least", "(II)I"⟩
abbrev cX7_leastAt : ByteArray := prog_1_method_15_code
def yX7_leastAt : MethodName := ⟨RX7, "leastAt", "(III)I"⟩
abbrev cX7_fit : ByteArray := prog_1_method_16_code
def yX7_fit : MethodName := ⟨RX7, "fit", "(III)Z"⟩
abbrev cX7_agrees : ByteArray := prog_1_method_17_code
def yX7_agrees : MethodName := ⟨RX7, "agrees", "(IIIII)I"⟩
abbrev cX7_alike : ByteArray := prog_1_method_18_code
def yX7_alike : MethodName := ⟨RX7, "alike", "()I"⟩
abbrev cX7_fixed : ByteArray := prog_1_method_19_code
def yX7_fixed : MethodName := ⟨RX7, "fixed", "(II)Z"⟩
abbrev cX7_otherwise : ByteArray := prog_1_method_20_code
def yX7_otherwise : MethodName := ⟨RX7, "otherwise", "(III)J"⟩
abbrev cX7_draw : ByteArray := prog_1_method_21_code
def yX7_draw : MethodName := ⟨RX7, "draw", "(II)I"⟩
abbrev cX7_count : ByteArray := prog_1_method_22_code
def yX7_count : MethodName := ⟨RX7, "count", "(I)I"⟩
abbrev cX7_hasRow : ByteArray := prog_1_method_23_code
def yX7_hasRow : MethodName := ⟨RX7, "hasRow", "(II)Z"⟩
abbrev cX7_areTwo : ByteArray := prog_1_method_24_code
def yX7_areTwo : MethodName := ⟨RX7, "areTwo", "(II)Z"⟩
abbrev cX7_isHeap : ByteArray := prog_1_method_25_code
def yX7_isHeap : MethodName := ⟨RX7, "isHeap", "(I)Z"⟩
abbrev cX7_isSetting : ByteArray := prog_1_method_26_code
def yX7_isSetting : MethodName := ⟨RX7, "isSetting", "(I)Z"⟩
abbrev cX7_sumOver : ByteArray := prog_1_method_27_code
def yX7_sumOver : MethodName := ⟨RX7, "sumOver", "(III)Z"⟩
abbrev cX7_leastOfBoth : ByteArray := prog_1_method_28_code
def yX7_leastOfBoth : MethodName := ⟨RX7, "leastOfBoth", "(IJJ)J"⟩
abbrev cX7_mostOfBoth : ByteArray := prog_1_method_29_code
def yX7_mostOfBoth : MethodName := ⟨RX7, "mostOfBoth", "(IIJJ)J"⟩
abbrev cX7_mostOfNeed : ByteArray := prog_1_method_30_code
def yX7_mostOfNeed : MethodName := ⟨RX7, "mostOfNeed", "(IIJ)J"⟩
abbrev cX7_bit : ByteArray := prog_1_method_31_code
def yX7_bit : MethodName := ⟨RX7, "bit", "(I)I"⟩
abbrev cX7_inHeap : ByteArray := prog_1_method_32_code
def yX7_inHeap : MethodName := ⟨RX7, "inHeap", "(II)Z"⟩
abbrev cX7_isBit : ByteArray := prog_1_method_33_code
def yX7_isBit : MethodName := ⟨RX7, "isBit", "(I)Z"⟩
abbrev cX7_heapOf : ByteArray := prog_1_method_34_code
def yX7_heapOf : MethodName := ⟨RX7, "heapOf", "(I)I"⟩
abbrev cX7_onesOf : ByteArray := prog_1_method_35_code
def yX7_onesOf : MethodName := ⟨RX7, "onesOf", "(I)I"⟩
abbrev cX7_settingOf : ByteArray := prog_1_method_36_code
def yX7_settingOf : MethodName := ⟨RX7, "settingOf", "(II)I"⟩
abbrev cX7_clash : ByteArray := prog_1_method_37_code
def yX7_clash : MethodName := ⟨RX7, "clash", "(II)Z"⟩
abbrev cX7_partsOf : ByteArray := prog_1_method_38_code
def yX7_partsOf : MethodName := ⟨RX7, "partsOf", "(I)I"⟩
abbrev cX7_nextPart : ByteArray := prog_1_method_39_code
def yX7_nextPart : MethodName := ⟨RX7, "nextPart", "(II)I"⟩
abbrev cX7_commonDivisor : ByteArray := prog_1_method_40_code
def yX7_commonDivisor : MethodName := ⟨RX7, "commonDivisor", "(JJ)J"⟩
def RX8 : String := "MadeItSoModel"
def TX8 : u_T := fun k => match k with
  | 0 => ("MadeItSoModel", "many", "I", false)
  | 1 => ("MadeItSoModel", "isSeen", "[Z", true)
  | 2 => ("MadeItSoModel", "parents", "[I", true)
  | 3 => ("MadeItSoModel", "books", "[I", true)
  | 4 => ("MadeItSoModel", "above", "J", false)
  | 5 => ("MadeItSoModel", "below", "J", false)
  | 6 => ("MadeItSoModel", "way", "[I", true)
  | 7 => ("MadeItSoModel", "tried", "[I", true)
  | 8 => ("MadeItSoModel", "isBarring", "[Z", true)
  | 9 => ("MadeItSoModel", "up", "[J", true)
  | 10 => ("MadeItSoModel", "down", "[J", true)
  | 11 => ("MadeItSoModel", "helper", "[J", true)
  | 12 => ("MadeItSoModel", "order", "[I", true)
  | 13 => ("MadeItSoModel", "choice", "[I", true)
  | 14 => ("MadeItSoModel", "parentsThere", "[I", true)
  | 15 => ("MadeItSoModel", "isAlways", "[Z", true)
  | _ => ("MadeItSoModel", "joined", "[I", true)
def tyX8 : Nat → FieldType := fun k => match k with
  | 0 => .int
  | 1 => .array .boolean
  | 2 => .array .int
  | 3 => .array .int
  | 4 => .long
  | 5 => .long
  | 6 => .array .int
  | 7 => .array .int
  | 8 => .array .boolean
  | 9 => .array .long
  | 10 => .array .long
  | 11 => .array .long
  | 12 => .array .int
  | 13 => .array .int
  | 14 => .array .int
  | 15 => .array .boolean
  | _ => .array .int
abbrev wsX80 : List Cond := u_ws RX8 TX8 17
theorem nmX8 : ∀ a, a < 17 → ∀ b, b < 17 → a ≠ b → (TX8 a).2.1 ≠ (TX8 b).2.1 := by decide +kernel
theorem tyX8_ok : ∀ k, k < 17 → parseFieldDescriptor (TX8 k).2.2.1 = some (tyX8 k) := by decide +kernel
abbrev cX8_init : ByteArray := prog_10_method_1_code
def yX8_init : MethodName := ⟨RX8, "<init>", "()V"⟩
abbrev cX8_isThing : ByteArray := prog_10_method_2_code
def yX8_isThing : MethodName := ⟨RX8, "isThing", "(I)Z"⟩
abbrev cX8_isHeap : ByteArray := prog_10_method_3_code
def yX8_isHeap : MethodName := ⟨RX8, "isHeap", "(I)Z"⟩
abbrev cX8_isSetting : ByteArray := prog_10_method_4_code
def yX8_isSetting : MethodName := ⟨RX8, "isSetting", "(I)Z"⟩
abbrev cX8_fresh : ByteArray := prog_10_method_5_code
def yX8_fresh : MethodName := ⟨RX8, "fresh", "(I)V"⟩
abbrev cX8_thing : ByteArray := prog_10_method_6_code
def yX8_thing : MethodName := ⟨RX8, "thing", "(Z)I"⟩
abbrev cX8_has : ByteArray := prog_10_method_7_code
def yX8_has : MethodName := ⟨RX8, "has", "(II)Z"⟩
abbrev cX8_belowOf : ByteArray := prog_10_method_8_code
def yX8_belowOf : MethodName := ⟨RX8, "belowOf", "(II)I"⟩
abbrev cX8_parentsWithout : ByteArray := prog_10_method_9_code
def yX8_parentsWithout : MethodName := ⟨RX8, "parentsWithout", "(III)I"⟩
abbrev cX8_arrow : ByteArray := prog_10_method_10_code
def yX8_arrow : MethodName := ⟨RX8, "arrow", "(II)Z"⟩
abbrev cX8_cut : ByteArray := prog_10_method_11_code
def yX8_cut : MethodName := ⟨RX8, "cut", "(II)Z"⟩
abbrev cX8_turn : ByteArray := prog_10_method_12_code
def yX8_turn : MethodName := ⟨RX8, "turn", "(II)Z"⟩
abbrev cX8_bits : ByteArray := prog_10_method_13_code
def yX8_bits : MethodName := ⟨RX8, "bits", "(I)I"⟩
abbrev cX8_isRow : ByteArray := prog_10_method_14_code
def yX8_isRow : MethodName := ⟨RX8, "isRow", "(II)Z"⟩
abbrev cX8_book : ByteArray := prog_10_method_15_code
def yX8_book : MethodName := ⟨RX8, "book", "(III)Z"⟩
abbrev cX8_booked : ByteArray := prog_10_method_16_code
def yX8_booked : MethodName := ⟨RX8, "booked", "(II)I"⟩
abbrev cX8_told : ByteArray := prog_10_method_17_code
def yX8_told : MethodName := ⟨RX8, "told", "(II)I"⟩
abbrev cX8_partsOf : ByteArray := prog_10_method_18_code
def yX8_partsOf : MethodName := ⟨RX8, "partsOf", "(II)I"⟩
abbrev cX8_weightOf : ByteArray := prog_10_method_19_code
def yX8_weightOf : MethodName := ⟨RX8, "weightOf", "(II)J"⟩
abbrev cX8_sum : ByteArray := prog_10_method_20_code
def yX8_sum : MethodName := ⟨RX8, "sum", "(II)J"⟩
abbrev cX8_weight : ByteArray := prog_10_method_21_code
def yX8_weight : MethodName := ⟨RX8, "weight", "(II)J"⟩
abbrev cX8_shared : ByteArray := prog_10_method_22_code
def yX8_shared : MethodName := ⟨RX8, "shared", "(JJ)J"⟩
abbrev cX8_chance : ByteArray := prog_10_method_23_code
def yX8_chance : MethodName := ⟨RX8, "chance", "(III)I"⟩
abbrev cX8_above : ByteArray := prog_10_method_24_code
def yX8_above : MethodName := ⟨RX8, "above", "()J"⟩
abbrev cX8_below : ByteArray := prog_10_method_25_code
def yX8_below : MethodName := ⟨RX8, "below", "()J"⟩
abbrev cX8_isArrow : ByteArray := prog_10_method_26_code
def yX8_isArrow : MethodName := ⟨RX8, "isArrow", "(IIII)Z"⟩
abbrev cX8_isOpen : ByteArray := prog_10_method_27_code
def yX8_isOpen : MethodName := ⟨RX8, "isOpen", "(IIII)Z"⟩
abbrev cX8_belowWithout : ByteArray := prog_10_method_28_code
def yX8_belowWithout : MethodName := ⟨RX8, "belowWithout", "(III)I"⟩
abbrev cX8_joins : ByteArray := prog_10_method_29_code
def yX8_joins : MethodName := ⟨RX8, "joins", "(IIIII)Z"⟩
abbrev cX8_barred : ByteArray := prog_10_method_30_code
def yX8_barred : MethodName := ⟨RX8, "barred", "(IIIII)Z"⟩
abbrev cX8_bars : ByteArray := prog_10_method_31_code
def yX8_bars : MethodName := ⟨RX8, "bars", "(III)Z"⟩
abbrev cX8_seen : ByteArray := prog_10_method_32_code
def yX8_seen : MethodName := ⟨RX8, "seen", "()I"⟩
abbrev cX8_isLeast : ByteArray := prog_10_method_33_code
def yX8_isLeast : MethodName := ⟨RX8, "isLeast", "(I)Z"⟩
abbrev cX8_works : ByteArray := prog_10_method_34_code
def yX8_works : MethodName := ⟨RX8, "works", "(II)Z"⟩
abbrev cX8_least : ByteArray := prog_10_method_35_code
def yX8_least : MethodName := ⟨RX8, "least", "(II)I"⟩
abbrev cX8_leastAt : ByteArray := prog_10_method_36_code
def yX8_leastAt : MethodName := ⟨RX8, "leastAt", "(III)I"⟩
abbrev cX8_fit : ByteArray := prog_10_method_37_code
def yX8_fit : MethodName := ⟨RX8, "fit", "(III)Z"⟩
abbrev cX8_times : ByteArray := prog_10_method_38_code
def yX8_times : MethodName := ⟨RX8, "times", "([JJ)V"⟩
abbrev cX8_adds : ByteArray := prog_10_method_39_code
def yX8_adds : MethodName := ⟨RX8, "adds", "(JJ)V"⟩
abbrev cX8_withOne : ByteArray := prog_10_method_40_code
def yX8_withOne : MethodName := ⟨RX8, "withOne", "(III)I"⟩
abbrev cX8_agrees : ByteArray := prog_10_method_41_code
def yX8_agrees : MethodName := ⟨RX8, "agrees", "(IIIII)I"⟩
abbrev cX8_meetsLike : ByteArray := prog_10_method_42_code
def yX8_meetsLike : MethodName := ⟨RX8, "meetsLike", "(II)Z"⟩
abbrev cX8_isLeastOrder : ByteArray := prog_10_method_43_code
def yX8_isLeastOrder : MethodName := ⟨RX8, "isLeastOrder", "(II)Z"⟩
abbrev cX8_drawings : ByteArray := prog_10_method_44_code
def yX8_drawings : MethodName := ⟨RX8, "drawings", "()I"⟩
abbrev cX8_alike : ByteArray := prog_10_method_45_code
def yX8_alike : MethodName := ⟨RX8, "alike", "()I"⟩
abbrev cX8_fixed : ByteArray := prog_10_method_46_code
def yX8_fixed : MethodName := ⟨RX8, "fixed", "(II)Z"⟩
abbrev cX8_most : ByteArray := prog_10_method_47_code
def yX8_most : MethodName := ⟨RX8, "most", "(JJ)J"⟩
abbrev cX8_lesser : ByteArray := prog_10_method_48_code
def yX8_lesser : MethodName := ⟨RX8, "lesser", "(JJ)J"⟩
abbrev cX8_otherwise : ByteArray := prog_10_method_49_code
def yX8_otherwise : MethodName := ⟨RX8, "otherwise", "(III)J"⟩
abbrev cX8_draw : ByteArray := prog_10_method_50_code
def yX8_draw : MethodName := ⟨RX8, "draw", "(II)I"⟩
abbrev cX8_count : ByteArray := prog_10_method_51_code
def yX8_count : MethodName := ⟨RX8, "count", "(I)I"⟩
def RJ6 : String := "java/lang/Integer"
def TJ6 : u_T := fun k => match k with
  | _ => ("", "", "", false)
def tyJ6 : Nat → FieldType := fun k => match k with
  | _ => .int
abbrev wsJ60 : List Cond := u_ws RJ6 TJ6 0
theorem nmJ6 : ∀ a, a < 0 → ∀ b, b < 0 → a ≠ b → (TJ6 a).2.1 ≠ (TJ6 b).2.1 := by decide +kernel
theorem tyJ6_ok : ∀ k, k < 0 → parseFieldDescriptor (TJ6 k).2.2.1 = some (tyJ6 k) := by decide +kernel
abbrev cJ6_bitCount_0f7a4 : ByteArray := prog_11_method_49_code
def yJ6_bitCount_0f7a4 : MethodName := ⟨RJ6, "bitCount", "(I)I"⟩
def RJ9 : String := "java/lang/Math"
def TJ9 : u_T := fun k => match k with
  | _ => ("", "", "", false)
def tyJ9 : Nat → FieldType := fun k => match k with
  | _ => .int
abbrev wsJ90 : List Cond := u_ws RJ9 TJ9 0
theorem nmJ9 : ∀ a, a < 0 → ∀ b, b < 0 → a ≠ b → (TJ9 a).2.1 ≠ (TJ9 b).2.1 := by decide +kernel
theorem tyJ9_ok : ∀ k, k < 0 → parseFieldDescriptor (TJ9 k).2.2.1 = some (tyJ9 k) := by decide +kernel
abbrev cJ9_max_7cf53 : ByteArray := prog_12_method_65_code
def yJ9_max_7cf53 : MethodName := ⟨RJ9, "max", "(II)I"⟩
abbrev cJ9_max_f86c9 : ByteArray := prog_12_method_66_code
def yJ9_max_f86c9 : MethodName := ⟨RJ9, "max", "(JJ)J"⟩
abbrev cJ9_min_7cf53 : ByteArray := prog_12_method_69_code
def yJ9_min_7cf53 : MethodName := ⟨RJ9, "min", "(II)I"⟩
abbrev cJ9_min_f86c9 : ByteArray := prog_12_method_70_code
def yJ9_min_f86c9 : MethodName := ⟨RJ9, "min", "(JJ)J"⟩
def RL : String := "MadeItSoLaw"
abbrev cL_law : ByteArray := code
def yL_law : MethodName := ⟨RL, "law", "([I)Z"⟩
def wsX0_init : List Cond := .code yX0_init cX0_init 1 none :: ([.methodLink RX0 3 objectInit, .instanceMethod objectInit, .code objectInit ⟨#[0xb1]⟩ 1 none, .arrayClass .long, .fieldLink RX0 9 "MadeItSo$Big" "limbs" "[J", .fieldLink RX0 13 "MadeItSo$Big" "used" "I"] ++ wsX00)
def wsX0_trim : List Cond := .code yX0_trim cX0_trim 2 none :: ([.fieldLink RX0 13 "MadeItSo$Big" "used" "I", .fieldLink RX0 9 "MadeItSo$Big" "limbs" "[J"] ++ wsX00)
def wsX0_becomeDigit : List Cond := .code yX0_becomeDigit cX0_becomeDigit 3 none :: ([.fieldLink RX0 13 "MadeItSo$Big" "used" "I", .fieldLink RX0 9 "MadeItSo$Big" "limbs" "[J", .methodLink RX0 17 yX0_trim, .instanceMethod yX0_trim, .selects RX0 yX0_trim yX0_trim, .initialized RX0, .code yX0_trim cX0_trim 2 none] ++ wsX00)
def wsX0_become : List Cond := .code yX0_become cX0_become 4 none :: ([.fieldLink RX0 13 "MadeItSo$Big" "used" "I", .methodLink RX0 20 Lib.Math.max.name, .static Lib.Math.max.name, .initialized "java/lang/Math", .code Lib.Math.max.name Lib.Math.max.code 2 (some .int), .fieldLink RX0 9 "MadeItSo$Big" "limbs" "[J"] ++ wsX00)
def wsX0_times : List Cond := .code yX0_times cX0_times 16 none :: ([.constantLong RX0 26 (1073741823), .fieldLink RX0 13 "MadeItSo$Big" "used" "I", .methodLink RX0 28 Lib.Math.min.name, .static Lib.Math.min.name, .initialized "java/lang/Math", .code Lib.Math.min.name Lib.Math.min.code 2 (some .int), .fieldLink RX0 9 "MadeItSo$Big" "limbs" "[J", .methodLink RX0 17 yX0_trim, .instanceMethod yX0_trim, .selects RX0 yX0_trim yX0_trim, .initialized RX0, .code yX0_trim cX0_trim 2 none] ++ wsX00)
def wsX0_plus : List Cond := .code yX0_plus cX0_plus 7 none :: ([.fieldLink RX0 13 "MadeItSo$Big" "used" "I", .methodLink RX0 20 Lib.Math.max.name, .static Lib.Math.max.name, .initialized "java/lang/Math", .code Lib.Math.max.name Lib.Math.max.code 2 (some .int), .methodLink RX0 28 Lib.Math.min.name, .static Lib.Math.min.name, .code Lib.Math.min.name Lib.Math.min.code 2 (some .int), .fieldLink RX0 9 "MadeItSo$Big" "limbs" "[J", .constantLong RX0 26 (1073741823), .methodLink RX0 17 yX0_trim, .instanceMethod yX0_trim, .selects RX0 yX0_trim yX0_trim, .initialized RX0, .code yX0_trim cX0_trim 2 none] ++ wsX00)
def wsX0_same : List Cond := .code yX0_same cX0_same 3 (some .boolean) :: ([.fieldLink RX0 13 "MadeItSo$Big" "used" "I", .fieldLink RX0 9 "MadeItSo$Big" "limbs" "[J"] ++ wsX00)
def wsX1_init : List Cond := .code yX1_init cX1_init 1 none :: ([.methodLink RX1 3 objectInit, .instanceMethod objectInit, .code objectInit ⟨#[0xb1]⟩ 1 none, .arrayClass .int, .fieldLink RX1 9 "MadeItSo$Books" "parts" "[I"] ++ wsX10)
def wsX1_blank : List Cond := .code yX1_blank cX1_blank 3 none :: ([.fieldLink RX1 9 "MadeItSo$Books" "parts" "[I"] ++ wsX10)
def wsX1_isPlace : List Cond := .code yX1_isPlace cX1_isPlace 2 (some .boolean) :: ([])
def wsX1_write : List Cond := .code yX1_write cX1_write 4 none :: ([.fieldLink RX1 9 "MadeItSo$Books" "parts" "[I", .methodLink RX1 15 yX1_isPlace, .static yX1_isPlace, .initialized RX1, .code yX1_isPlace cX1_isPlace 2 (some .boolean)] ++ wsX10)
def wsX1_read : List Cond := .code yX1_read cX1_read 3 (some .int) :: ([.fieldLink RX1 9 "MadeItSo$Books" "parts" "[I", .methodLink RX1 15 yX1_isPlace, .static yX1_isPlace, .initialized RX1, .code yX1_isPlace cX1_isPlace 2 (some .boolean)] ++ wsX10)
def wsX7_heapOf : List Cond := .code yX7_heapOf cX7_heapOf 1 (some .int) :: ([])
def wsX7_inHeap : List Cond := .code yX7_inHeap cX7_inHeap 2 (some .boolean) :: ([])
def wsX7_onesOf : List Cond := .code yX7_onesOf cX7_onesOf 1 (some .int) :: ([])
def wsX2_has : List Cond := .code yX2_has cX2_has 2 (some .boolean) :: ([.fieldLink RX2 18 "MadeItSo$Drawing" "things" "I"] ++ wsX20)
def wsX2_parentsOf : List Cond := .code yX2_parentsOf cX2_parentsOf 2 (some .int) :: ([.fieldLink RX2 9 "MadeItSo$Drawing" "parents" "[I", .methodLink RX2 22 yX2_has, .instanceMethod yX2_has, .selects RX2 yX2_has yX2_has, .initialized RX2, .code yX2_has cX2_has 2 (some .boolean), .fieldLink RX2 18 "MadeItSo$Drawing" "things" "I"] ++ wsX20)
def wsX1_rowOf : List Cond := .code yX1_rowOf cX1_rowOf 5 (some .int) :: ([.static yX7_inHeap, .initialized RX7, .code yX7_inHeap cX7_inHeap 2 (some .boolean)])
def wsX1_partsUnder_r1 : List Cond := [Cond.static yX7_heapOf, Cond.initialized RX7, Cond.code yX7_heapOf cX7_heapOf 1 (some .int), Cond.static yX7_inHeap, Cond.code yX7_inHeap cX7_inHeap 2 (some .boolean), Cond.static yX7_onesOf, Cond.code yX7_onesOf cX7_onesOf 1 (some .int), Cond.methodLink RX1 29 yX2_parentsOf, Cond.instanceMethod yX2_parentsOf, Cond.selects RX2 yX2_parentsOf yX2_parentsOf, Cond.initialized RX2, Cond.code yX2_parentsOf cX2_parentsOf 2 (some .int), Cond.fieldLink RX2 9 "MadeItSo$Drawing" "parents" "[I", Cond.methodLink RX2 22 yX2_has, Cond.instanceMethod yX2_has, Cond.selects RX2 yX2_has yX2_has, Cond.code yX2_has cX2_has 2 (some .boolean), Cond.fieldLink RX2 18 "MadeItSo$Drawing" "things" "I", Cond.methodLink RX1 34 yX1_rowOf, Cond.static yX1_rowOf, Cond.initialized RX1, Cond.code yX1_rowOf cX1_rowOf 5 (some .int), Cond.methodLink RX1 38 yX1_read, Cond.instanceMethod yX1_read]
def wsX1_partsUnder_r2 : List Cond := [Cond.selects RX1 yX1_read yX1_read, Cond.code yX1_read cX1_read 3 (some .int), Cond.fieldLink RX1 9 "MadeItSo$Books" "parts" "[I", Cond.methodLink RX1 15 yX1_isPlace, Cond.static yX1_isPlace, Cond.code yX1_isPlace cX1_isPlace 2 (some .boolean)]
def wsX1_partsUnder : List Cond := .code yX1_partsUnder cX1_partsUnder 5 (some .int) :: ((wsX1_partsUnder_r1 ++ wsX1_partsUnder_r2) ++ wsX20 ++ wsX10)
def wsX2_init : List Cond := .code yX2_init cX2_init 1 none :: ([.methodLink RX2 3 objectInit, .instanceMethod objectInit, .code objectInit ⟨#[0xb1]⟩ 1 none, .arrayClass .int, .fieldLink RX2 9 "MadeItSo$Drawing" "parents" "[I", .fieldLink RX2 15 "MadeItSo$Drawing" "children" "[I", .fieldLink RX2 18 "MadeItSo$Drawing" "things" "I"] ++ wsX20)
def wsX2_size : List Cond := .code yX2_size cX2_size 1 (some .int) :: ([.fieldLink RX2 18 "MadeItSo$Drawing" "things" "I"] ++ wsX20)
def wsX2_everything : List Cond := .code yX2_everything cX2_everything 1 (some .int) :: ([.fieldLink RX2 18 "MadeItSo$Drawing" "things" "I"] ++ wsX20)
def wsX2_grow : List Cond := .code yX2_grow cX2_grow 1 (some .int) :: ([.fieldLink RX2 18 "MadeItSo$Drawing" "things" "I"] ++ wsX20)
def wsX2_childrenOf : List Cond := .code yX2_childrenOf cX2_childrenOf 2 (some .int) :: ([.fieldLink RX2 15 "MadeItSo$Drawing" "children" "[I", .methodLink RX2 22 yX2_has, .instanceMethod yX2_has, .selects RX2 yX2_has yX2_has, .initialized RX2, .code yX2_has cX2_has 2 (some .boolean), .fieldLink RX2 18 "MadeItSo$Drawing" "things" "I"] ++ wsX20)
def wsX2_joinedTo : List Cond := .code yX2_joinedTo cX2_joinedTo 2 (some .int) :: ([.fieldLink RX2 9 "MadeItSo$Drawing" "parents" "[I", .fieldLink RX2 15 "MadeItSo$Drawing" "children" "[I", .methodLink RX2 22 yX2_has, .instanceMethod yX2_has, .selects RX2 yX2_has yX2_has, .initialized RX2, .code yX2_has cX2_has 2 (some .boolean), .fieldLink RX2 18 "MadeItSo$Drawing" "things" "I"] ++ wsX20)
def wsX2_leads : List Cond := .code yX2_leads cX2_leads 3 (some .boolean) :: ([.fieldLink RX2 15 "MadeItSo$Drawing" "children" "[I", .methodLink RX2 22 yX2_has, .instanceMethod yX2_has, .selects RX2 yX2_has yX2_has, .initialized RX2, .code yX2_has cX2_has 2 (some .boolean), .fieldLink RX2 18 "MadeItSo$Drawing" "things" "I", .static yX7_inHeap, .initialized RX7, .code yX7_inHeap cX7_inHeap 2 (some .boolean)] ++ wsX20)
def wsX2_gather : List Cond := .code yX2_gather cX2_gather 4 (some .int) :: ([.static yX7_inHeap, .initialized RX7, .code yX7_inHeap cX7_inHeap 2 (some .boolean)])
def wsX2_spread : List Cond := .code yX2_spread cX2_spread 6 (some .int) :: ([.methodLink RX2 55 yX2_gather, .static yX2_gather, .initialized RX2, .code yX2_gather cX2_gather 4 (some .int), .static yX7_inHeap, .initialized RX7, .code yX7_inHeap cX7_inHeap 2 (some .boolean)])
def wsX2_withAllBelow : List Cond := .code yX2_withAllBelow cX2_withAllBelow 2 (some .int) :: ([.fieldLink RX2 15 "MadeItSo$Drawing" "children" "[I", .methodLink RX2 51 yX2_spread, .instanceMethod yX2_spread, .selects RX2 yX2_spread yX2_spread, .initialized RX2, .code yX2_spread cX2_spread 6 (some .int), .methodLink RX2 55 yX2_gather, .static yX2_gather, .code yX2_gather cX2_gather 4 (some .int), .static yX7_inHeap, .initialized RX7, .code yX7_inHeap cX7_inHeap 2 (some .boolean)] ++ wsX20)
def wsX2_allBelow_r1 : List Cond := [Cond.methodLink RX2 45 yX2_childrenOf, Cond.instanceMethod yX2_childrenOf, Cond.selects RX2 yX2_childrenOf yX2_childrenOf, Cond.initialized RX2, Cond.code yX2_childrenOf cX2_childrenOf 2 (some .int), Cond.fieldLink RX2 15 "MadeItSo$Drawing" "children" "[I", Cond.methodLink RX2 22 yX2_has, Cond.instanceMethod yX2_has, Cond.selects RX2 yX2_has yX2_has, Cond.code yX2_has cX2_has 2 (some .boolean), Cond.fieldLink RX2 18 "MadeItSo$Drawing" "things" "I", Cond.methodLink RX2 48 yX2_withAllBelow, Cond.instanceMethod yX2_withAllBelow, Cond.selects RX2 yX2_withAllBelow yX2_withAllBelow, Cond.code yX2_withAllBelow cX2_withAllBelow 2 (some .int), Cond.methodLink RX2 51 yX2_spread, Cond.instanceMethod yX2_spread, Cond.selects RX2 yX2_spread yX2_spread, Cond.code yX2_spread cX2_spread 6 (some .int), Cond.methodLink RX2 55 yX2_gather, Cond.static yX2_gather, Cond.code yX2_gather cX2_gather 4 (some .int), Cond.static yX7_inHeap, Cond.initialized RX7]
def wsX2_allBelow_r2 : List Cond := [Cond.code yX7_inHeap cX7_inHeap 2 (some .boolean)]
def wsX2_allBelow : List Cond := .code yX2_allBelow cX2_allBelow 2 (some .int) :: ((wsX2_allBelow_r1 ++ wsX2_allBelow_r2) ++ wsX20)
def wsX2_canJoin_r1 : List Cond := [Cond.methodLink RX2 30 yX2_joinedTo, Cond.instanceMethod yX2_joinedTo, Cond.selects RX2 yX2_joinedTo yX2_joinedTo, Cond.initialized RX2, Cond.code yX2_joinedTo cX2_joinedTo 2 (some .int), Cond.fieldLink RX2 9 "MadeItSo$Drawing" "parents" "[I", Cond.fieldLink RX2 15 "MadeItSo$Drawing" "children" "[I", Cond.methodLink RX2 22 yX2_has, Cond.instanceMethod yX2_has, Cond.selects RX2 yX2_has yX2_has, Cond.code yX2_has cX2_has 2 (some .boolean), Cond.fieldLink RX2 18 "MadeItSo$Drawing" "things" "I", Cond.static yX7_inHeap, Cond.initialized RX7, Cond.code yX7_inHeap cX7_inHeap 2 (some .boolean), Cond.methodLink RX2 34 yX2_allBelow, Cond.instanceMethod yX2_allBelow, Cond.selects RX2 yX2_allBelow yX2_allBelow, Cond.code yX2_allBelow cX2_allBelow 2 (some .int), Cond.methodLink RX2 45 yX2_childrenOf, Cond.instanceMethod yX2_childrenOf, Cond.selects RX2 yX2_childrenOf yX2_childrenOf, Cond.code yX2_childrenOf cX2_childrenOf 2 (some .int), Cond.methodLink RX2 48 yX2_withAllBelow]
def wsX2_canJoin_r2 : List Cond := [Cond.instanceMethod yX2_withAllBelow, Cond.selects RX2 yX2_withAllBelow yX2_withAllBelow, Cond.code yX2_withAllBelow cX2_withAllBelow 2 (some .int), Cond.methodLink RX2 51 yX2_spread, Cond.instanceMethod yX2_spread, Cond.selects RX2 yX2_spread yX2_spread, Cond.code yX2_spread cX2_spread 6 (some .int), Cond.methodLink RX2 55 yX2_gather, Cond.static yX2_gather, Cond.code yX2_gather cX2_gather 4 (some .int)]
def wsX2_canJoin : List Cond := .code yX2_canJoin cX2_canJoin 3 (some .boolean) :: ((wsX2_canJoin_r1 ++ wsX2_canJoin_r2) ++ wsX20)
def wsX7_bit : List Cond := .code yX7_bit cX7_bit 1 (some .int) :: ([])
def wsX2_join : List Cond := .code yX2_join cX2_join 3 none :: ([.fieldLink RX2 15 "MadeItSo$Drawing" "children" "[I", .fieldLink RX2 9 "MadeItSo$Drawing" "parents" "[I", .methodLink RX2 22 yX2_has, .instanceMethod yX2_has, .selects RX2 yX2_has yX2_has, .initialized RX2, .code yX2_has cX2_has 2 (some .boolean), .fieldLink RX2 18 "MadeItSo$Drawing" "things" "I", .static yX7_bit, .initialized RX7, .code yX7_bit cX7_bit 1 (some .int)] ++ wsX20)
def wsX2_part : List Cond := .code yX2_part cX2_part 3 none :: ([.fieldLink RX2 15 "MadeItSo$Drawing" "children" "[I", .fieldLink RX2 9 "MadeItSo$Drawing" "parents" "[I", .methodLink RX2 22 yX2_has, .instanceMethod yX2_has, .selects RX2 yX2_has yX2_has, .initialized RX2, .code yX2_has cX2_has 2 (some .boolean), .fieldLink RX2 18 "MadeItSo$Drawing" "things" "I", .static yX7_bit, .initialized RX7, .code yX7_bit cX7_bit 1 (some .int)] ++ wsX20)
def wsJ6_bitCount_0f7a4 : List Cond := .code yJ6_bitCount_0f7a4 cJ6_bitCount_0f7a4 1 (some .int) :: ([.constant RJ6 265 (1431655765), .constant RJ6 266 (858993459), .constant RJ6 267 (252645135)])
def wsX2_arrows : List Cond := .code yX2_arrows cX2_arrows 3 (some .int) :: ([.fieldLink RX2 18 "MadeItSo$Drawing" "things" "I", .fieldLink RX2 9 "MadeItSo$Drawing" "parents" "[I", .methodLink RX2 40 yJ6_bitCount_0f7a4, .static yJ6_bitCount_0f7a4, .initialized RJ6, .code yJ6_bitCount_0f7a4 cJ6_bitCount_0f7a4 1 (some .int), .constant RJ6 265 (1431655765), .constant RJ6 266 (858993459), .constant RJ6 267 (252645135)] ++ wsX20)
def wsX2_road_r1 : List Cond := [Cond.fieldLink RX2 9 "MadeItSo$Drawing" "parents" "[I", Cond.methodLink RX2 34 yX2_allBelow, Cond.instanceMethod yX2_allBelow, Cond.selects RX2 yX2_allBelow yX2_allBelow, Cond.initialized RX2, Cond.code yX2_allBelow cX2_allBelow 2 (some .int), Cond.methodLink RX2 45 yX2_childrenOf, Cond.instanceMethod yX2_childrenOf, Cond.selects RX2 yX2_childrenOf yX2_childrenOf, Cond.code yX2_childrenOf cX2_childrenOf 2 (some .int), Cond.fieldLink RX2 15 "MadeItSo$Drawing" "children" "[I", Cond.methodLink RX2 22 yX2_has, Cond.instanceMethod yX2_has, Cond.selects RX2 yX2_has yX2_has, Cond.code yX2_has cX2_has 2 (some .boolean), Cond.fieldLink RX2 18 "MadeItSo$Drawing" "things" "I", Cond.methodLink RX2 48 yX2_withAllBelow, Cond.instanceMethod yX2_withAllBelow, Cond.selects RX2 yX2_withAllBelow yX2_withAllBelow, Cond.code yX2_withAllBelow cX2_withAllBelow 2 (some .int), Cond.methodLink RX2 51 yX2_spread, Cond.instanceMethod yX2_spread, Cond.selects RX2 yX2_spread yX2_spread, Cond.code yX2_spread cX2_spread 6 (some .int)]
def wsX2_road_r2 : List Cond := [Cond.methodLink RX2 55 yX2_gather, Cond.static yX2_gather, Cond.code yX2_gather cX2_gather 4 (some .int), Cond.static yX7_inHeap, Cond.initialized RX7, Cond.code yX7_inHeap cX7_inHeap 2 (some .boolean), Cond.static yX7_bit, Cond.code yX7_bit cX7_bit 1 (some .int)]
def wsX2_road : List Cond := .code yX2_road cX2_road 3 (some .int) :: ((wsX2_road_r1 ++ wsX2_road_r2) ++ wsX20)
def wsX2_nextAfter : List Cond := .code yX2_nextAfter cX2_nextAfter 3 (some .int) :: ([.fieldLink RX2 18 "MadeItSo$Drawing" "things" "I", .fieldLink RX2 9 "MadeItSo$Drawing" "parents" "[I", .static yX7_inHeap, .initialized RX7, .code yX7_inHeap cX7_inHeap 2 (some .boolean)] ++ wsX20)
def wsX2_copyWithout : List Cond := .code yX2_copyWithout cX2_copyWithout 5 none :: ([.fieldLink RX2 18 "MadeItSo$Drawing" "things" "I", .fieldLink RX2 9 "MadeItSo$Drawing" "parents" "[I", .fieldLink RX2 15 "MadeItSo$Drawing" "children" "[I", .static yX7_inHeap, .initialized RX7, .code yX7_inHeap cX7_inHeap 2 (some .boolean), .static yX7_bit, .code yX7_bit cX7_bit 1 (some .int)] ++ wsX20)
def wsX2_barred : List Cond := .code yX2_barred cX2_barred 12 (some .boolean) :: ([.fieldLink RX2 9 "MadeItSo$Drawing" "parents" "[I", .fieldLink RX2 15 "MadeItSo$Drawing" "children" "[I", .methodLink RX2 51 yX2_spread, .instanceMethod yX2_spread, .selects RX2 yX2_spread yX2_spread, .initialized RX2, .code yX2_spread cX2_spread 6 (some .int), .methodLink RX2 55 yX2_gather, .static yX2_gather, .code yX2_gather cX2_gather 4 (some .int), .static yX7_inHeap, .initialized RX7, .code yX7_inHeap cX7_inHeap 2 (some .boolean)] ++ wsX20)
def wsX2_apart : List Cond := .code yX2_apart cX2_apart 3 (some .boolean) :: ([.fieldLink RX2 18 "MadeItSo$Drawing" "things" "I", .static yX7_inHeap, .initialized RX7, .code yX7_inHeap cX7_inHeap 2 (some .boolean), .methodLink RX2 30 yX2_joinedTo, .instanceMethod yX2_joinedTo, .selects RX2 yX2_joinedTo yX2_joinedTo, .initialized RX2, .code yX2_joinedTo cX2_joinedTo 2 (some .int), .fieldLink RX2 9 "MadeItSo$Drawing" "parents" "[I", .fieldLink RX2 15 "MadeItSo$Drawing" "children" "[I", .methodLink RX2 22 yX2_has, .instanceMethod yX2_has, .selects RX2 yX2_has yX2_has, .code yX2_has cX2_has 2 (some .boolean)] ++ wsX20)
def wsX2_unjoinedWith : List Cond := .code yX2_unjoinedWith cX2_unjoinedWith 3 (some .int) :: ([.static yX7_inHeap, .initialized RX7, .code yX7_inHeap cX7_inHeap 2 (some .boolean), .methodLink RX2 30 yX2_joinedTo, .instanceMethod yX2_joinedTo, .selects RX2 yX2_joinedTo yX2_joinedTo, .initialized RX2, .code yX2_joinedTo cX2_joinedTo 2 (some .int), .fieldLink RX2 9 "MadeItSo$Drawing" "parents" "[I", .fieldLink RX2 15 "MadeItSo$Drawing" "children" "[I", .methodLink RX2 22 yX2_has, .instanceMethod yX2_has, .selects RX2 yX2_has yX2_has, .code yX2_has cX2_has 2 (some .boolean), .fieldLink RX2 18 "MadeItSo$Drawing" "things" "I", .static yX7_bit, .code yX7_bit cX7_bit 1 (some .int)] ++ wsX20)
def wsX2_sameThirds_r1 : List Cond := [Cond.fieldLink RX2 18 "MadeItSo$Drawing" "things" "I", Cond.methodLink RX2 58 yX2_parentsOf, Cond.instanceMethod yX2_parentsOf, Cond.selects RX2 yX2_parentsOf yX2_parentsOf, Cond.initialized RX2, Cond.code yX2_parentsOf cX2_parentsOf 2 (some .int), Cond.fieldLink RX2 9 "MadeItSo$Drawing" "parents" "[I", Cond.methodLink RX2 22 yX2_has, Cond.instanceMethod yX2_has, Cond.selects RX2 yX2_has yX2_has, Cond.code yX2_has cX2_has 2 (some .boolean), Cond.static yX7_inHeap, Cond.initialized RX7, Cond.code yX7_inHeap cX7_inHeap 2 (some .boolean), Cond.methodLink RX2 61 yX2_unjoinedWith, Cond.instanceMethod yX2_unjoinedWith, Cond.selects RX2 yX2_unjoinedWith yX2_unjoinedWith, Cond.code yX2_unjoinedWith cX2_unjoinedWith 3 (some .int), Cond.methodLink RX2 30 yX2_joinedTo, Cond.instanceMethod yX2_joinedTo, Cond.selects RX2 yX2_joinedTo yX2_joinedTo, Cond.code yX2_joinedTo cX2_joinedTo 2 (some .int), Cond.fieldLink RX2 15 "MadeItSo$Drawing" "children" "[I", Cond.static yX7_bit]
def wsX2_sameThirds_r2 : List Cond := [Cond.code yX7_bit cX7_bit 1 (some .int)]
def wsX2_sameThirds : List Cond := .code yX2_sameThirds cX2_sameThirds 5 (some .boolean) :: ((wsX2_sameThirds_r1 ++ wsX2_sameThirds_r2) ++ wsX20)
def wsX3_init : List Cond := .code yX3_init cX3_init 1 none :: ([.methodLink RX3 3 objectInit, .instanceMethod objectInit, .code objectInit ⟨#[0xb1]⟩ 1 none, .arrayClass .int, .fieldLink RX3 9 "MadeItSo$LeastHeaps" "found" "[I", .fieldLink RX3 15 "MadeItSo$LeastHeaps" "many" "I"] ++ wsX30)
def wsX7_partsOf : List Cond := .code yX7_partsOf cX7_partsOf 1 (some .int) :: ([.methodLink RX7 239 yJ6_bitCount_0f7a4, .static yJ6_bitCount_0f7a4, .initialized RJ6, .code yJ6_bitCount_0f7a4 cJ6_bitCount_0f7a4 1 (some .int), .constant RJ6 265 (1431655765), .constant RJ6 266 (858993459), .constant RJ6 267 (252645135)])
def wsX3_holdsOne : List Cond := .code yX3_holdsOne cX3_holdsOne 3 (some .boolean) :: ([.fieldLink RX3 15 "MadeItSo$LeastHeaps" "many" "I", .fieldLink RX3 9 "MadeItSo$LeastHeaps" "found" "[I"] ++ wsX30)
def wsX7_nextPart : List Cond := .code yX7_nextPart cX7_nextPart 2 (some .int) :: ([])
def wsX3_seek_r1 : List Cond := [Cond.fieldLink RX3 15 "MadeItSo$LeastHeaps" "many" "I", Cond.fieldLink RX3 9 "MadeItSo$LeastHeaps" "found" "[I", Cond.static yX7_bit, Cond.initialized RX7, Cond.code yX7_bit cX7_bit 1 (some .int), Cond.static yX7_partsOf, Cond.code yX7_partsOf cX7_partsOf 1 (some .int), Cond.methodLink RX7 239 yJ6_bitCount_0f7a4, Cond.static yJ6_bitCount_0f7a4, Cond.initialized RJ6, Cond.code yJ6_bitCount_0f7a4 cJ6_bitCount_0f7a4 1 (some .int), Cond.constant RJ6 265 (1431655765), Cond.constant RJ6 266 (858993459), Cond.constant RJ6 267 (252645135), Cond.methodLink RX3 26 yX3_holdsOne, Cond.instanceMethod yX3_holdsOne, Cond.selects RX3 yX3_holdsOne yX3_holdsOne, Cond.initialized RX3, Cond.code yX3_holdsOne cX3_holdsOne 3 (some .boolean), Cond.methodLink RX3 30 yX2_barred, Cond.instanceMethod yX2_barred, Cond.selects RX2 yX2_barred yX2_barred, Cond.initialized RX2, Cond.code yX2_barred cX2_barred 12 (some .boolean)]
def wsX3_seek_r2 : List Cond := [Cond.fieldLink RX2 9 "MadeItSo$Drawing" "parents" "[I", Cond.fieldLink RX2 15 "MadeItSo$Drawing" "children" "[I", Cond.methodLink RX2 51 yX2_spread, Cond.instanceMethod yX2_spread, Cond.selects RX2 yX2_spread yX2_spread, Cond.code yX2_spread cX2_spread 6 (some .int), Cond.methodLink RX2 55 yX2_gather, Cond.static yX2_gather, Cond.code yX2_gather cX2_gather 4 (some .int), Cond.static yX7_inHeap, Cond.code yX7_inHeap cX7_inHeap 2 (some .boolean), Cond.static yX7_nextPart, Cond.code yX7_nextPart cX7_nextPart 2 (some .int)]
def wsX3_seek : List Cond := .code yX3_seek cX3_seek 9 none :: ((wsX3_seek_r1 ++ wsX3_seek_r2) ++ wsX30 ++ wsX20)
def wsX3_size : List Cond := .code yX3_size cX3_size 1 (some .int) :: ([.fieldLink RX3 15 "MadeItSo$LeastHeaps" "many" "I"] ++ wsX30)
def wsX3_at : List Cond := .code yX3_at cX3_at 2 (some .int) :: ([.fieldLink RX3 15 "MadeItSo$LeastHeaps" "many" "I", .fieldLink RX3 9 "MadeItSo$LeastHeaps" "found" "[I"] ++ wsX30)
def wsX4_init : List Cond := .code yX4_init cX4_init 1 none :: ([.methodLink RX4 3 objectInit, .instanceMethod objectInit, .code objectInit ⟨#[0xb1]⟩ 1 none, .arrayClass .int, .fieldLink RX4 9 "MadeItSo$Lookalikes" "waysOf" "[I"] ++ wsX40)
def wsX4_canBeLast_r1 : List Cond := [Cond.methodLink RX4 53 yX2_size, Cond.instanceMethod yX2_size, Cond.selects RX2 yX2_size yX2_size, Cond.initialized RX2, Cond.code yX2_size cX2_size 1 (some .int), Cond.fieldLink RX2 18 "MadeItSo$Drawing" "things" "I", Cond.static yX7_inHeap, Cond.initialized RX7, Cond.code yX7_inHeap cX7_inHeap 2 (some .boolean), Cond.methodLink RX4 56 yX2_joinedTo, Cond.instanceMethod yX2_joinedTo, Cond.selects RX2 yX2_joinedTo yX2_joinedTo, Cond.code yX2_joinedTo cX2_joinedTo 2 (some .int), Cond.fieldLink RX2 9 "MadeItSo$Drawing" "parents" "[I", Cond.fieldLink RX2 15 "MadeItSo$Drawing" "children" "[I", Cond.methodLink RX2 22 yX2_has, Cond.instanceMethod yX2_has, Cond.selects RX2 yX2_has yX2_has, Cond.code yX2_has cX2_has 2 (some .boolean), Cond.methodLink RX4 59 yX2_sameThirds, Cond.instanceMethod yX2_sameThirds, Cond.selects RX2 yX2_sameThirds yX2_sameThirds, Cond.code yX2_sameThirds cX2_sameThirds 5 (some .boolean), Cond.methodLink RX2 58 yX2_parentsOf]
def wsX4_canBeLast_r2 : List Cond := [Cond.instanceMethod yX2_parentsOf, Cond.selects RX2 yX2_parentsOf yX2_parentsOf, Cond.code yX2_parentsOf cX2_parentsOf 2 (some .int), Cond.methodLink RX2 61 yX2_unjoinedWith, Cond.instanceMethod yX2_unjoinedWith, Cond.selects RX2 yX2_unjoinedWith yX2_unjoinedWith, Cond.code yX2_unjoinedWith cX2_unjoinedWith 3 (some .int), Cond.methodLink RX2 30 yX2_joinedTo, Cond.static yX7_bit, Cond.code yX7_bit cX7_bit 1 (some .int)]
def wsX4_canBeLast : List Cond := .code yX4_canBeLast cX4_canBeLast 4 (some .int) :: ((wsX4_canBeLast_r1 ++ wsX4_canBeLast_r2) ++ wsX20)
def wsX4_waysEndingIn_r1 : List Cond := [Cond.fieldLink RX4 9 "MadeItSo$Lookalikes" "waysOf" "[I", Cond.static yX7_partsOf, Cond.initialized RX7, Cond.code yX7_partsOf cX7_partsOf 1 (some .int), Cond.methodLink RX7 239 yJ6_bitCount_0f7a4, Cond.static yJ6_bitCount_0f7a4, Cond.initialized RJ6, Cond.code yJ6_bitCount_0f7a4 cJ6_bitCount_0f7a4 1 (some .int), Cond.constant RJ6 265 (1431655765), Cond.constant RJ6 266 (858993459), Cond.constant RJ6 267 (252645135), Cond.static yX7_nextPart, Cond.code yX7_nextPart cX7_nextPart 2 (some .int), Cond.methodLink RX4 44 yX2_apart, Cond.instanceMethod yX2_apart, Cond.selects RX2 yX2_apart yX2_apart, Cond.initialized RX2, Cond.code yX2_apart cX2_apart 3 (some .boolean), Cond.fieldLink RX2 18 "MadeItSo$Drawing" "things" "I", Cond.static yX7_inHeap, Cond.code yX7_inHeap cX7_inHeap 2 (some .boolean), Cond.methodLink RX2 30 yX2_joinedTo, Cond.instanceMethod yX2_joinedTo, Cond.selects RX2 yX2_joinedTo yX2_joinedTo]
def wsX4_waysEndingIn_r2 : List Cond := [Cond.code yX2_joinedTo cX2_joinedTo 2 (some .int), Cond.fieldLink RX2 9 "MadeItSo$Drawing" "parents" "[I", Cond.fieldLink RX2 15 "MadeItSo$Drawing" "children" "[I", Cond.methodLink RX2 22 yX2_has, Cond.instanceMethod yX2_has, Cond.selects RX2 yX2_has yX2_has, Cond.code yX2_has cX2_has 2 (some .boolean), Cond.methodLink RX4 48 yJ6_bitCount_0f7a4]
def wsX4_waysEndingIn : List Cond := .code yX4_waysEndingIn cX4_waysEndingIn 9 (some .int) :: ((wsX4_waysEndingIn_r1 ++ wsX4_waysEndingIn_r2) ++ wsX40 ++ wsX20)
def wsX4_reckon_r1 : List Cond := [Cond.fieldLink RX4 9 "MadeItSo$Lookalikes" "waysOf" "[I", Cond.methodLink RX4 15 yX2_everything, Cond.instanceMethod yX2_everything, Cond.selects RX2 yX2_everything yX2_everything, Cond.initialized RX2, Cond.code yX2_everything cX2_everything 1 (some .int), Cond.fieldLink RX2 18 "MadeItSo$Drawing" "things" "I", Cond.methodLink RX4 21 yX4_canBeLast, Cond.static yX4_canBeLast, Cond.initialized RX4, Cond.code yX4_canBeLast cX4_canBeLast 4 (some .int), Cond.methodLink RX4 53 yX2_size, Cond.instanceMethod yX2_size, Cond.selects RX2 yX2_size yX2_size, Cond.code yX2_size cX2_size 1 (some .int), Cond.static yX7_inHeap, Cond.initialized RX7, Cond.code yX7_inHeap cX7_inHeap 2 (some .boolean), Cond.methodLink RX4 56 yX2_joinedTo, Cond.instanceMethod yX2_joinedTo, Cond.selects RX2 yX2_joinedTo yX2_joinedTo, Cond.code yX2_joinedTo cX2_joinedTo 2 (some .int), Cond.fieldLink RX2 9 "MadeItSo$Drawing" "parents" "[I", Cond.fieldLink RX2 15 "MadeItSo$Drawing" "children" "[I"]
def wsX4_reckon_r2 : List Cond := [Cond.methodLink RX2 22 yX2_has, Cond.instanceMethod yX2_has, Cond.selects RX2 yX2_has yX2_has, Cond.code yX2_has cX2_has 2 (some .boolean), Cond.methodLink RX4 59 yX2_sameThirds, Cond.instanceMethod yX2_sameThirds, Cond.selects RX2 yX2_sameThirds yX2_sameThirds, Cond.code yX2_sameThirds cX2_sameThirds 5 (some .boolean), Cond.methodLink RX2 58 yX2_parentsOf, Cond.instanceMethod yX2_parentsOf, Cond.selects RX2 yX2_parentsOf yX2_parentsOf, Cond.code yX2_parentsOf cX2_parentsOf 2 (some .int), Cond.methodLink RX2 61 yX2_unjoinedWith, Cond.instanceMethod yX2_unjoinedWith, Cond.selects RX2 yX2_unjoinedWith yX2_unjoinedWith, Cond.code yX2_unjoinedWith cX2_unjoinedWith 3 (some .int), Cond.methodLink RX2 30 yX2_joinedTo, Cond.static yX7_bit, Cond.code yX7_bit cX7_bit 1 (some .int), Cond.methodLink RX4 33 yX4_waysEndingIn, Cond.instanceMethod yX4_waysEndingIn, Cond.selects RX4 yX4_waysEndingIn yX4_waysEndingIn, Cond.code yX4_waysEndingIn cX4_waysEndingIn 9 (some .int), Cond.static yX7_partsOf]
def wsX4_reckon_r3 : List Cond := [Cond.code yX7_partsOf cX7_partsOf 1 (some .int), Cond.methodLink RX7 239 yJ6_bitCount_0f7a4, Cond.static yJ6_bitCount_0f7a4, Cond.initialized RJ6, Cond.code yJ6_bitCount_0f7a4 cJ6_bitCount_0f7a4 1 (some .int), Cond.constant RJ6 265 (1431655765), Cond.constant RJ6 266 (858993459), Cond.constant RJ6 267 (252645135), Cond.static yX7_nextPart, Cond.code yX7_nextPart cX7_nextPart 2 (some .int), Cond.methodLink RX4 44 yX2_apart, Cond.instanceMethod yX2_apart, Cond.selects RX2 yX2_apart yX2_apart, Cond.code yX2_apart cX2_apart 3 (some .boolean), Cond.methodLink RX4 48 yJ6_bitCount_0f7a4]
def wsX4_reckon : List Cond := .code yX4_reckon cX4_reckon 7 (some .int) :: ((wsX4_reckon_r1 ++ (wsX4_reckon_r2 ++ wsX4_reckon_r3)) ++ wsX40 ++ wsX20)
def wsX5_init : List Cond := .code yX5_init cX5_init 1 none :: ([.methodLink RX5 1 objectInit, .instanceMethod objectInit, .code objectInit ⟨#[0xb1]⟩ 1 none, .classLink RX5 7 RX0, .instantiable RX0 2, .initialized RX0, .fieldLink RX5 10 "MadeItSo$Total" "top" "LMadeItSo$Big;", .fieldLink RX5 16 "MadeItSo$Total" "bottom" "LMadeItSo$Big;", .fieldLink RX5 19 "MadeItSo$Total" "spare" "LMadeItSo$Big;", .instanceMethod yX0_init, .code yX0_init cX0_init 1 none, .methodLink RX0 3 objectInit, .arrayClass .long, .fieldLink RX0 9 "MadeItSo$Big" "limbs" "[J", .fieldLink RX0 13 "MadeItSo$Big" "used" "I"] ++ wsX00 ++ wsX50)
def wsX5_clear : List Cond := .code yX5_clear cX5_clear 1 none :: ([.fieldLink RX5 10 "MadeItSo$Total" "top" "LMadeItSo$Big;", .fieldLink RX5 16 "MadeItSo$Total" "bottom" "LMadeItSo$Big;", .methodLink RX5 22 yX0_becomeDigit, .instanceMethod yX0_becomeDigit, .selects RX0 yX0_becomeDigit yX0_becomeDigit, .initialized RX0, .code yX0_becomeDigit cX0_becomeDigit 3 none, .fieldLink RX0 13 "MadeItSo$Big" "used" "I", .fieldLink RX0 9 "MadeItSo$Big" "limbs" "[J", .methodLink RX0 17 yX0_trim, .instanceMethod yX0_trim, .selects RX0 yX0_trim yX0_trim, .code yX0_trim cX0_trim 2 none] ++ wsX50 ++ wsX00)
def wsX7_commonDivisor : List Cond := .code yX7_commonDivisor cX7_commonDivisor 11 (some .long) :: ([.methodLink RX7 199 Lib.MathLoose.max_long.x, .static Lib.MathLoose.max_long.x, .initialized "java/lang/Math", .code Lib.MathLoose.max_long.x Lib.MathLoose.max_long.code 4 (some .long)])
def wsX5_add_r1 : List Cond := [Cond.fieldLink RX5 19 "MadeItSo$Total" "spare" "LMadeItSo$Big;", Cond.fieldLink RX5 16 "MadeItSo$Total" "bottom" "LMadeItSo$Big;", Cond.fieldLink RX5 10 "MadeItSo$Total" "top" "LMadeItSo$Big;", Cond.static yX7_commonDivisor, Cond.initialized RX7, Cond.code yX7_commonDivisor cX7_commonDivisor 11 (some .long), Cond.methodLink RX7 199 Lib.MathLoose.max_long.x, Cond.static Lib.MathLoose.max_long.x, Cond.initialized "java/lang/Math", Cond.code Lib.MathLoose.max_long.x Lib.MathLoose.max_long.code 4 (some .long), Cond.methodLink RX5 32 yX0_become, Cond.instanceMethod yX0_become, Cond.selects RX0 yX0_become yX0_become, Cond.initialized RX0, Cond.code yX0_become cX0_become 4 none, Cond.fieldLink RX0 13 "MadeItSo$Big" "used" "I", Cond.methodLink RX0 20 Lib.Math.max.name, Cond.static Lib.Math.max.name, Cond.code Lib.Math.max.name Lib.Math.max.code 2 (some .int), Cond.fieldLink RX0 9 "MadeItSo$Big" "limbs" "[J", Cond.methodLink RX5 36 yX0_times, Cond.instanceMethod yX0_times, Cond.selects RX0 yX0_times yX0_times, Cond.code yX0_times cX0_times 16 none]
def wsX5_add_r2 : List Cond := [Cond.constantLong RX0 26 (1073741823), Cond.methodLink RX0 28 Lib.Math.min.name, Cond.static Lib.Math.min.name, Cond.code Lib.Math.min.name Lib.Math.min.code 2 (some .int), Cond.methodLink RX0 17 yX0_trim, Cond.instanceMethod yX0_trim, Cond.selects RX0 yX0_trim yX0_trim, Cond.code yX0_trim cX0_trim 2 none, Cond.methodLink RX5 40 yX0_plus, Cond.instanceMethod yX0_plus, Cond.selects RX0 yX0_plus yX0_plus, Cond.code yX0_plus cX0_plus 7 none]
def wsX5_add : List Cond := .code yX5_add cX5_add 13 none :: ((wsX5_add_r1 ++ wsX5_add_r2) ++ wsX50 ++ wsX00)
def wsX5_is_r1 : List Cond := [Cond.fieldLink RX5 19 "MadeItSo$Total" "spare" "LMadeItSo$Big;", Cond.fieldLink RX5 16 "MadeItSo$Total" "bottom" "LMadeItSo$Big;", Cond.fieldLink RX5 10 "MadeItSo$Total" "top" "LMadeItSo$Big;", Cond.methodLink RX5 32 yX0_become, Cond.instanceMethod yX0_become, Cond.selects RX0 yX0_become yX0_become, Cond.initialized RX0, Cond.code yX0_become cX0_become 4 none, Cond.fieldLink RX0 13 "MadeItSo$Big" "used" "I", Cond.methodLink RX0 20 Lib.Math.max.name, Cond.static Lib.Math.max.name, Cond.initialized "java/lang/Math", Cond.code Lib.Math.max.name Lib.Math.max.code 2 (some .int), Cond.fieldLink RX0 9 "MadeItSo$Big" "limbs" "[J", Cond.methodLink RX5 36 yX0_times, Cond.instanceMethod yX0_times, Cond.selects RX0 yX0_times yX0_times, Cond.code yX0_times cX0_times 16 none, Cond.constantLong RX0 26 (1073741823), Cond.methodLink RX0 28 Lib.Math.min.name, Cond.static Lib.Math.min.name, Cond.code Lib.Math.min.name Lib.Math.min.code 2 (some .int), Cond.methodLink RX0 17 yX0_trim, Cond.instanceMethod yX0_trim]
def wsX5_is_r2 : List Cond := [Cond.selects RX0 yX0_trim yX0_trim, Cond.code yX0_trim cX0_trim 2 none, Cond.methodLink RX5 43 yX0_same, Cond.instanceMethod yX0_same, Cond.selects RX0 yX0_same yX0_same, Cond.code yX0_same cX0_same 3 (some .boolean)]
def wsX5_is : List Cond := .code yX5_is cX5_is 3 (some .boolean) :: ((wsX5_is_r1 ++ wsX5_is_r2) ++ wsX50 ++ wsX00)
def wsX6_init : List Cond := .code yX6_init cX6_init 1 none :: ([.methodLink RX6 3 objectInit, .instanceMethod objectInit, .code objectInit ⟨#[0xb1]⟩ 1 none, .arrayClass .long, .fieldLink RX6 9 "MadeItSo$Weights" "ofCase" "[J", .fieldLink RX6 15 "MadeItSo$Weights" "everything" "I"] ++ wsX60)
def wsX6_split : List Cond := .code yX6_split cX6_split 6 none :: ([.fieldLink RX6 9 "MadeItSo$Weights" "ofCase" "[J"] ++ wsX60)
def wsX6_weigh_r1 : List Cond := [Cond.fieldLink RX6 15 "MadeItSo$Weights" "everything" "I", Cond.fieldLink RX6 9 "MadeItSo$Weights" "ofCase" "[J", Cond.methodLink RX6 19 yX2_everything, Cond.instanceMethod yX2_everything, Cond.selects RX2 yX2_everything yX2_everything, Cond.initialized RX2, Cond.code yX2_everything cX2_everything 1 (some .int), Cond.fieldLink RX2 18 "MadeItSo$Drawing" "things" "I", Cond.methodLink RX6 24 yX2_size, Cond.instanceMethod yX2_size, Cond.selects RX2 yX2_size yX2_size, Cond.code yX2_size cX2_size 1 (some .int), Cond.methodLink RX6 27 yX2_nextAfter, Cond.instanceMethod yX2_nextAfter, Cond.selects RX2 yX2_nextAfter yX2_nextAfter, Cond.code yX2_nextAfter cX2_nextAfter 3 (some .int), Cond.fieldLink RX2 9 "MadeItSo$Drawing" "parents" "[I", Cond.static yX7_inHeap, Cond.initialized RX7, Cond.code yX7_inHeap cX7_inHeap 2 (some .boolean), Cond.static yX7_partsOf, Cond.code yX7_partsOf cX7_partsOf 1 (some .int), Cond.methodLink RX7 239 yJ6_bitCount_0f7a4, Cond.static yJ6_bitCount_0f7a4]
def wsX6_weigh_r2 : List Cond := [Cond.initialized RJ6, Cond.code yJ6_bitCount_0f7a4 cJ6_bitCount_0f7a4 1 (some .int), Cond.constant RJ6 265 (1431655765), Cond.constant RJ6 266 (858993459), Cond.constant RJ6 267 (252645135), Cond.static yX7_bit, Cond.code yX7_bit cX7_bit 1 (some .int), Cond.methodLink RX6 37 yX1_partsUnder, Cond.instanceMethod yX1_partsUnder, Cond.selects RX1 yX1_partsUnder yX1_partsUnder, Cond.initialized RX1, Cond.code yX1_partsUnder cX1_partsUnder 5 (some .int), Cond.static yX7_heapOf, Cond.code yX7_heapOf cX7_heapOf 1 (some .int), Cond.static yX7_onesOf, Cond.code yX7_onesOf cX7_onesOf 1 (some .int), Cond.methodLink RX1 29 yX2_parentsOf, Cond.instanceMethod yX2_parentsOf, Cond.selects RX2 yX2_parentsOf yX2_parentsOf, Cond.code yX2_parentsOf cX2_parentsOf 2 (some .int), Cond.methodLink RX2 22 yX2_has, Cond.instanceMethod yX2_has, Cond.selects RX2 yX2_has yX2_has, Cond.code yX2_has cX2_has 2 (some .boolean)]
def wsX6_weigh_r3 : List Cond := [Cond.methodLink RX1 34 yX1_rowOf, Cond.static yX1_rowOf, Cond.code yX1_rowOf cX1_rowOf 5 (some .int), Cond.methodLink RX1 38 yX1_read, Cond.instanceMethod yX1_read, Cond.selects RX1 yX1_read yX1_read, Cond.code yX1_read cX1_read 3 (some .int), Cond.fieldLink RX1 9 "MadeItSo$Books" "parts" "[I", Cond.methodLink RX1 15 yX1_isPlace, Cond.static yX1_isPlace, Cond.code yX1_isPlace cX1_isPlace 2 (some .boolean), Cond.methodLink RX6 43 yX6_split, Cond.instanceMethod yX6_split, Cond.selects RX6 yX6_split yX6_split, Cond.initialized RX6, Cond.code yX6_split cX6_split 6 none, Cond.static yX7_nextPart, Cond.code yX7_nextPart cX7_nextPart 2 (some .int)]
def wsX6_weigh : List Cond := .code yX6_weigh cX6_weigh 10 none :: ((wsX6_weigh_r1 ++ (wsX6_weigh_r2 ++ wsX6_weigh_r3)) ++ wsX60 ++ wsX20 ++ wsX10)
def wsX6_having : List Cond := .code yX6_having cX6_having 9 (some .long) :: ([.fieldLink RX6 15 "MadeItSo$Weights" "everything" "I", .fieldLink RX6 9 "MadeItSo$Weights" "ofCase" "[J", .static yX7_partsOf, .initialized RX7, .code yX7_partsOf cX7_partsOf 1 (some .int), .methodLink RX7 239 yJ6_bitCount_0f7a4, .static yJ6_bitCount_0f7a4, .initialized RJ6, .code yJ6_bitCount_0f7a4 cJ6_bitCount_0f7a4 1 (some .int), .constant RJ6 265 (1431655765), .constant RJ6 266 (858993459), .constant RJ6 267 (252645135), .static yX7_nextPart, .code yX7_nextPart cX7_nextPart 2 (some .int)] ++ wsX60)
def wsX7_init_r1 : List Cond := [Cond.methodLink RX7 3 objectInit, Cond.instanceMethod objectInit, Cond.code objectInit ⟨#[0xb1]⟩ 1 none, Cond.classLink RX7 9 RX2, Cond.instantiable RX2 3, Cond.initialized RX2, Cond.fieldLink RX7 12 "MadeItSo" "drawing" "LMadeItSo$Drawing;", Cond.fieldLink RX7 16 "MadeItSo" "thinned" "LMadeItSo$Drawing;", Cond.classLink RX7 19 RX1, Cond.instantiable RX1 1, Cond.initialized RX1, Cond.fieldLink RX7 22 "MadeItSo" "books" "LMadeItSo$Books;", Cond.classLink RX7 26 RX6, Cond.instantiable RX6 2, Cond.initialized RX6, Cond.fieldLink RX7 29 "MadeItSo" "weights" "LMadeItSo$Weights;", Cond.classLink RX7 33 RX5, Cond.instantiable RX5 3, Cond.initialized RX5, Cond.fieldLink RX7 36 "MadeItSo" "total" "LMadeItSo$Total;", Cond.classLink RX7 40 RX3, Cond.instantiable RX3 2, Cond.initialized RX3, Cond.fieldLink RX7 43 "MadeItSo" "leastHeaps" "LMadeItSo$LeastHeaps;"]
def wsX7_init_r2 : List Cond := [Cond.classLink RX7 47 RX4, Cond.instantiable RX4 1, Cond.initialized RX4, Cond.fieldLink RX7 50 "MadeItSo" "lookalikes" "LMadeItSo$Lookalikes;", Cond.fieldLink RX7 54 "MadeItSo" "seenHeap" "I", Cond.fieldLink RX7 58 "MadeItSo" "aboveLine" "J", Cond.fieldLink RX7 62 "MadeItSo" "belowLine" "J", Cond.instanceMethod yX2_init, Cond.code yX2_init cX2_init 1 none, Cond.methodLink RX2 3 objectInit, Cond.arrayClass .int, Cond.fieldLink RX2 9 "MadeItSo$Drawing" "parents" "[I", Cond.fieldLink RX2 15 "MadeItSo$Drawing" "children" "[I", Cond.fieldLink RX2 18 "MadeItSo$Drawing" "things" "I", Cond.instanceMethod yX1_init, Cond.code yX1_init cX1_init 1 none, Cond.methodLink RX1 3 objectInit, Cond.fieldLink RX1 9 "MadeItSo$Books" "parts" "[I", Cond.instanceMethod yX6_init, Cond.code yX6_init cX6_init 1 none, Cond.methodLink RX6 3 objectInit, Cond.arrayClass .long, Cond.fieldLink RX6 9 "MadeItSo$Weights" "ofCase" "[J", Cond.fieldLink RX6 15 "MadeItSo$Weights" "everything" "I"]
def wsX7_init_r3 : List Cond := [Cond.instanceMethod yX5_init, Cond.code yX5_init cX5_init 1 none, Cond.methodLink RX5 1 objectInit, Cond.classLink RX5 7 RX0, Cond.instantiable RX0 2, Cond.initialized RX0, Cond.fieldLink RX5 10 "MadeItSo$Total" "top" "LMadeItSo$Big;", Cond.fieldLink RX5 16 "MadeItSo$Total" "bottom" "LMadeItSo$Big;", Cond.fieldLink RX5 19 "MadeItSo$Total" "spare" "LMadeItSo$Big;", Cond.instanceMethod yX0_init, Cond.code yX0_init cX0_init 1 none, Cond.methodLink RX0 3 objectInit, Cond.fieldLink RX0 9 "MadeItSo$Big" "limbs" "[J", Cond.fieldLink RX0 13 "MadeItSo$Big" "used" "I", Cond.instanceMethod yX3_init, Cond.code yX3_init cX3_init 1 none, Cond.methodLink RX3 3 objectInit, Cond.fieldLink RX3 9 "MadeItSo$LeastHeaps" "found" "[I", Cond.fieldLink RX3 15 "MadeItSo$LeastHeaps" "many" "I", Cond.instanceMethod yX4_init, Cond.code yX4_init cX4_init 1 none, Cond.methodLink RX4 3 objectInit, Cond.fieldLink RX4 9 "MadeItSo$Lookalikes" "waysOf" "[I"]
def wsX7_init : List Cond := .code yX7_init cX7_init 1 none :: ((wsX7_init_r1 ++ (wsX7_init_r2 ++ wsX7_init_r3)) ++ wsX20 ++ wsX70 ++ wsX10 ++ wsX60 ++ wsX50 ++ wsX30 ++ wsX40 ++ wsX00)
def wsX7_thing : List Cond := .code yX7_thing cX7_thing 3 (some .int) :: ([.fieldLink RX7 12 "MadeItSo" "drawing" "LMadeItSo$Drawing;", .fieldLink RX7 22 "MadeItSo" "books" "LMadeItSo$Books;", .fieldLink RX7 54 "MadeItSo" "seenHeap" "I", .methodLink RX7 65 yX2_grow, .instanceMethod yX2_grow, .selects RX2 yX2_grow yX2_grow, .initialized RX2, .code yX2_grow cX2_grow 1 (some .int), .fieldLink RX2 18 "MadeItSo$Drawing" "things" "I", .methodLink RX7 69 yX1_blank, .instanceMethod yX1_blank, .selects RX1 yX1_blank yX1_blank, .initialized RX1, .code yX1_blank cX1_blank 3 none, .fieldLink RX1 9 "MadeItSo$Books" "parts" "[I", .methodLink RX7 73 yX7_bit, .static yX7_bit, .initialized RX7, .code yX7_bit cX7_bit 1 (some .int)] ++ wsX70 ++ wsX20 ++ wsX10)
def wsX7_arrow_r1 : List Cond := [Cond.fieldLink RX7 12 "MadeItSo" "drawing" "LMadeItSo$Drawing;", Cond.fieldLink RX7 22 "MadeItSo" "books" "LMadeItSo$Books;", Cond.methodLink RX7 77 yX2_has, Cond.instanceMethod yX2_has, Cond.selects RX2 yX2_has yX2_has, Cond.initialized RX2, Cond.code yX2_has cX2_has 2 (some .boolean), Cond.fieldLink RX2 18 "MadeItSo$Drawing" "things" "I", Cond.methodLink RX7 81 yX2_canJoin, Cond.instanceMethod yX2_canJoin, Cond.selects RX2 yX2_canJoin yX2_canJoin, Cond.code yX2_canJoin cX2_canJoin 3 (some .boolean), Cond.methodLink RX2 30 yX2_joinedTo, Cond.instanceMethod yX2_joinedTo, Cond.selects RX2 yX2_joinedTo yX2_joinedTo, Cond.code yX2_joinedTo cX2_joinedTo 2 (some .int), Cond.fieldLink RX2 9 "MadeItSo$Drawing" "parents" "[I", Cond.fieldLink RX2 15 "MadeItSo$Drawing" "children" "[I", Cond.methodLink RX2 22 yX2_has, Cond.static yX7_inHeap, Cond.initialized RX7, Cond.code yX7_inHeap cX7_inHeap 2 (some .boolean), Cond.methodLink RX2 34 yX2_allBelow, Cond.instanceMethod yX2_allBelow]
def wsX7_arrow_r2 : List Cond := [Cond.selects RX2 yX2_allBelow yX2_allBelow, Cond.code yX2_allBelow cX2_allBelow 2 (some .int), Cond.methodLink RX2 45 yX2_childrenOf, Cond.instanceMethod yX2_childrenOf, Cond.selects RX2 yX2_childrenOf yX2_childrenOf, Cond.code yX2_childrenOf cX2_childrenOf 2 (some .int), Cond.methodLink RX2 48 yX2_withAllBelow, Cond.instanceMethod yX2_withAllBelow, Cond.selects RX2 yX2_withAllBelow yX2_withAllBelow, Cond.code yX2_withAllBelow cX2_withAllBelow 2 (some .int), Cond.methodLink RX2 51 yX2_spread, Cond.instanceMethod yX2_spread, Cond.selects RX2 yX2_spread yX2_spread, Cond.code yX2_spread cX2_spread 6 (some .int), Cond.methodLink RX2 55 yX2_gather, Cond.static yX2_gather, Cond.code yX2_gather cX2_gather 4 (some .int), Cond.methodLink RX7 85 yX2_join, Cond.instanceMethod yX2_join, Cond.selects RX2 yX2_join yX2_join, Cond.code yX2_join cX2_join 3 none, Cond.static yX7_bit, Cond.code yX7_bit cX7_bit 1 (some .int), Cond.methodLink RX7 69 yX1_blank]
def wsX7_arrow_r3 : List Cond := [Cond.instanceMethod yX1_blank, Cond.selects RX1 yX1_blank yX1_blank, Cond.initialized RX1, Cond.code yX1_blank cX1_blank 3 none, Cond.fieldLink RX1 9 "MadeItSo$Books" "parts" "[I"]
def wsX7_arrow : List Cond := .code yX7_arrow cX7_arrow 3 (some .boolean) :: ((wsX7_arrow_r1 ++ (wsX7_arrow_r2 ++ wsX7_arrow_r3)) ++ wsX70 ++ wsX20 ++ wsX10)
def wsX7_cut_r1 : List Cond := [Cond.fieldLink RX7 12 "MadeItSo" "drawing" "LMadeItSo$Drawing;", Cond.fieldLink RX7 22 "MadeItSo" "books" "LMadeItSo$Books;", Cond.methodLink RX7 89 yX2_leads, Cond.instanceMethod yX2_leads, Cond.selects RX2 yX2_leads yX2_leads, Cond.initialized RX2, Cond.code yX2_leads cX2_leads 3 (some .boolean), Cond.fieldLink RX2 15 "MadeItSo$Drawing" "children" "[I", Cond.methodLink RX2 22 yX2_has, Cond.instanceMethod yX2_has, Cond.selects RX2 yX2_has yX2_has, Cond.code yX2_has cX2_has 2 (some .boolean), Cond.fieldLink RX2 18 "MadeItSo$Drawing" "things" "I", Cond.static yX7_inHeap, Cond.initialized RX7, Cond.code yX7_inHeap cX7_inHeap 2 (some .boolean), Cond.methodLink RX7 92 yX2_part, Cond.instanceMethod yX2_part, Cond.selects RX2 yX2_part yX2_part, Cond.code yX2_part cX2_part 3 none, Cond.fieldLink RX2 9 "MadeItSo$Drawing" "parents" "[I", Cond.static yX7_bit, Cond.code yX7_bit cX7_bit 1 (some .int), Cond.methodLink RX7 69 yX1_blank]
def wsX7_cut_r2 : List Cond := [Cond.instanceMethod yX1_blank, Cond.selects RX1 yX1_blank yX1_blank, Cond.initialized RX1, Cond.code yX1_blank cX1_blank 3 none, Cond.fieldLink RX1 9 "MadeItSo$Books" "parts" "[I"]
def wsX7_cut : List Cond := .code yX7_cut cX7_cut 3 (some .boolean) :: ((wsX7_cut_r1 ++ wsX7_cut_r2) ++ wsX70 ++ wsX20 ++ wsX10)
def wsX7_turn_r1 : List Cond := [Cond.fieldLink RX7 12 "MadeItSo" "drawing" "LMadeItSo$Drawing;", Cond.fieldLink RX7 22 "MadeItSo" "books" "LMadeItSo$Books;", Cond.methodLink RX7 89 yX2_leads, Cond.instanceMethod yX2_leads, Cond.selects RX2 yX2_leads yX2_leads, Cond.initialized RX2, Cond.code yX2_leads cX2_leads 3 (some .boolean), Cond.fieldLink RX2 15 "MadeItSo$Drawing" "children" "[I", Cond.methodLink RX2 22 yX2_has, Cond.instanceMethod yX2_has, Cond.selects RX2 yX2_has yX2_has, Cond.code yX2_has cX2_has 2 (some .boolean), Cond.fieldLink RX2 18 "MadeItSo$Drawing" "things" "I", Cond.static yX7_inHeap, Cond.initialized RX7, Cond.code yX7_inHeap cX7_inHeap 2 (some .boolean), Cond.methodLink RX7 92 yX2_part, Cond.instanceMethod yX2_part, Cond.selects RX2 yX2_part yX2_part, Cond.code yX2_part cX2_part 3 none, Cond.fieldLink RX2 9 "MadeItSo$Drawing" "parents" "[I", Cond.static yX7_bit, Cond.code yX7_bit cX7_bit 1 (some .int), Cond.methodLink RX7 81 yX2_canJoin]
def wsX7_turn_r2 : List Cond := [Cond.instanceMethod yX2_canJoin, Cond.selects RX2 yX2_canJoin yX2_canJoin, Cond.code yX2_canJoin cX2_canJoin 3 (some .boolean), Cond.methodLink RX2 30 yX2_joinedTo, Cond.instanceMethod yX2_joinedTo, Cond.selects RX2 yX2_joinedTo yX2_joinedTo, Cond.code yX2_joinedTo cX2_joinedTo 2 (some .int), Cond.methodLink RX2 34 yX2_allBelow, Cond.instanceMethod yX2_allBelow, Cond.selects RX2 yX2_allBelow yX2_allBelow, Cond.code yX2_allBelow cX2_allBelow 2 (some .int), Cond.methodLink RX2 45 yX2_childrenOf, Cond.instanceMethod yX2_childrenOf, Cond.selects RX2 yX2_childrenOf yX2_childrenOf, Cond.code yX2_childrenOf cX2_childrenOf 2 (some .int), Cond.methodLink RX2 48 yX2_withAllBelow, Cond.instanceMethod yX2_withAllBelow, Cond.selects RX2 yX2_withAllBelow yX2_withAllBelow, Cond.code yX2_withAllBelow cX2_withAllBelow 2 (some .int), Cond.methodLink RX2 51 yX2_spread, Cond.instanceMethod yX2_spread, Cond.selects RX2 yX2_spread yX2_spread, Cond.code yX2_spread cX2_spread 6 (some .int), Cond.methodLink RX2 55 yX2_gather]
def wsX7_turn_r3 : List Cond := [Cond.static yX2_gather, Cond.code yX2_gather cX2_gather 4 (some .int), Cond.methodLink RX7 85 yX2_join, Cond.instanceMethod yX2_join, Cond.selects RX2 yX2_join yX2_join, Cond.code yX2_join cX2_join 3 none, Cond.methodLink RX7 69 yX1_blank, Cond.instanceMethod yX1_blank, Cond.selects RX1 yX1_blank yX1_blank, Cond.initialized RX1, Cond.code yX1_blank cX1_blank 3 none, Cond.fieldLink RX1 9 "MadeItSo$Books" "parts" "[I"]
def wsX7_turn : List Cond := .code yX7_turn cX7_turn 3 (some .boolean) :: ((wsX7_turn_r1 ++ (wsX7_turn_r2 ++ wsX7_turn_r3)) ++ wsX70 ++ wsX20 ++ wsX10)
def wsX7_hasRow : List Cond := .code yX7_hasRow cX7_hasRow 3 (some .boolean) :: ([.fieldLink RX7 12 "MadeItSo" "drawing" "LMadeItSo$Drawing;", .methodLink RX7 77 yX2_has, .instanceMethod yX2_has, .selects RX2 yX2_has yX2_has, .initialized RX2, .code yX2_has cX2_has 2 (some .boolean), .fieldLink RX2 18 "MadeItSo$Drawing" "things" "I", .methodLink RX7 109 yX2_parentsOf, .instanceMethod yX2_parentsOf, .selects RX2 yX2_parentsOf yX2_parentsOf, .code yX2_parentsOf cX2_parentsOf 2 (some .int), .fieldLink RX2 9 "MadeItSo$Drawing" "parents" "[I", .methodLink RX2 22 yX2_has, .methodLink RX7 220 yX7_partsOf, .static yX7_partsOf, .initialized RX7, .code yX7_partsOf cX7_partsOf 1 (some .int), .methodLink RX7 239 yJ6_bitCount_0f7a4, .static yJ6_bitCount_0f7a4, .initialized RJ6, .code yJ6_bitCount_0f7a4 cJ6_bitCount_0f7a4 1 (some .int), .constant RJ6 265 (1431655765), .constant RJ6 266 (858993459), .constant RJ6 267 (252645135)] ++ wsX70 ++ wsX20)
def wsX7_book_r1 : List Cond := [Cond.fieldLink RX7 22 "MadeItSo" "books" "LMadeItSo$Books;", Cond.methodLink RX7 95 yX7_hasRow, Cond.instanceMethod yX7_hasRow, Cond.selects RX7 yX7_hasRow yX7_hasRow, Cond.initialized RX7, Cond.code yX7_hasRow cX7_hasRow 3 (some .boolean), Cond.fieldLink RX7 12 "MadeItSo" "drawing" "LMadeItSo$Drawing;", Cond.methodLink RX7 77 yX2_has, Cond.instanceMethod yX2_has, Cond.selects RX2 yX2_has yX2_has, Cond.initialized RX2, Cond.code yX2_has cX2_has 2 (some .boolean), Cond.fieldLink RX2 18 "MadeItSo$Drawing" "things" "I", Cond.methodLink RX7 109 yX2_parentsOf, Cond.instanceMethod yX2_parentsOf, Cond.selects RX2 yX2_parentsOf yX2_parentsOf, Cond.code yX2_parentsOf cX2_parentsOf 2 (some .int), Cond.fieldLink RX2 9 "MadeItSo$Drawing" "parents" "[I", Cond.methodLink RX2 22 yX2_has, Cond.methodLink RX7 220 yX7_partsOf, Cond.static yX7_partsOf, Cond.code yX7_partsOf cX7_partsOf 1 (some .int), Cond.methodLink RX7 239 yJ6_bitCount_0f7a4, Cond.static yJ6_bitCount_0f7a4]
def wsX7_book_r2 : List Cond := [Cond.initialized RJ6, Cond.code yJ6_bitCount_0f7a4 cJ6_bitCount_0f7a4 1 (some .int), Cond.constant RJ6 265 (1431655765), Cond.constant RJ6 266 (858993459), Cond.constant RJ6 267 (252645135), Cond.methodLink RX7 98 yX1_write, Cond.instanceMethod yX1_write, Cond.selects RX1 yX1_write yX1_write, Cond.initialized RX1, Cond.code yX1_write cX1_write 4 none, Cond.fieldLink RX1 9 "MadeItSo$Books" "parts" "[I", Cond.methodLink RX1 15 yX1_isPlace, Cond.static yX1_isPlace, Cond.code yX1_isPlace cX1_isPlace 2 (some .boolean)]
def wsX7_book : List Cond := .code yX7_book cX7_book 4 (some .boolean) :: ((wsX7_book_r1 ++ wsX7_book_r2) ++ wsX70 ++ wsX20 ++ wsX10)
def wsX7_booked_r1 : List Cond := [Cond.fieldLink RX7 22 "MadeItSo" "books" "LMadeItSo$Books;", Cond.methodLink RX7 95 yX7_hasRow, Cond.instanceMethod yX7_hasRow, Cond.selects RX7 yX7_hasRow yX7_hasRow, Cond.initialized RX7, Cond.code yX7_hasRow cX7_hasRow 3 (some .boolean), Cond.fieldLink RX7 12 "MadeItSo" "drawing" "LMadeItSo$Drawing;", Cond.methodLink RX7 77 yX2_has, Cond.instanceMethod yX2_has, Cond.selects RX2 yX2_has yX2_has, Cond.initialized RX2, Cond.code yX2_has cX2_has 2 (some .boolean), Cond.fieldLink RX2 18 "MadeItSo$Drawing" "things" "I", Cond.methodLink RX7 109 yX2_parentsOf, Cond.instanceMethod yX2_parentsOf, Cond.selects RX2 yX2_parentsOf yX2_parentsOf, Cond.code yX2_parentsOf cX2_parentsOf 2 (some .int), Cond.fieldLink RX2 9 "MadeItSo$Drawing" "parents" "[I", Cond.methodLink RX2 22 yX2_has, Cond.methodLink RX7 220 yX7_partsOf, Cond.static yX7_partsOf, Cond.code yX7_partsOf cX7_partsOf 1 (some .int), Cond.methodLink RX7 239 yJ6_bitCount_0f7a4, Cond.static yJ6_bitCount_0f7a4]
def wsX7_booked_r2 : List Cond := [Cond.initialized RJ6, Cond.code yJ6_bitCount_0f7a4 cJ6_bitCount_0f7a4 1 (some .int), Cond.constant RJ6 265 (1431655765), Cond.constant RJ6 266 (858993459), Cond.constant RJ6 267 (252645135), Cond.methodLink RX7 102 yX1_read, Cond.instanceMethod yX1_read, Cond.selects RX1 yX1_read yX1_read, Cond.initialized RX1, Cond.code yX1_read cX1_read 3 (some .int), Cond.fieldLink RX1 9 "MadeItSo$Books" "parts" "[I", Cond.methodLink RX1 15 yX1_isPlace, Cond.static yX1_isPlace, Cond.code yX1_isPlace cX1_isPlace 2 (some .boolean)]
def wsX7_booked : List Cond := .code yX7_booked cX7_booked 3 (some .int) :: ((wsX7_booked_r1 ++ wsX7_booked_r2) ++ wsX70 ++ wsX20 ++ wsX10)
def wsX7_told_r1 : List Cond := [Cond.fieldLink RX7 12 "MadeItSo" "drawing" "LMadeItSo$Drawing;", Cond.fieldLink RX7 54 "MadeItSo" "seenHeap" "I", Cond.methodLink RX7 77 yX2_has, Cond.instanceMethod yX2_has, Cond.selects RX2 yX2_has yX2_has, Cond.initialized RX2, Cond.code yX2_has cX2_has 2 (some .boolean), Cond.fieldLink RX2 18 "MadeItSo$Drawing" "things" "I", Cond.methodLink RX7 106 yX7_inHeap, Cond.static yX7_inHeap, Cond.initialized RX7, Cond.code yX7_inHeap cX7_inHeap 2 (some .boolean), Cond.methodLink RX7 109 yX2_parentsOf, Cond.instanceMethod yX2_parentsOf, Cond.selects RX2 yX2_parentsOf yX2_parentsOf, Cond.code yX2_parentsOf cX2_parentsOf 2 (some .int), Cond.fieldLink RX2 9 "MadeItSo$Drawing" "parents" "[I", Cond.methodLink RX2 22 yX2_has, Cond.methodLink RX7 112 yX2_childrenOf, Cond.instanceMethod yX2_childrenOf, Cond.selects RX2 yX2_childrenOf yX2_childrenOf, Cond.code yX2_childrenOf cX2_childrenOf 2 (some .int), Cond.fieldLink RX2 15 "MadeItSo$Drawing" "children" "[I", Cond.methodLink RX7 115 yX2_allBelow]
def wsX7_told_r2 : List Cond := [Cond.instanceMethod yX2_allBelow, Cond.selects RX2 yX2_allBelow yX2_allBelow, Cond.code yX2_allBelow cX2_allBelow 2 (some .int), Cond.methodLink RX2 45 yX2_childrenOf, Cond.methodLink RX2 48 yX2_withAllBelow, Cond.instanceMethod yX2_withAllBelow, Cond.selects RX2 yX2_withAllBelow yX2_withAllBelow, Cond.code yX2_withAllBelow cX2_withAllBelow 2 (some .int), Cond.methodLink RX2 51 yX2_spread, Cond.instanceMethod yX2_spread, Cond.selects RX2 yX2_spread yX2_spread, Cond.code yX2_spread cX2_spread 6 (some .int), Cond.methodLink RX2 55 yX2_gather, Cond.static yX2_gather, Cond.code yX2_gather cX2_gather 4 (some .int)]
def wsX7_told : List Cond := .code yX7_told cX7_told 3 (some .int) :: ((wsX7_told_r1 ++ wsX7_told_r2) ++ wsX70 ++ wsX20)
def wsX7_isHeap : List Cond := .code yX7_isHeap cX7_isHeap 2 (some .boolean) :: ([.fieldLink RX7 12 "MadeItSo" "drawing" "LMadeItSo$Drawing;", .methodLink RX7 223 yX2_everything, .instanceMethod yX2_everything, .selects RX2 yX2_everything yX2_everything, .initialized RX2, .code yX2_everything cX2_everything 1 (some .int), .fieldLink RX2 18 "MadeItSo$Drawing" "things" "I"] ++ wsX70 ++ wsX20)
def wsX7_isSetting : List Cond := .code yX7_isSetting cX7_isSetting 2 (some .boolean) :: ([.methodLink RX7 127 yX7_heapOf, .static yX7_heapOf, .initialized RX7, .code yX7_heapOf cX7_heapOf 1 (some .int), .methodLink RX7 144 yX7_isHeap, .instanceMethod yX7_isHeap, .selects RX7 yX7_isHeap yX7_isHeap, .code yX7_isHeap cX7_isHeap 2 (some .boolean), .fieldLink RX7 12 "MadeItSo" "drawing" "LMadeItSo$Drawing;", .methodLink RX7 223 yX2_everything, .instanceMethod yX2_everything, .selects RX2 yX2_everything yX2_everything, .initialized RX2, .code yX2_everything cX2_everything 1 (some .int), .fieldLink RX2 18 "MadeItSo$Drawing" "things" "I", .methodLink RX7 130 yX7_onesOf, .static yX7_onesOf, .code yX7_onesOf cX7_onesOf 1 (some .int)] ++ wsX70 ++ wsX20)
def wsX7_weight_r1 : List Cond := [Cond.constantLong RX7 121 (-1), Cond.fieldLink RX7 29 "MadeItSo" "weights" "LMadeItSo$Weights;", Cond.fieldLink RX7 12 "MadeItSo" "drawing" "LMadeItSo$Drawing;", Cond.fieldLink RX7 22 "MadeItSo" "books" "LMadeItSo$Books;", Cond.methodLink RX7 118 yX7_isSetting, Cond.instanceMethod yX7_isSetting, Cond.selects RX7 yX7_isSetting yX7_isSetting, Cond.initialized RX7, Cond.code yX7_isSetting cX7_isSetting 2 (some .boolean), Cond.methodLink RX7 127 yX7_heapOf, Cond.static yX7_heapOf, Cond.code yX7_heapOf cX7_heapOf 1 (some .int), Cond.methodLink RX7 144 yX7_isHeap, Cond.instanceMethod yX7_isHeap, Cond.selects RX7 yX7_isHeap yX7_isHeap, Cond.code yX7_isHeap cX7_isHeap 2 (some .boolean), Cond.methodLink RX7 223 yX2_everything, Cond.instanceMethod yX2_everything, Cond.selects RX2 yX2_everything yX2_everything, Cond.initialized RX2, Cond.code yX2_everything cX2_everything 1 (some .int), Cond.fieldLink RX2 18 "MadeItSo$Drawing" "things" "I", Cond.methodLink RX7 130 yX7_onesOf, Cond.static yX7_onesOf]
def wsX7_weight_r2 : List Cond := [Cond.code yX7_onesOf cX7_onesOf 1 (some .int), Cond.methodLink RX7 123 yX6_weigh, Cond.instanceMethod yX6_weigh, Cond.selects RX6 yX6_weigh yX6_weigh, Cond.initialized RX6, Cond.code yX6_weigh cX6_weigh 10 none, Cond.fieldLink RX6 15 "MadeItSo$Weights" "everything" "I", Cond.fieldLink RX6 9 "MadeItSo$Weights" "ofCase" "[J", Cond.methodLink RX6 19 yX2_everything, Cond.methodLink RX6 24 yX2_size, Cond.instanceMethod yX2_size, Cond.selects RX2 yX2_size yX2_size, Cond.code yX2_size cX2_size 1 (some .int), Cond.methodLink RX6 27 yX2_nextAfter, Cond.instanceMethod yX2_nextAfter, Cond.selects RX2 yX2_nextAfter yX2_nextAfter, Cond.code yX2_nextAfter cX2_nextAfter 3 (some .int), Cond.fieldLink RX2 9 "MadeItSo$Drawing" "parents" "[I", Cond.static yX7_inHeap, Cond.code yX7_inHeap cX7_inHeap 2 (some .boolean), Cond.static yX7_partsOf, Cond.code yX7_partsOf cX7_partsOf 1 (some .int), Cond.methodLink RX7 239 yJ6_bitCount_0f7a4, Cond.static yJ6_bitCount_0f7a4]
def wsX7_weight_r3 : List Cond := [Cond.initialized RJ6, Cond.code yJ6_bitCount_0f7a4 cJ6_bitCount_0f7a4 1 (some .int), Cond.constant RJ6 265 (1431655765), Cond.constant RJ6 266 (858993459), Cond.constant RJ6 267 (252645135), Cond.static yX7_bit, Cond.code yX7_bit cX7_bit 1 (some .int), Cond.methodLink RX6 37 yX1_partsUnder, Cond.instanceMethod yX1_partsUnder, Cond.selects RX1 yX1_partsUnder yX1_partsUnder, Cond.initialized RX1, Cond.code yX1_partsUnder cX1_partsUnder 5 (some .int), Cond.methodLink RX1 29 yX2_parentsOf, Cond.instanceMethod yX2_parentsOf, Cond.selects RX2 yX2_parentsOf yX2_parentsOf, Cond.code yX2_parentsOf cX2_parentsOf 2 (some .int), Cond.methodLink RX2 22 yX2_has, Cond.instanceMethod yX2_has, Cond.selects RX2 yX2_has yX2_has, Cond.code yX2_has cX2_has 2 (some .boolean), Cond.methodLink RX1 34 yX1_rowOf, Cond.static yX1_rowOf, Cond.code yX1_rowOf cX1_rowOf 5 (some .int), Cond.methodLink RX1 38 yX1_read]
def wsX7_weight_r4 : List Cond := [Cond.instanceMethod yX1_read, Cond.selects RX1 yX1_read yX1_read, Cond.code yX1_read cX1_read 3 (some .int), Cond.fieldLink RX1 9 "MadeItSo$Books" "parts" "[I", Cond.methodLink RX1 15 yX1_isPlace, Cond.static yX1_isPlace, Cond.code yX1_isPlace cX1_isPlace 2 (some .boolean), Cond.methodLink RX6 43 yX6_split, Cond.instanceMethod yX6_split, Cond.selects RX6 yX6_split yX6_split, Cond.code yX6_split cX6_split 6 none, Cond.static yX7_nextPart, Cond.code yX7_nextPart cX7_nextPart 2 (some .int), Cond.methodLink RX7 133 yX6_having, Cond.instanceMethod yX6_having, Cond.selects RX6 yX6_having yX6_having, Cond.code yX6_having cX6_having 9 (some .long)]
def wsX7_weight : List Cond := .code yX7_weight cX7_weight 3 (some .long) :: ((wsX7_weight_r1 ++ (wsX7_weight_r2 ++ (wsX7_weight_r3 ++ wsX7_weight_r4))) ++ wsX70 ++ wsX20 ++ wsX60 ++ wsX10)
def wsX7_clash : List Cond := .code yX7_clash cX7_clash 2 (some .boolean) :: ([.methodLink RX7 127 yX7_heapOf, .static yX7_heapOf, .initialized RX7, .code yX7_heapOf cX7_heapOf 1 (some .int), .methodLink RX7 130 yX7_onesOf, .static yX7_onesOf, .code yX7_onesOf cX7_onesOf 1 (some .int)])
def wsX7_chance_r1 : List Cond := [Cond.fieldLink RX7 58 "MadeItSo" "aboveLine" "J", Cond.fieldLink RX7 62 "MadeItSo" "belowLine" "J", Cond.fieldLink RX7 29 "MadeItSo" "weights" "LMadeItSo$Weights;", Cond.fieldLink RX7 12 "MadeItSo" "drawing" "LMadeItSo$Drawing;", Cond.fieldLink RX7 22 "MadeItSo" "books" "LMadeItSo$Books;", Cond.methodLink RX7 118 yX7_isSetting, Cond.instanceMethod yX7_isSetting, Cond.selects RX7 yX7_isSetting yX7_isSetting, Cond.initialized RX7, Cond.code yX7_isSetting cX7_isSetting 2 (some .boolean), Cond.methodLink RX7 127 yX7_heapOf, Cond.static yX7_heapOf, Cond.code yX7_heapOf cX7_heapOf 1 (some .int), Cond.methodLink RX7 144 yX7_isHeap, Cond.instanceMethod yX7_isHeap, Cond.selects RX7 yX7_isHeap yX7_isHeap, Cond.code yX7_isHeap cX7_isHeap 2 (some .boolean), Cond.methodLink RX7 223 yX2_everything, Cond.instanceMethod yX2_everything, Cond.selects RX2 yX2_everything yX2_everything, Cond.initialized RX2, Cond.code yX2_everything cX2_everything 1 (some .int), Cond.fieldLink RX2 18 "MadeItSo$Drawing" "things" "I", Cond.methodLink RX7 130 yX7_onesOf]
def wsX7_chance_r2 : List Cond := [Cond.static yX7_onesOf, Cond.code yX7_onesOf cX7_onesOf 1 (some .int), Cond.methodLink RX7 123 yX6_weigh, Cond.instanceMethod yX6_weigh, Cond.selects RX6 yX6_weigh yX6_weigh, Cond.initialized RX6, Cond.code yX6_weigh cX6_weigh 10 none, Cond.fieldLink RX6 15 "MadeItSo$Weights" "everything" "I", Cond.fieldLink RX6 9 "MadeItSo$Weights" "ofCase" "[J", Cond.methodLink RX6 19 yX2_everything, Cond.methodLink RX6 24 yX2_size, Cond.instanceMethod yX2_size, Cond.selects RX2 yX2_size yX2_size, Cond.code yX2_size cX2_size 1 (some .int), Cond.methodLink RX6 27 yX2_nextAfter, Cond.instanceMethod yX2_nextAfter, Cond.selects RX2 yX2_nextAfter yX2_nextAfter, Cond.code yX2_nextAfter cX2_nextAfter 3 (some .int), Cond.fieldLink RX2 9 "MadeItSo$Drawing" "parents" "[I", Cond.static yX7_inHeap, Cond.code yX7_inHeap cX7_inHeap 2 (some .boolean), Cond.static yX7_partsOf, Cond.code yX7_partsOf cX7_partsOf 1 (some .int), Cond.methodLink RX7 239 yJ6_bitCount_0f7a4]
def wsX7_chance_r3 : List Cond := [Cond.static yJ6_bitCount_0f7a4, Cond.initialized RJ6, Cond.code yJ6_bitCount_0f7a4 cJ6_bitCount_0f7a4 1 (some .int), Cond.constant RJ6 265 (1431655765), Cond.constant RJ6 266 (858993459), Cond.constant RJ6 267 (252645135), Cond.static yX7_bit, Cond.code yX7_bit cX7_bit 1 (some .int), Cond.methodLink RX6 37 yX1_partsUnder, Cond.instanceMethod yX1_partsUnder, Cond.selects RX1 yX1_partsUnder yX1_partsUnder, Cond.initialized RX1, Cond.code yX1_partsUnder cX1_partsUnder 5 (some .int), Cond.methodLink RX1 29 yX2_parentsOf, Cond.instanceMethod yX2_parentsOf, Cond.selects RX2 yX2_parentsOf yX2_parentsOf, Cond.code yX2_parentsOf cX2_parentsOf 2 (some .int), Cond.methodLink RX2 22 yX2_has, Cond.instanceMethod yX2_has, Cond.selects RX2 yX2_has yX2_has, Cond.code yX2_has cX2_has 2 (some .boolean), Cond.methodLink RX1 34 yX1_rowOf, Cond.static yX1_rowOf, Cond.code yX1_rowOf cX1_rowOf 5 (some .int)]
def wsX7_chance_r4 : List Cond := [Cond.methodLink RX1 38 yX1_read, Cond.instanceMethod yX1_read, Cond.selects RX1 yX1_read yX1_read, Cond.code yX1_read cX1_read 3 (some .int), Cond.fieldLink RX1 9 "MadeItSo$Books" "parts" "[I", Cond.methodLink RX1 15 yX1_isPlace, Cond.static yX1_isPlace, Cond.code yX1_isPlace cX1_isPlace 2 (some .boolean), Cond.methodLink RX6 43 yX6_split, Cond.instanceMethod yX6_split, Cond.selects RX6 yX6_split yX6_split, Cond.code yX6_split cX6_split 6 none, Cond.static yX7_nextPart, Cond.code yX7_nextPart cX7_nextPart 2 (some .int), Cond.methodLink RX7 133 yX6_having, Cond.instanceMethod yX6_having, Cond.selects RX6 yX6_having yX6_having, Cond.code yX6_having cX6_having 9 (some .long), Cond.methodLink RX7 137 yX7_clash, Cond.static yX7_clash, Cond.code yX7_clash cX7_clash 2 (some .boolean), Cond.methodLink RX7 140 yX7_commonDivisor, Cond.static yX7_commonDivisor, Cond.code yX7_commonDivisor cX7_commonDivisor 11 (some .long)]
def wsX7_chance_r5 : List Cond := [Cond.methodLink RX7 199 Lib.MathLoose.max_long.x, Cond.static Lib.MathLoose.max_long.x, Cond.initialized "java/lang/Math", Cond.code Lib.MathLoose.max_long.x Lib.MathLoose.max_long.code 4 (some .long)]
def wsX7_chance : List Cond := .code yX7_chance cX7_chance 10 (some .int) :: ((wsX7_chance_r1 ++ (wsX7_chance_r2 ++ (wsX7_chance_r3 ++ (wsX7_chance_r4 ++ wsX7_chance_r5)))) ++ wsX70 ++ wsX20 ++ wsX60 ++ wsX10)
def wsX7_above : List Cond := .code yX7_above cX7_above 1 (some .long) :: ([.fieldLink RX7 58 "MadeItSo" "aboveLine" "J"] ++ wsX70)
def wsX7_below : List Cond := .code yX7_below cX7_below 1 (some .long) :: ([.fieldLink RX7 62 "MadeItSo" "belowLine" "J"] ++ wsX70)
def wsX7_bars_r1 : List Cond := [Cond.fieldLink RX7 12 "MadeItSo" "drawing" "LMadeItSo$Drawing;", Cond.methodLink RX7 144 yX7_isHeap, Cond.instanceMethod yX7_isHeap, Cond.selects RX7 yX7_isHeap yX7_isHeap, Cond.initialized RX7, Cond.code yX7_isHeap cX7_isHeap 2 (some .boolean), Cond.methodLink RX7 223 yX2_everything, Cond.instanceMethod yX2_everything, Cond.selects RX2 yX2_everything yX2_everything, Cond.initialized RX2, Cond.code yX2_everything cX2_everything 1 (some .int), Cond.fieldLink RX2 18 "MadeItSo$Drawing" "things" "I", Cond.methodLink RX7 147 yX2_barred, Cond.instanceMethod yX2_barred, Cond.selects RX2 yX2_barred yX2_barred, Cond.code yX2_barred cX2_barred 12 (some .boolean), Cond.fieldLink RX2 9 "MadeItSo$Drawing" "parents" "[I", Cond.fieldLink RX2 15 "MadeItSo$Drawing" "children" "[I", Cond.methodLink RX2 51 yX2_spread, Cond.instanceMethod yX2_spread, Cond.selects RX2 yX2_spread yX2_spread, Cond.code yX2_spread cX2_spread 6 (some .int), Cond.methodLink RX2 55 yX2_gather, Cond.static yX2_gather]
def wsX7_bars_r2 : List Cond := [Cond.code yX2_gather cX2_gather 4 (some .int), Cond.static yX7_inHeap, Cond.code yX7_inHeap cX7_inHeap 2 (some .boolean)]
def wsX7_bars : List Cond := .code yX7_bars cX7_bars 4 (some .boolean) :: ((wsX7_bars_r1 ++ wsX7_bars_r2) ++ wsX70 ++ wsX20)
def wsX7_areTwo : List Cond := .code yX7_areTwo cX7_areTwo 3 (some .boolean) :: ([.fieldLink RX7 12 "MadeItSo" "drawing" "LMadeItSo$Drawing;", .methodLink RX7 77 yX2_has, .instanceMethod yX2_has, .selects RX2 yX2_has yX2_has, .initialized RX2, .code yX2_has cX2_has 2 (some .boolean), .fieldLink RX2 18 "MadeItSo$Drawing" "things" "I"] ++ wsX70 ++ wsX20)
def wsX7_least_r1 : List Cond := [Cond.fieldLink RX7 43 "MadeItSo" "leastHeaps" "LMadeItSo$LeastHeaps;", Cond.fieldLink RX7 12 "MadeItSo" "drawing" "LMadeItSo$Drawing;", Cond.fieldLink RX7 54 "MadeItSo" "seenHeap" "I", Cond.methodLink RX7 151 yX7_areTwo, Cond.instanceMethod yX7_areTwo, Cond.selects RX7 yX7_areTwo yX7_areTwo, Cond.initialized RX7, Cond.code yX7_areTwo cX7_areTwo 3 (some .boolean), Cond.methodLink RX7 77 yX2_has, Cond.instanceMethod yX2_has, Cond.selects RX2 yX2_has yX2_has, Cond.initialized RX2, Cond.code yX2_has cX2_has 2 (some .boolean), Cond.fieldLink RX2 18 "MadeItSo$Drawing" "things" "I", Cond.methodLink RX7 154 yX3_seek, Cond.instanceMethod yX3_seek, Cond.selects RX3 yX3_seek yX3_seek, Cond.initialized RX3, Cond.code yX3_seek cX3_seek 9 none, Cond.fieldLink RX3 15 "MadeItSo$LeastHeaps" "many" "I", Cond.fieldLink RX3 9 "MadeItSo$LeastHeaps" "found" "[I", Cond.static yX7_bit, Cond.code yX7_bit cX7_bit 1 (some .int), Cond.static yX7_partsOf]
def wsX7_least_r2 : List Cond := [Cond.code yX7_partsOf cX7_partsOf 1 (some .int), Cond.methodLink RX7 239 yJ6_bitCount_0f7a4, Cond.static yJ6_bitCount_0f7a4, Cond.initialized RJ6, Cond.code yJ6_bitCount_0f7a4 cJ6_bitCount_0f7a4 1 (some .int), Cond.constant RJ6 265 (1431655765), Cond.constant RJ6 266 (858993459), Cond.constant RJ6 267 (252645135), Cond.methodLink RX3 26 yX3_holdsOne, Cond.instanceMethod yX3_holdsOne, Cond.selects RX3 yX3_holdsOne yX3_holdsOne, Cond.code yX3_holdsOne cX3_holdsOne 3 (some .boolean), Cond.methodLink RX3 30 yX2_barred, Cond.instanceMethod yX2_barred, Cond.selects RX2 yX2_barred yX2_barred, Cond.code yX2_barred cX2_barred 12 (some .boolean), Cond.fieldLink RX2 9 "MadeItSo$Drawing" "parents" "[I", Cond.fieldLink RX2 15 "MadeItSo$Drawing" "children" "[I", Cond.methodLink RX2 51 yX2_spread, Cond.instanceMethod yX2_spread, Cond.selects RX2 yX2_spread yX2_spread, Cond.code yX2_spread cX2_spread 6 (some .int), Cond.methodLink RX2 55 yX2_gather, Cond.static yX2_gather]
def wsX7_least_r3 : List Cond := [Cond.code yX2_gather cX2_gather 4 (some .int), Cond.static yX7_inHeap, Cond.code yX7_inHeap cX7_inHeap 2 (some .boolean), Cond.static yX7_nextPart, Cond.code yX7_nextPart cX7_nextPart 2 (some .int), Cond.methodLink RX7 158 yX3_size, Cond.instanceMethod yX3_size, Cond.selects RX3 yX3_size yX3_size, Cond.code yX3_size cX3_size 1 (some .int)]
def wsX7_least : List Cond := .code yX7_least cX7_least 3 (some .int) :: ((wsX7_least_r1 ++ (wsX7_least_r2 ++ wsX7_least_r3)) ++ wsX70 ++ wsX20 ++ wsX30)
def wsX7_leastAt_r1 : List Cond := [Cond.fieldLink RX7 43 "MadeItSo" "leastHeaps" "LMadeItSo$LeastHeaps;", Cond.fieldLink RX7 12 "MadeItSo" "drawing" "LMadeItSo$Drawing;", Cond.fieldLink RX7 54 "MadeItSo" "seenHeap" "I", Cond.methodLink RX7 151 yX7_areTwo, Cond.instanceMethod yX7_areTwo, Cond.selects RX7 yX7_areTwo yX7_areTwo, Cond.initialized RX7, Cond.code yX7_areTwo cX7_areTwo 3 (some .boolean), Cond.methodLink RX7 77 yX2_has, Cond.instanceMethod yX2_has, Cond.selects RX2 yX2_has yX2_has, Cond.initialized RX2, Cond.code yX2_has cX2_has 2 (some .boolean), Cond.fieldLink RX2 18 "MadeItSo$Drawing" "things" "I", Cond.methodLink RX7 154 yX3_seek, Cond.instanceMethod yX3_seek, Cond.selects RX3 yX3_seek yX3_seek, Cond.initialized RX3, Cond.code yX3_seek cX3_seek 9 none, Cond.fieldLink RX3 15 "MadeItSo$LeastHeaps" "many" "I", Cond.fieldLink RX3 9 "MadeItSo$LeastHeaps" "found" "[I", Cond.static yX7_bit, Cond.code yX7_bit cX7_bit 1 (some .int), Cond.static yX7_partsOf]
def wsX7_leastAt_r2 : List Cond := [Cond.code yX7_partsOf cX7_partsOf 1 (some .int), Cond.methodLink RX7 239 yJ6_bitCount_0f7a4, Cond.static yJ6_bitCount_0f7a4, Cond.initialized RJ6, Cond.code yJ6_bitCount_0f7a4 cJ6_bitCount_0f7a4 1 (some .int), Cond.constant RJ6 265 (1431655765), Cond.constant RJ6 266 (858993459), Cond.constant RJ6 267 (252645135), Cond.methodLink RX3 26 yX3_holdsOne, Cond.instanceMethod yX3_holdsOne, Cond.selects RX3 yX3_holdsOne yX3_holdsOne, Cond.code yX3_holdsOne cX3_holdsOne 3 (some .boolean), Cond.methodLink RX3 30 yX2_barred, Cond.instanceMethod yX2_barred, Cond.selects RX2 yX2_barred yX2_barred, Cond.code yX2_barred cX2_barred 12 (some .boolean), Cond.fieldLink RX2 9 "MadeItSo$Drawing" "parents" "[I", Cond.fieldLink RX2 15 "MadeItSo$Drawing" "children" "[I", Cond.methodLink RX2 51 yX2_spread, Cond.instanceMethod yX2_spread, Cond.selects RX2 yX2_spread yX2_spread, Cond.code yX2_spread cX2_spread 6 (some .int), Cond.methodLink RX2 55 yX2_gather, Cond.static yX2_gather]
def wsX7_leastAt_r3 : List Cond := [Cond.code yX2_gather cX2_gather 4 (some .int), Cond.static yX7_inHeap, Cond.code yX7_inHeap cX7_inHeap 2 (some .boolean), Cond.static yX7_nextPart, Cond.code yX7_nextPart cX7_nextPart 2 (some .int), Cond.methodLink RX7 161 yX3_at, Cond.instanceMethod yX3_at, Cond.selects RX3 yX3_at yX3_at, Cond.code yX3_at cX3_at 2 (some .int)]
def wsX7_leastAt : List Cond := .code yX7_leastAt cX7_leastAt 4 (some .int) :: ((wsX7_leastAt_r1 ++ (wsX7_leastAt_r2 ++ wsX7_leastAt_r3)) ++ wsX70 ++ wsX20 ++ wsX30)
def wsX7_fit_r1 : List Cond := [Cond.fieldLink RX7 54 "MadeItSo" "seenHeap" "I", Cond.fieldLink RX7 12 "MadeItSo" "drawing" "LMadeItSo$Drawing;", Cond.fieldLink RX7 16 "MadeItSo" "thinned" "LMadeItSo$Drawing;", Cond.methodLink RX7 151 yX7_areTwo, Cond.instanceMethod yX7_areTwo, Cond.selects RX7 yX7_areTwo yX7_areTwo, Cond.initialized RX7, Cond.code yX7_areTwo cX7_areTwo 3 (some .boolean), Cond.methodLink RX7 77 yX2_has, Cond.instanceMethod yX2_has, Cond.selects RX2 yX2_has yX2_has, Cond.initialized RX2, Cond.code yX2_has cX2_has 2 (some .boolean), Cond.fieldLink RX2 18 "MadeItSo$Drawing" "things" "I", Cond.methodLink RX7 144 yX7_isHeap, Cond.instanceMethod yX7_isHeap, Cond.selects RX7 yX7_isHeap yX7_isHeap, Cond.code yX7_isHeap cX7_isHeap 2 (some .boolean), Cond.methodLink RX7 223 yX2_everything, Cond.instanceMethod yX2_everything, Cond.selects RX2 yX2_everything yX2_everything, Cond.code yX2_everything cX2_everything 1 (some .int), Cond.methodLink RX7 106 yX7_inHeap, Cond.static yX7_inHeap]
def wsX7_fit_r2 : List Cond := [Cond.code yX7_inHeap cX7_inHeap 2 (some .boolean), Cond.methodLink RX7 115 yX2_allBelow, Cond.instanceMethod yX2_allBelow, Cond.selects RX2 yX2_allBelow yX2_allBelow, Cond.code yX2_allBelow cX2_allBelow 2 (some .int), Cond.methodLink RX2 45 yX2_childrenOf, Cond.instanceMethod yX2_childrenOf, Cond.selects RX2 yX2_childrenOf yX2_childrenOf, Cond.code yX2_childrenOf cX2_childrenOf 2 (some .int), Cond.fieldLink RX2 15 "MadeItSo$Drawing" "children" "[I", Cond.methodLink RX2 22 yX2_has, Cond.methodLink RX2 48 yX2_withAllBelow, Cond.instanceMethod yX2_withAllBelow, Cond.selects RX2 yX2_withAllBelow yX2_withAllBelow, Cond.code yX2_withAllBelow cX2_withAllBelow 2 (some .int), Cond.methodLink RX2 51 yX2_spread, Cond.instanceMethod yX2_spread, Cond.selects RX2 yX2_spread yX2_spread, Cond.code yX2_spread cX2_spread 6 (some .int), Cond.methodLink RX2 55 yX2_gather, Cond.static yX2_gather, Cond.code yX2_gather cX2_gather 4 (some .int), Cond.methodLink RX7 73 yX7_bit, Cond.static yX7_bit]
def wsX7_fit_r3 : List Cond := [Cond.code yX7_bit cX7_bit 1 (some .int), Cond.methodLink RX7 147 yX2_barred, Cond.instanceMethod yX2_barred, Cond.selects RX2 yX2_barred yX2_barred, Cond.code yX2_barred cX2_barred 12 (some .boolean), Cond.fieldLink RX2 9 "MadeItSo$Drawing" "parents" "[I", Cond.methodLink RX7 164 yX2_road, Cond.instanceMethod yX2_road, Cond.selects RX2 yX2_road yX2_road, Cond.code yX2_road cX2_road 3 (some .int), Cond.methodLink RX2 34 yX2_allBelow, Cond.methodLink RX7 167 yX2_withAllBelow, Cond.methodLink RX7 170 yX2_copyWithout, Cond.instanceMethod yX2_copyWithout, Cond.selects RX2 yX2_copyWithout yX2_copyWithout, Cond.code yX2_copyWithout cX2_copyWithout 5 none]
def wsX7_fit : List Cond := .code yX7_fit cX7_fit 5 (some .boolean) :: ((wsX7_fit_r1 ++ (wsX7_fit_r2 ++ wsX7_fit_r3)) ++ wsX70 ++ wsX20)
def wsX7_isBit : List Cond := .code yX7_isBit cX7_isBit 1 (some .boolean) :: ([])
def wsX7_settingOf : List Cond := .code yX7_settingOf cX7_settingOf 2 (some .int) :: ([.methodLink RX7 73 yX7_bit, .static yX7_bit, .initialized RX7, .code yX7_bit cX7_bit 1 (some .int)])
def wsX7_sumOver_r1 : List Cond := [Cond.fieldLink RX7 36 "MadeItSo" "total" "LMadeItSo$Total;", Cond.fieldLink RX7 29 "MadeItSo" "weights" "LMadeItSo$Weights;", Cond.methodLink RX7 226 yX5_clear, Cond.instanceMethod yX5_clear, Cond.selects RX5 yX5_clear yX5_clear, Cond.initialized RX5, Cond.code yX5_clear cX5_clear 1 none, Cond.fieldLink RX5 10 "MadeItSo$Total" "top" "LMadeItSo$Big;", Cond.fieldLink RX5 16 "MadeItSo$Total" "bottom" "LMadeItSo$Big;", Cond.methodLink RX5 22 yX0_becomeDigit, Cond.instanceMethod yX0_becomeDigit, Cond.selects RX0 yX0_becomeDigit yX0_becomeDigit, Cond.initialized RX0, Cond.code yX0_becomeDigit cX0_becomeDigit 3 none, Cond.fieldLink RX0 13 "MadeItSo$Big" "used" "I", Cond.fieldLink RX0 9 "MadeItSo$Big" "limbs" "[J", Cond.methodLink RX0 17 yX0_trim, Cond.instanceMethod yX0_trim, Cond.selects RX0 yX0_trim yX0_trim, Cond.code yX0_trim cX0_trim 2 none, Cond.methodLink RX7 220 yX7_partsOf, Cond.static yX7_partsOf, Cond.initialized RX7, Cond.code yX7_partsOf cX7_partsOf 1 (some .int)]
def wsX7_sumOver_r2 : List Cond := [Cond.methodLink RX7 239 yJ6_bitCount_0f7a4, Cond.static yJ6_bitCount_0f7a4, Cond.initialized RJ6, Cond.code yJ6_bitCount_0f7a4 cJ6_bitCount_0f7a4 1 (some .int), Cond.constant RJ6 265 (1431655765), Cond.constant RJ6 266 (858993459), Cond.constant RJ6 267 (252645135), Cond.methodLink RX7 133 yX6_having, Cond.instanceMethod yX6_having, Cond.selects RX6 yX6_having yX6_having, Cond.initialized RX6, Cond.code yX6_having cX6_having 9 (some .long), Cond.fieldLink RX6 15 "MadeItSo$Weights" "everything" "I", Cond.fieldLink RX6 9 "MadeItSo$Weights" "ofCase" "[J", Cond.static yX7_nextPart, Cond.code yX7_nextPart cX7_nextPart 2 (some .int), Cond.methodLink RX7 127 yX7_heapOf, Cond.static yX7_heapOf, Cond.code yX7_heapOf cX7_heapOf 1 (some .int), Cond.methodLink RX7 130 yX7_onesOf, Cond.static yX7_onesOf, Cond.code yX7_onesOf cX7_onesOf 1 (some .int), Cond.methodLink RX7 137 yX7_clash, Cond.static yX7_clash]
def wsX7_sumOver_r3 : List Cond := [Cond.code yX7_clash cX7_clash 2 (some .boolean), Cond.methodLink RX7 229 yX5_add, Cond.instanceMethod yX5_add, Cond.selects RX5 yX5_add yX5_add, Cond.code yX5_add cX5_add 13 none, Cond.fieldLink RX5 19 "MadeItSo$Total" "spare" "LMadeItSo$Big;", Cond.static yX7_commonDivisor, Cond.code yX7_commonDivisor cX7_commonDivisor 11 (some .long), Cond.methodLink RX7 199 Lib.MathLoose.max_long.x, Cond.static Lib.MathLoose.max_long.x, Cond.initialized "java/lang/Math", Cond.code Lib.MathLoose.max_long.x Lib.MathLoose.max_long.code 4 (some .long), Cond.methodLink RX5 32 yX0_become, Cond.instanceMethod yX0_become, Cond.selects RX0 yX0_become yX0_become, Cond.code yX0_become cX0_become 4 none, Cond.methodLink RX0 20 Lib.Math.max.name, Cond.static Lib.Math.max.name, Cond.code Lib.Math.max.name Lib.Math.max.code 2 (some .int), Cond.methodLink RX5 36 yX0_times, Cond.instanceMethod yX0_times, Cond.selects RX0 yX0_times yX0_times, Cond.code yX0_times cX0_times 16 none, Cond.constantLong RX0 26 (1073741823)]
def wsX7_sumOver_r4 : List Cond := [Cond.methodLink RX0 28 Lib.Math.min.name, Cond.static Lib.Math.min.name, Cond.code Lib.Math.min.name Lib.Math.min.code 2 (some .int), Cond.methodLink RX5 40 yX0_plus, Cond.instanceMethod yX0_plus, Cond.selects RX0 yX0_plus yX0_plus, Cond.code yX0_plus cX0_plus 7 none, Cond.methodLink RX7 233 yX7_nextPart]
def wsX7_sumOver : List Cond := .code yX7_sumOver cX7_sumOver 12 (some .boolean) :: ((wsX7_sumOver_r1 ++ (wsX7_sumOver_r2 ++ (wsX7_sumOver_r3 ++ wsX7_sumOver_r4))) ++ wsX70 ++ wsX50 ++ wsX00 ++ wsX60)
def wsX7_agrees_r1 : List Cond := [Cond.fieldLink RX7 12 "MadeItSo" "drawing" "LMadeItSo$Drawing;", Cond.fieldLink RX7 29 "MadeItSo" "weights" "LMadeItSo$Weights;", Cond.fieldLink RX7 22 "MadeItSo" "books" "LMadeItSo$Books;", Cond.fieldLink RX7 36 "MadeItSo" "total" "LMadeItSo$Total;", Cond.methodLink RX7 77 yX2_has, Cond.instanceMethod yX2_has, Cond.selects RX2 yX2_has yX2_has, Cond.initialized RX2, Cond.code yX2_has cX2_has 2 (some .boolean), Cond.fieldLink RX2 18 "MadeItSo$Drawing" "things" "I", Cond.methodLink RX7 144 yX7_isHeap, Cond.instanceMethod yX7_isHeap, Cond.selects RX7 yX7_isHeap yX7_isHeap, Cond.initialized RX7, Cond.code yX7_isHeap cX7_isHeap 2 (some .boolean), Cond.methodLink RX7 223 yX2_everything, Cond.instanceMethod yX2_everything, Cond.selects RX2 yX2_everything yX2_everything, Cond.code yX2_everything cX2_everything 1 (some .int), Cond.methodLink RX7 106 yX7_inHeap, Cond.static yX7_inHeap, Cond.code yX7_inHeap cX7_inHeap 2 (some .boolean), Cond.methodLink RX7 174 yX7_isBit, Cond.static yX7_isBit]
def wsX7_agrees_r2 : List Cond := [Cond.code yX7_isBit cX7_isBit 1 (some .boolean), Cond.methodLink RX7 177 yX7_settingOf, Cond.static yX7_settingOf, Cond.code yX7_settingOf cX7_settingOf 2 (some .int), Cond.methodLink RX7 73 yX7_bit, Cond.static yX7_bit, Cond.code yX7_bit cX7_bit 1 (some .int), Cond.methodLink RX7 123 yX6_weigh, Cond.instanceMethod yX6_weigh, Cond.selects RX6 yX6_weigh yX6_weigh, Cond.initialized RX6, Cond.code yX6_weigh cX6_weigh 10 none, Cond.fieldLink RX6 15 "MadeItSo$Weights" "everything" "I", Cond.fieldLink RX6 9 "MadeItSo$Weights" "ofCase" "[J", Cond.methodLink RX6 19 yX2_everything, Cond.methodLink RX6 24 yX2_size, Cond.instanceMethod yX2_size, Cond.selects RX2 yX2_size yX2_size, Cond.code yX2_size cX2_size 1 (some .int), Cond.methodLink RX6 27 yX2_nextAfter, Cond.instanceMethod yX2_nextAfter, Cond.selects RX2 yX2_nextAfter yX2_nextAfter, Cond.code yX2_nextAfter cX2_nextAfter 3 (some .int), Cond.fieldLink RX2 9 "MadeItSo$Drawing" "parents" "[I"]
def wsX7_agrees_r3 : List Cond := [Cond.static yX7_partsOf, Cond.code yX7_partsOf cX7_partsOf 1 (some .int), Cond.methodLink RX7 239 yJ6_bitCount_0f7a4, Cond.static yJ6_bitCount_0f7a4, Cond.initialized RJ6, Cond.code yJ6_bitCount_0f7a4 cJ6_bitCount_0f7a4 1 (some .int), Cond.constant RJ6 265 (1431655765), Cond.constant RJ6 266 (858993459), Cond.constant RJ6 267 (252645135), Cond.methodLink RX6 37 yX1_partsUnder, Cond.instanceMethod yX1_partsUnder, Cond.selects RX1 yX1_partsUnder yX1_partsUnder, Cond.initialized RX1, Cond.code yX1_partsUnder cX1_partsUnder 5 (some .int), Cond.static yX7_heapOf, Cond.code yX7_heapOf cX7_heapOf 1 (some .int), Cond.static yX7_onesOf, Cond.code yX7_onesOf cX7_onesOf 1 (some .int), Cond.methodLink RX1 29 yX2_parentsOf, Cond.instanceMethod yX2_parentsOf, Cond.selects RX2 yX2_parentsOf yX2_parentsOf, Cond.code yX2_parentsOf cX2_parentsOf 2 (some .int), Cond.methodLink RX2 22 yX2_has, Cond.methodLink RX1 34 yX1_rowOf]
def wsX7_agrees_r4 : List Cond := [Cond.static yX1_rowOf, Cond.code yX1_rowOf cX1_rowOf 5 (some .int), Cond.methodLink RX1 38 yX1_read, Cond.instanceMethod yX1_read, Cond.selects RX1 yX1_read yX1_read, Cond.code yX1_read cX1_read 3 (some .int), Cond.fieldLink RX1 9 "MadeItSo$Books" "parts" "[I", Cond.methodLink RX1 15 yX1_isPlace, Cond.static yX1_isPlace, Cond.code yX1_isPlace cX1_isPlace 2 (some .boolean), Cond.methodLink RX6 43 yX6_split, Cond.instanceMethod yX6_split, Cond.selects RX6 yX6_split yX6_split, Cond.code yX6_split cX6_split 6 none, Cond.static yX7_nextPart, Cond.code yX7_nextPart cX7_nextPart 2 (some .int), Cond.methodLink RX7 130 yX7_onesOf, Cond.methodLink RX7 133 yX6_having, Cond.instanceMethod yX6_having, Cond.selects RX6 yX6_having yX6_having, Cond.code yX6_having cX6_having 9 (some .long), Cond.methodLink RX7 180 yX7_sumOver, Cond.instanceMethod yX7_sumOver, Cond.selects RX7 yX7_sumOver yX7_sumOver]
def wsX7_agrees_r5 : List Cond := [Cond.code yX7_sumOver cX7_sumOver 12 (some .boolean), Cond.methodLink RX7 226 yX5_clear, Cond.instanceMethod yX5_clear, Cond.selects RX5 yX5_clear yX5_clear, Cond.initialized RX5, Cond.code yX5_clear cX5_clear 1 none, Cond.fieldLink RX5 10 "MadeItSo$Total" "top" "LMadeItSo$Big;", Cond.fieldLink RX5 16 "MadeItSo$Total" "bottom" "LMadeItSo$Big;", Cond.methodLink RX5 22 yX0_becomeDigit, Cond.instanceMethod yX0_becomeDigit, Cond.selects RX0 yX0_becomeDigit yX0_becomeDigit, Cond.initialized RX0, Cond.code yX0_becomeDigit cX0_becomeDigit 3 none, Cond.fieldLink RX0 13 "MadeItSo$Big" "used" "I", Cond.fieldLink RX0 9 "MadeItSo$Big" "limbs" "[J", Cond.methodLink RX0 17 yX0_trim, Cond.instanceMethod yX0_trim, Cond.selects RX0 yX0_trim yX0_trim, Cond.code yX0_trim cX0_trim 2 none, Cond.methodLink RX7 220 yX7_partsOf, Cond.methodLink RX7 127 yX7_heapOf, Cond.methodLink RX7 137 yX7_clash, Cond.static yX7_clash, Cond.code yX7_clash cX7_clash 2 (some .boolean)]
def wsX7_agrees_r6 : List Cond := [Cond.methodLink RX7 229 yX5_add, Cond.instanceMethod yX5_add, Cond.selects RX5 yX5_add yX5_add, Cond.code yX5_add cX5_add 13 none, Cond.fieldLink RX5 19 "MadeItSo$Total" "spare" "LMadeItSo$Big;", Cond.static yX7_commonDivisor, Cond.code yX7_commonDivisor cX7_commonDivisor 11 (some .long), Cond.methodLink RX7 199 Lib.MathLoose.max_long.x, Cond.static Lib.MathLoose.max_long.x, Cond.initialized "java/lang/Math", Cond.code Lib.MathLoose.max_long.x Lib.MathLoose.max_long.code 4 (some .long), Cond.methodLink RX5 32 yX0_become, Cond.instanceMethod yX0_become, Cond.selects RX0 yX0_become yX0_become, Cond.code yX0_become cX0_become 4 none, Cond.methodLink RX0 20 Lib.Math.max.name, Cond.static Lib.Math.max.name, Cond.code Lib.Math.max.name Lib.Math.max.code 2 (some .int), Cond.methodLink RX5 36 yX0_times, Cond.instanceMethod yX0_times, Cond.selects RX0 yX0_times yX0_times, Cond.code yX0_times cX0_times 16 none, Cond.constantLong RX0 26 (1073741823), Cond.methodLink RX0 28 Lib.Math.min.name]
def wsX7_agrees_r7 : List Cond := [Cond.static Lib.Math.min.name, Cond.code Lib.Math.min.name Lib.Math.min.code 2 (some .int), Cond.methodLink RX5 40 yX0_plus, Cond.instanceMethod yX0_plus, Cond.selects RX0 yX0_plus yX0_plus, Cond.code yX0_plus cX0_plus 7 none, Cond.methodLink RX7 233 yX7_nextPart, Cond.methodLink RX7 183 yX5_is, Cond.instanceMethod yX5_is, Cond.selects RX5 yX5_is yX5_is, Cond.code yX5_is cX5_is 3 (some .boolean), Cond.methodLink RX5 43 yX0_same, Cond.instanceMethod yX0_same, Cond.selects RX0 yX0_same yX0_same, Cond.code yX0_same cX0_same 3 (some .boolean)]
def wsX7_agrees : List Cond := .code yX7_agrees cX7_agrees 8 (some .int) :: ((wsX7_agrees_r1 ++ (wsX7_agrees_r2 ++ (wsX7_agrees_r3 ++ (wsX7_agrees_r4 ++ (wsX7_agrees_r5 ++ (wsX7_agrees_r6 ++ wsX7_agrees_r7)))))) ++ wsX70 ++ wsX20 ++ wsX60 ++ wsX10 ++ wsX50 ++ wsX00)
def wsX7_alike_r1 : List Cond := [Cond.fieldLink RX7 50 "MadeItSo" "lookalikes" "LMadeItSo$Lookalikes;", Cond.fieldLink RX7 12 "MadeItSo" "drawing" "LMadeItSo$Drawing;", Cond.methodLink RX7 187 yX4_reckon, Cond.instanceMethod yX4_reckon, Cond.selects RX4 yX4_reckon yX4_reckon, Cond.initialized RX4, Cond.code yX4_reckon cX4_reckon 7 (some .int), Cond.fieldLink RX4 9 "MadeItSo$Lookalikes" "waysOf" "[I", Cond.methodLink RX4 15 yX2_everything, Cond.instanceMethod yX2_everything, Cond.selects RX2 yX2_everything yX2_everything, Cond.initialized RX2, Cond.code yX2_everything cX2_everything 1 (some .int), Cond.fieldLink RX2 18 "MadeItSo$Drawing" "things" "I", Cond.methodLink RX4 21 yX4_canBeLast, Cond.static yX4_canBeLast, Cond.code yX4_canBeLast cX4_canBeLast 4 (some .int), Cond.methodLink RX4 53 yX2_size, Cond.instanceMethod yX2_size, Cond.selects RX2 yX2_size yX2_size, Cond.code yX2_size cX2_size 1 (some .int), Cond.static yX7_inHeap, Cond.initialized RX7, Cond.code yX7_inHeap cX7_inHeap 2 (some .boolean)]
def wsX7_alike_r2 : List Cond := [Cond.methodLink RX4 56 yX2_joinedTo, Cond.instanceMethod yX2_joinedTo, Cond.selects RX2 yX2_joinedTo yX2_joinedTo, Cond.code yX2_joinedTo cX2_joinedTo 2 (some .int), Cond.fieldLink RX2 9 "MadeItSo$Drawing" "parents" "[I", Cond.fieldLink RX2 15 "MadeItSo$Drawing" "children" "[I", Cond.methodLink RX2 22 yX2_has, Cond.instanceMethod yX2_has, Cond.selects RX2 yX2_has yX2_has, Cond.code yX2_has cX2_has 2 (some .boolean), Cond.methodLink RX4 59 yX2_sameThirds, Cond.instanceMethod yX2_sameThirds, Cond.selects RX2 yX2_sameThirds yX2_sameThirds, Cond.code yX2_sameThirds cX2_sameThirds 5 (some .boolean), Cond.methodLink RX2 58 yX2_parentsOf, Cond.instanceMethod yX2_parentsOf, Cond.selects RX2 yX2_parentsOf yX2_parentsOf, Cond.code yX2_parentsOf cX2_parentsOf 2 (some .int), Cond.methodLink RX2 61 yX2_unjoinedWith, Cond.instanceMethod yX2_unjoinedWith, Cond.selects RX2 yX2_unjoinedWith yX2_unjoinedWith, Cond.code yX2_unjoinedWith cX2_unjoinedWith 3 (some .int), Cond.methodLink RX2 30 yX2_joinedTo, Cond.static yX7_bit]
def wsX7_alike_r3 : List Cond := [Cond.code yX7_bit cX7_bit 1 (some .int), Cond.methodLink RX4 33 yX4_waysEndingIn, Cond.instanceMethod yX4_waysEndingIn, Cond.selects RX4 yX4_waysEndingIn yX4_waysEndingIn, Cond.code yX4_waysEndingIn cX4_waysEndingIn 9 (some .int), Cond.static yX7_partsOf, Cond.code yX7_partsOf cX7_partsOf 1 (some .int), Cond.methodLink RX7 239 yJ6_bitCount_0f7a4, Cond.static yJ6_bitCount_0f7a4, Cond.initialized RJ6, Cond.code yJ6_bitCount_0f7a4 cJ6_bitCount_0f7a4 1 (some .int), Cond.constant RJ6 265 (1431655765), Cond.constant RJ6 266 (858993459), Cond.constant RJ6 267 (252645135), Cond.static yX7_nextPart, Cond.code yX7_nextPart cX7_nextPart 2 (some .int), Cond.methodLink RX4 44 yX2_apart, Cond.instanceMethod yX2_apart, Cond.selects RX2 yX2_apart yX2_apart, Cond.code yX2_apart cX2_apart 3 (some .boolean), Cond.methodLink RX4 48 yJ6_bitCount_0f7a4]
def wsX7_alike : List Cond := .code yX7_alike cX7_alike 1 (some .int) :: ((wsX7_alike_r1 ++ (wsX7_alike_r2 ++ wsX7_alike_r3)) ++ wsX70 ++ wsX40 ++ wsX20)
def wsX7_fixed_r1 : List Cond := [Cond.fieldLink RX7 12 "MadeItSo" "drawing" "LMadeItSo$Drawing;", Cond.fieldLink RX7 50 "MadeItSo" "lookalikes" "LMadeItSo$Lookalikes;", Cond.methodLink RX7 89 yX2_leads, Cond.instanceMethod yX2_leads, Cond.selects RX2 yX2_leads yX2_leads, Cond.initialized RX2, Cond.code yX2_leads cX2_leads 3 (some .boolean), Cond.fieldLink RX2 15 "MadeItSo$Drawing" "children" "[I", Cond.methodLink RX2 22 yX2_has, Cond.instanceMethod yX2_has, Cond.selects RX2 yX2_has yX2_has, Cond.code yX2_has cX2_has 2 (some .boolean), Cond.fieldLink RX2 18 "MadeItSo$Drawing" "things" "I", Cond.static yX7_inHeap, Cond.initialized RX7, Cond.code yX7_inHeap cX7_inHeap 2 (some .boolean), Cond.methodLink RX7 187 yX4_reckon, Cond.instanceMethod yX4_reckon, Cond.selects RX4 yX4_reckon yX4_reckon, Cond.initialized RX4, Cond.code yX4_reckon cX4_reckon 7 (some .int), Cond.fieldLink RX4 9 "MadeItSo$Lookalikes" "waysOf" "[I", Cond.methodLink RX4 15 yX2_everything, Cond.instanceMethod yX2_everything]
def wsX7_fixed_r2 : List Cond := [Cond.selects RX2 yX2_everything yX2_everything, Cond.code yX2_everything cX2_everything 1 (some .int), Cond.methodLink RX4 21 yX4_canBeLast, Cond.static yX4_canBeLast, Cond.code yX4_canBeLast cX4_canBeLast 4 (some .int), Cond.methodLink RX4 53 yX2_size, Cond.instanceMethod yX2_size, Cond.selects RX2 yX2_size yX2_size, Cond.code yX2_size cX2_size 1 (some .int), Cond.methodLink RX4 56 yX2_joinedTo, Cond.instanceMethod yX2_joinedTo, Cond.selects RX2 yX2_joinedTo yX2_joinedTo, Cond.code yX2_joinedTo cX2_joinedTo 2 (some .int), Cond.fieldLink RX2 9 "MadeItSo$Drawing" "parents" "[I", Cond.methodLink RX4 59 yX2_sameThirds, Cond.instanceMethod yX2_sameThirds, Cond.selects RX2 yX2_sameThirds yX2_sameThirds, Cond.code yX2_sameThirds cX2_sameThirds 5 (some .boolean), Cond.methodLink RX2 58 yX2_parentsOf, Cond.instanceMethod yX2_parentsOf, Cond.selects RX2 yX2_parentsOf yX2_parentsOf, Cond.code yX2_parentsOf cX2_parentsOf 2 (some .int), Cond.methodLink RX2 61 yX2_unjoinedWith, Cond.instanceMethod yX2_unjoinedWith]
def wsX7_fixed_r3 : List Cond := [Cond.selects RX2 yX2_unjoinedWith yX2_unjoinedWith, Cond.code yX2_unjoinedWith cX2_unjoinedWith 3 (some .int), Cond.methodLink RX2 30 yX2_joinedTo, Cond.static yX7_bit, Cond.code yX7_bit cX7_bit 1 (some .int), Cond.methodLink RX4 33 yX4_waysEndingIn, Cond.instanceMethod yX4_waysEndingIn, Cond.selects RX4 yX4_waysEndingIn yX4_waysEndingIn, Cond.code yX4_waysEndingIn cX4_waysEndingIn 9 (some .int), Cond.static yX7_partsOf, Cond.code yX7_partsOf cX7_partsOf 1 (some .int), Cond.methodLink RX7 239 yJ6_bitCount_0f7a4, Cond.static yJ6_bitCount_0f7a4, Cond.initialized RJ6, Cond.code yJ6_bitCount_0f7a4 cJ6_bitCount_0f7a4 1 (some .int), Cond.constant RJ6 265 (1431655765), Cond.constant RJ6 266 (858993459), Cond.constant RJ6 267 (252645135), Cond.static yX7_nextPart, Cond.code yX7_nextPart cX7_nextPart 2 (some .int), Cond.methodLink RX4 44 yX2_apart, Cond.instanceMethod yX2_apart, Cond.selects RX2 yX2_apart yX2_apart, Cond.code yX2_apart cX2_apart 3 (some .boolean)]
def wsX7_fixed_r4 : List Cond := [Cond.methodLink RX4 48 yJ6_bitCount_0f7a4]
def wsX7_fixed : List Cond := .code yX7_fixed cX7_fixed 3 (some .boolean) :: ((wsX7_fixed_r1 ++ (wsX7_fixed_r2 ++ (wsX7_fixed_r3 ++ wsX7_fixed_r4))) ++ wsX70 ++ wsX20 ++ wsX40)
def wsX7_leastOfBoth_r1 : List Cond := [Cond.fieldLink RX7 29 "MadeItSo" "weights" "LMadeItSo$Weights;", Cond.methodLink RX7 199 Lib.MathLoose.max_long.x, Cond.static Lib.MathLoose.max_long.x, Cond.initialized "java/lang/Math", Cond.code Lib.MathLoose.max_long.x Lib.MathLoose.max_long.code 4 (some .long), Cond.methodLink RX7 73 yX7_bit, Cond.static yX7_bit, Cond.initialized RX7, Cond.code yX7_bit cX7_bit 1 (some .int), Cond.methodLink RX7 133 yX6_having, Cond.instanceMethod yX6_having, Cond.selects RX6 yX6_having yX6_having, Cond.initialized RX6, Cond.code yX6_having cX6_having 9 (some .long), Cond.fieldLink RX6 15 "MadeItSo$Weights" "everything" "I", Cond.fieldLink RX6 9 "MadeItSo$Weights" "ofCase" "[J", Cond.static yX7_partsOf, Cond.code yX7_partsOf cX7_partsOf 1 (some .int), Cond.methodLink RX7 239 yJ6_bitCount_0f7a4, Cond.static yJ6_bitCount_0f7a4, Cond.initialized RJ6, Cond.code yJ6_bitCount_0f7a4 cJ6_bitCount_0f7a4 1 (some .int), Cond.constant RJ6 265 (1431655765), Cond.constant RJ6 266 (858993459)]
def wsX7_leastOfBoth_r2 : List Cond := [Cond.constant RJ6 267 (252645135), Cond.static yX7_nextPart, Cond.code yX7_nextPart cX7_nextPart 2 (some .int)]
def wsX7_leastOfBoth : List Cond := .code yX7_leastOfBoth cX7_leastOfBoth 10 (some .long) :: ((wsX7_leastOfBoth_r1 ++ wsX7_leastOfBoth_r2) ++ wsX70 ++ wsX60)
def wsX7_mostOfBoth_r1 : List Cond := [Cond.fieldLink RX7 29 "MadeItSo" "weights" "LMadeItSo$Weights;", Cond.methodLink RX7 236 Lib.MathLoose.min_long.x, Cond.static Lib.MathLoose.min_long.x, Cond.initialized "java/lang/Math", Cond.code Lib.MathLoose.min_long.x Lib.MathLoose.min_long.code 4 (some .long), Cond.methodLink RX7 73 yX7_bit, Cond.static yX7_bit, Cond.initialized RX7, Cond.code yX7_bit cX7_bit 1 (some .int), Cond.methodLink RX7 133 yX6_having, Cond.instanceMethod yX6_having, Cond.selects RX6 yX6_having yX6_having, Cond.initialized RX6, Cond.code yX6_having cX6_having 9 (some .long), Cond.fieldLink RX6 15 "MadeItSo$Weights" "everything" "I", Cond.fieldLink RX6 9 "MadeItSo$Weights" "ofCase" "[J", Cond.static yX7_partsOf, Cond.code yX7_partsOf cX7_partsOf 1 (some .int), Cond.methodLink RX7 239 yJ6_bitCount_0f7a4, Cond.static yJ6_bitCount_0f7a4, Cond.initialized RJ6, Cond.code yJ6_bitCount_0f7a4 cJ6_bitCount_0f7a4 1 (some .int), Cond.constant RJ6 265 (1431655765), Cond.constant RJ6 266 (858993459)]
def wsX7_mostOfBoth_r2 : List Cond := [Cond.constant RJ6 267 (252645135), Cond.static yX7_nextPart, Cond.code yX7_nextPart cX7_nextPart 2 (some .int)]
def wsX7_mostOfBoth : List Cond := .code yX7_mostOfBoth cX7_mostOfBoth 14 (some .long) :: ((wsX7_mostOfBoth_r1 ++ wsX7_mostOfBoth_r2) ++ wsX70 ++ wsX60)
def wsX7_mostOfNeed_r1 : List Cond := [Cond.fieldLink RX7 29 "MadeItSo" "weights" "LMadeItSo$Weights;", Cond.methodLink RX7 236 Lib.MathLoose.min_long.x, Cond.static Lib.MathLoose.min_long.x, Cond.initialized "java/lang/Math", Cond.code Lib.MathLoose.min_long.x Lib.MathLoose.min_long.code 4 (some .long), Cond.methodLink RX7 73 yX7_bit, Cond.static yX7_bit, Cond.initialized RX7, Cond.code yX7_bit cX7_bit 1 (some .int), Cond.methodLink RX7 133 yX6_having, Cond.instanceMethod yX6_having, Cond.selects RX6 yX6_having yX6_having, Cond.initialized RX6, Cond.code yX6_having cX6_having 9 (some .long), Cond.fieldLink RX6 15 "MadeItSo$Weights" "everything" "I", Cond.fieldLink RX6 9 "MadeItSo$Weights" "ofCase" "[J", Cond.static yX7_partsOf, Cond.code yX7_partsOf cX7_partsOf 1 (some .int), Cond.methodLink RX7 239 yJ6_bitCount_0f7a4, Cond.static yJ6_bitCount_0f7a4, Cond.initialized RJ6, Cond.code yJ6_bitCount_0f7a4 cJ6_bitCount_0f7a4 1 (some .int), Cond.constant RJ6 265 (1431655765), Cond.constant RJ6 266 (858993459)]
def wsX7_mostOfNeed_r2 : List Cond := [Cond.constant RJ6 267 (252645135), Cond.static yX7_nextPart, Cond.code yX7_nextPart cX7_nextPart 2 (some .int)]
def wsX7_mostOfNeed : List Cond := .code yX7_mostOfNeed cX7_mostOfNeed 8 (some .long) :: ((wsX7_mostOfNeed_r1 ++ wsX7_mostOfNeed_r2) ++ wsX70 ++ wsX60)
def wsX7_otherwise_r1 : List Cond := [Cond.constantLong RX7 121 (-1), Cond.fieldLink RX7 29 "MadeItSo" "weights" "LMadeItSo$Weights;", Cond.fieldLink RX7 12 "MadeItSo" "drawing" "LMadeItSo$Drawing;", Cond.fieldLink RX7 22 "MadeItSo" "books" "LMadeItSo$Books;", Cond.methodLink RX7 199 Lib.MathLoose.max_long.x, Cond.static Lib.MathLoose.max_long.x, Cond.initialized "java/lang/Math", Cond.code Lib.MathLoose.max_long.x Lib.MathLoose.max_long.code 4 (some .long), Cond.methodLink RX7 151 yX7_areTwo, Cond.instanceMethod yX7_areTwo, Cond.selects RX7 yX7_areTwo yX7_areTwo, Cond.initialized RX7, Cond.code yX7_areTwo cX7_areTwo 3 (some .boolean), Cond.methodLink RX7 77 yX2_has, Cond.instanceMethod yX2_has, Cond.selects RX2 yX2_has yX2_has, Cond.initialized RX2, Cond.code yX2_has cX2_has 2 (some .boolean), Cond.fieldLink RX2 18 "MadeItSo$Drawing" "things" "I", Cond.methodLink RX7 177 yX7_settingOf, Cond.static yX7_settingOf, Cond.code yX7_settingOf cX7_settingOf 2 (some .int), Cond.methodLink RX7 73 yX7_bit, Cond.static yX7_bit]
def wsX7_otherwise_r2 : List Cond := [Cond.code yX7_bit cX7_bit 1 (some .int), Cond.methodLink RX7 123 yX6_weigh, Cond.instanceMethod yX6_weigh, Cond.selects RX6 yX6_weigh yX6_weigh, Cond.initialized RX6, Cond.code yX6_weigh cX6_weigh 10 none, Cond.fieldLink RX6 15 "MadeItSo$Weights" "everything" "I", Cond.fieldLink RX6 9 "MadeItSo$Weights" "ofCase" "[J", Cond.methodLink RX6 19 yX2_everything, Cond.instanceMethod yX2_everything, Cond.selects RX2 yX2_everything yX2_everything, Cond.code yX2_everything cX2_everything 1 (some .int), Cond.methodLink RX6 24 yX2_size, Cond.instanceMethod yX2_size, Cond.selects RX2 yX2_size yX2_size, Cond.code yX2_size cX2_size 1 (some .int), Cond.methodLink RX6 27 yX2_nextAfter, Cond.instanceMethod yX2_nextAfter, Cond.selects RX2 yX2_nextAfter yX2_nextAfter, Cond.code yX2_nextAfter cX2_nextAfter 3 (some .int), Cond.fieldLink RX2 9 "MadeItSo$Drawing" "parents" "[I", Cond.static yX7_inHeap, Cond.code yX7_inHeap cX7_inHeap 2 (some .boolean), Cond.static yX7_partsOf]
def wsX7_otherwise_r3 : List Cond := [Cond.code yX7_partsOf cX7_partsOf 1 (some .int), Cond.methodLink RX7 239 yJ6_bitCount_0f7a4, Cond.static yJ6_bitCount_0f7a4, Cond.initialized RJ6, Cond.code yJ6_bitCount_0f7a4 cJ6_bitCount_0f7a4 1 (some .int), Cond.constant RJ6 265 (1431655765), Cond.constant RJ6 266 (858993459), Cond.constant RJ6 267 (252645135), Cond.methodLink RX6 37 yX1_partsUnder, Cond.instanceMethod yX1_partsUnder, Cond.selects RX1 yX1_partsUnder yX1_partsUnder, Cond.initialized RX1, Cond.code yX1_partsUnder cX1_partsUnder 5 (some .int), Cond.static yX7_heapOf, Cond.code yX7_heapOf cX7_heapOf 1 (some .int), Cond.static yX7_onesOf, Cond.code yX7_onesOf cX7_onesOf 1 (some .int), Cond.methodLink RX1 29 yX2_parentsOf, Cond.instanceMethod yX2_parentsOf, Cond.selects RX2 yX2_parentsOf yX2_parentsOf, Cond.code yX2_parentsOf cX2_parentsOf 2 (some .int), Cond.methodLink RX2 22 yX2_has, Cond.methodLink RX1 34 yX1_rowOf, Cond.static yX1_rowOf]
def wsX7_otherwise_r4 : List Cond := [Cond.code yX1_rowOf cX1_rowOf 5 (some .int), Cond.methodLink RX1 38 yX1_read, Cond.instanceMethod yX1_read, Cond.selects RX1 yX1_read yX1_read, Cond.code yX1_read cX1_read 3 (some .int), Cond.fieldLink RX1 9 "MadeItSo$Books" "parts" "[I", Cond.methodLink RX1 15 yX1_isPlace, Cond.static yX1_isPlace, Cond.code yX1_isPlace cX1_isPlace 2 (some .boolean), Cond.methodLink RX6 43 yX6_split, Cond.instanceMethod yX6_split, Cond.selects RX6 yX6_split yX6_split, Cond.code yX6_split cX6_split 6 none, Cond.static yX7_nextPart, Cond.code yX7_nextPart cX7_nextPart 2 (some .int), Cond.methodLink RX7 133 yX6_having, Cond.instanceMethod yX6_having, Cond.selects RX6 yX6_having yX6_having, Cond.code yX6_having cX6_having 9 (some .long), Cond.methodLink RX7 191 yX7_leastOfBoth, Cond.instanceMethod yX7_leastOfBoth, Cond.selects RX7 yX7_leastOfBoth yX7_leastOfBoth, Cond.code yX7_leastOfBoth cX7_leastOfBoth 10 (some .long), Cond.methodLink RX7 195 yX7_mostOfBoth]
def wsX7_otherwise_r5 : List Cond := [Cond.instanceMethod yX7_mostOfBoth, Cond.selects RX7 yX7_mostOfBoth yX7_mostOfBoth, Cond.code yX7_mostOfBoth cX7_mostOfBoth 14 (some .long), Cond.methodLink RX7 236 Lib.MathLoose.min_long.x, Cond.static Lib.MathLoose.min_long.x, Cond.code Lib.MathLoose.min_long.x Lib.MathLoose.min_long.code 4 (some .long), Cond.methodLink RX7 204 yX7_mostOfNeed, Cond.instanceMethod yX7_mostOfNeed, Cond.selects RX7 yX7_mostOfNeed yX7_mostOfNeed, Cond.code yX7_mostOfNeed cX7_mostOfNeed 8 (some .long)]
def wsX7_otherwise : List Cond := .code yX7_otherwise cX7_otherwise 8 (some .long) :: ((wsX7_otherwise_r1 ++ (wsX7_otherwise_r2 ++ (wsX7_otherwise_r3 ++ (wsX7_otherwise_r4 ++ wsX7_otherwise_r5)))) ++ wsX70 ++ wsX20 ++ wsX60 ++ wsX10)
def wsX7_draw_r1 : List Cond := [Cond.fieldLink RX7 12 "MadeItSo" "drawing" "LMadeItSo$Drawing;", Cond.constant RX7 212 (1103515245), Cond.fieldLink RX7 22 "MadeItSo" "books" "LMadeItSo$Books;", Cond.methodLink RX7 118 yX7_isSetting, Cond.instanceMethod yX7_isSetting, Cond.selects RX7 yX7_isSetting yX7_isSetting, Cond.initialized RX7, Cond.code yX7_isSetting cX7_isSetting 2 (some .boolean), Cond.methodLink RX7 127 yX7_heapOf, Cond.static yX7_heapOf, Cond.code yX7_heapOf cX7_heapOf 1 (some .int), Cond.methodLink RX7 144 yX7_isHeap, Cond.instanceMethod yX7_isHeap, Cond.selects RX7 yX7_isHeap yX7_isHeap, Cond.code yX7_isHeap cX7_isHeap 2 (some .boolean), Cond.methodLink RX7 223 yX2_everything, Cond.instanceMethod yX2_everything, Cond.selects RX2 yX2_everything yX2_everything, Cond.initialized RX2, Cond.code yX2_everything cX2_everything 1 (some .int), Cond.fieldLink RX2 18 "MadeItSo$Drawing" "things" "I", Cond.methodLink RX7 130 yX7_onesOf, Cond.static yX7_onesOf, Cond.code yX7_onesOf cX7_onesOf 1 (some .int)]
def wsX7_draw_r2 : List Cond := [Cond.methodLink RX7 208 yX2_size, Cond.instanceMethod yX2_size, Cond.selects RX2 yX2_size yX2_size, Cond.code yX2_size cX2_size 1 (some .int), Cond.methodLink RX7 209 yX2_nextAfter, Cond.instanceMethod yX2_nextAfter, Cond.selects RX2 yX2_nextAfter yX2_nextAfter, Cond.code yX2_nextAfter cX2_nextAfter 3 (some .int), Cond.fieldLink RX2 9 "MadeItSo$Drawing" "parents" "[I", Cond.static yX7_inHeap, Cond.code yX7_inHeap cX7_inHeap 2 (some .boolean), Cond.methodLink RX7 213 yX1_partsUnder, Cond.instanceMethod yX1_partsUnder, Cond.selects RX1 yX1_partsUnder yX1_partsUnder, Cond.initialized RX1, Cond.code yX1_partsUnder cX1_partsUnder 5 (some .int), Cond.methodLink RX1 29 yX2_parentsOf, Cond.instanceMethod yX2_parentsOf, Cond.selects RX2 yX2_parentsOf yX2_parentsOf, Cond.code yX2_parentsOf cX2_parentsOf 2 (some .int), Cond.methodLink RX2 22 yX2_has, Cond.instanceMethod yX2_has, Cond.selects RX2 yX2_has yX2_has, Cond.code yX2_has cX2_has 2 (some .boolean)]
def wsX7_draw_r3 : List Cond := [Cond.methodLink RX1 34 yX1_rowOf, Cond.static yX1_rowOf, Cond.code yX1_rowOf cX1_rowOf 5 (some .int), Cond.methodLink RX1 38 yX1_read, Cond.instanceMethod yX1_read, Cond.selects RX1 yX1_read yX1_read, Cond.code yX1_read cX1_read 3 (some .int), Cond.fieldLink RX1 9 "MadeItSo$Books" "parts" "[I", Cond.methodLink RX1 15 yX1_isPlace, Cond.static yX1_isPlace, Cond.code yX1_isPlace cX1_isPlace 2 (some .boolean), Cond.methodLink RX7 73 yX7_bit, Cond.static yX7_bit, Cond.code yX7_bit cX7_bit 1 (some .int)]
def wsX7_draw : List Cond := .code yX7_draw cX7_draw 8 (some .int) :: ((wsX7_draw_r1 ++ (wsX7_draw_r2 ++ wsX7_draw_r3)) ++ wsX70 ++ wsX20 ++ wsX10)
def wsX7_count : List Cond := .code yX7_count cX7_count 2 (some .int) :: ([.fieldLink RX7 12 "MadeItSo" "drawing" "LMadeItSo$Drawing;", .fieldLink RX7 54 "MadeItSo" "seenHeap" "I", .methodLink RX7 208 yX2_size, .instanceMethod yX2_size, .selects RX2 yX2_size yX2_size, .initialized RX2, .code yX2_size cX2_size 1 (some .int), .fieldLink RX2 18 "MadeItSo$Drawing" "things" "I", .methodLink RX7 217 yX2_arrows, .instanceMethod yX2_arrows, .selects RX2 yX2_arrows yX2_arrows, .code yX2_arrows cX2_arrows 3 (some .int), .fieldLink RX2 9 "MadeItSo$Drawing" "parents" "[I", .methodLink RX2 40 yJ6_bitCount_0f7a4, .static yJ6_bitCount_0f7a4, .initialized RJ6, .code yJ6_bitCount_0f7a4 cJ6_bitCount_0f7a4 1 (some .int), .constant RJ6 265 (1431655765), .constant RJ6 266 (858993459), .constant RJ6 267 (252645135)] ++ wsX70 ++ wsX20)
def wsX8_init : List Cond := .code yX8_init cX8_init 1 none :: ([.methodLink RX8 3 objectInit, .instanceMethod objectInit, .code objectInit ⟨#[0xb1]⟩ 1 none, .arrayClass .boolean, .fieldLink RX8 9 "MadeItSoModel" "isSeen" "[Z", .arrayClass .int, .fieldLink RX8 13 "MadeItSoModel" "parents" "[I", .fieldLink RX8 17 "MadeItSoModel" "books" "[I", .fieldLink RX8 20 "MadeItSoModel" "below" "J", .fieldLink RX8 24 "MadeItSoModel" "way" "[I", .fieldLink RX8 27 "MadeItSoModel" "tried" "[I", .fieldLink RX8 30 "MadeItSoModel" "isBarring" "[Z", .arrayClass .long, .fieldLink RX8 33 "MadeItSoModel" "up" "[J", .fieldLink RX8 37 "MadeItSoModel" "down" "[J", .fieldLink RX8 40 "MadeItSoModel" "helper" "[J", .fieldLink RX8 43 "MadeItSoModel" "order" "[I", .fieldLink RX8 46 "MadeItSoModel" "choice" "[I", .fieldLink RX8 49 "MadeItSoModel" "parentsThere" "[I", .fieldLink RX8 52 "MadeItSoModel" "isAlways" "[Z", .fieldLink RX8 55 "MadeItSoModel" "joined" "[I"] ++ wsX80)
def wsX8_isThing : List Cond := .code yX8_isThing cX8_isThing 2 (some .boolean) :: ([.fieldLink RX8 58 "MadeItSoModel" "many" "I"] ++ wsX80)
def wsX8_isHeap : List Cond := .code yX8_isHeap cX8_isHeap 2 (some .boolean) :: ([.fieldLink RX8 58 "MadeItSoModel" "many" "I"] ++ wsX80)
def wsX8_isSetting : List Cond := .code yX8_isSetting cX8_isSetting 2 (some .boolean) :: ([.constant RX8 62 (65536), .methodLink RX8 63 yX8_isHeap, .instanceMethod yX8_isHeap, .selects RX8 yX8_isHeap yX8_isHeap, .initialized RX8, .code yX8_isHeap cX8_isHeap 2 (some .boolean), .fieldLink RX8 58 "MadeItSoModel" "many" "I"] ++ wsX80)
def wsX8_fresh : List Cond := .code yX8_fresh cX8_fresh 3 none :: ([.fieldLink RX8 17 "MadeItSoModel" "books" "[I"] ++ wsX80)
def wsX8_thing : List Cond := .code yX8_thing cX8_thing 2 (some .int) :: ([.fieldLink RX8 58 "MadeItSoModel" "many" "I", .fieldLink RX8 9 "MadeItSoModel" "isSeen" "[Z", .fieldLink RX8 13 "MadeItSoModel" "parents" "[I", .methodLink RX8 67 yX8_fresh, .instanceMethod yX8_fresh, .selects RX8 yX8_fresh yX8_fresh, .initialized RX8, .code yX8_fresh cX8_fresh 3 none, .fieldLink RX8 17 "MadeItSoModel" "books" "[I"] ++ wsX80)
def wsX8_has : List Cond := .code yX8_has cX8_has 3 (some .boolean) :: ([.fieldLink RX8 13 "MadeItSoModel" "parents" "[I", .methodLink RX8 71 yX8_isThing, .instanceMethod yX8_isThing, .selects RX8 yX8_isThing yX8_isThing, .initialized RX8, .code yX8_isThing cX8_isThing 2 (some .boolean), .fieldLink RX8 58 "MadeItSoModel" "many" "I"] ++ wsX80)
def wsX8_parentsWithout : List Cond := .code yX8_parentsWithout cX8_parentsWithout 4 (some .int) :: ([.fieldLink RX8 13 "MadeItSoModel" "parents" "[I"] ++ wsX80)
def wsX8_belowOf : List Cond := .code yX8_belowOf cX8_belowOf 8 (some .int) :: ([.fieldLink RX8 58 "MadeItSoModel" "many" "I", .methodLink RX8 74 yX8_parentsWithout, .instanceMethod yX8_parentsWithout, .selects RX8 yX8_parentsWithout yX8_parentsWithout, .initialized RX8, .code yX8_parentsWithout cX8_parentsWithout 4 (some .int), .fieldLink RX8 13 "MadeItSoModel" "parents" "[I"] ++ wsX80)
def wsX8_arrow : List Cond := .code yX8_arrow cX8_arrow 3 (some .boolean) :: ([.fieldLink RX8 13 "MadeItSoModel" "parents" "[I", .methodLink RX8 71 yX8_isThing, .instanceMethod yX8_isThing, .selects RX8 yX8_isThing yX8_isThing, .initialized RX8, .code yX8_isThing cX8_isThing 2 (some .boolean), .fieldLink RX8 58 "MadeItSoModel" "many" "I", .methodLink RX8 78 yX8_has, .instanceMethod yX8_has, .selects RX8 yX8_has yX8_has, .code yX8_has cX8_has 3 (some .boolean), .methodLink RX8 82 yX8_belowOf, .instanceMethod yX8_belowOf, .selects RX8 yX8_belowOf yX8_belowOf, .code yX8_belowOf cX8_belowOf 8 (some .int), .methodLink RX8 74 yX8_parentsWithout, .instanceMethod yX8_parentsWithout, .selects RX8 yX8_parentsWithout yX8_parentsWithout, .code yX8_parentsWithout cX8_parentsWithout 4 (some .int), .methodLink RX8 67 yX8_fresh, .instanceMethod yX8_fresh, .selects RX8 yX8_fresh yX8_fresh, .code yX8_fresh cX8_fresh 3 none, .fieldLink RX8 17 "MadeItSoModel" "books" "[I"] ++ wsX80)
def wsX8_cut : List Cond := .code yX8_cut cX8_cut 3 (some .boolean) :: ([.fieldLink RX8 13 "MadeItSoModel" "parents" "[I", .methodLink RX8 78 yX8_has, .instanceMethod yX8_has, .selects RX8 yX8_has yX8_has, .initialized RX8, .code yX8_has cX8_has 3 (some .boolean), .methodLink RX8 71 yX8_isThing, .instanceMethod yX8_isThing, .selects RX8 yX8_isThing yX8_isThing, .code yX8_isThing cX8_isThing 2 (some .boolean), .fieldLink RX8 58 "MadeItSoModel" "many" "I", .methodLink RX8 67 yX8_fresh, .instanceMethod yX8_fresh, .selects RX8 yX8_fresh yX8_fresh, .code yX8_fresh cX8_fresh 3 none, .fieldLink RX8 17 "MadeItSoModel" "books" "[I"] ++ wsX80)
def wsX8_turn : List Cond := .code yX8_turn cX8_turn 4 (some .boolean) :: ([.fieldLink RX8 13 "MadeItSoModel" "parents" "[I", .methodLink RX8 78 yX8_has, .instanceMethod yX8_has, .selects RX8 yX8_has yX8_has, .initialized RX8, .code yX8_has cX8_has 3 (some .boolean), .methodLink RX8 71 yX8_isThing, .instanceMethod yX8_isThing, .selects RX8 yX8_isThing yX8_isThing, .code yX8_isThing cX8_isThing 2 (some .boolean), .fieldLink RX8 58 "MadeItSoModel" "many" "I", .methodLink RX8 82 yX8_belowOf, .instanceMethod yX8_belowOf, .selects RX8 yX8_belowOf yX8_belowOf, .code yX8_belowOf cX8_belowOf 8 (some .int), .methodLink RX8 74 yX8_parentsWithout, .instanceMethod yX8_parentsWithout, .selects RX8 yX8_parentsWithout yX8_parentsWithout, .code yX8_parentsWithout cX8_parentsWithout 4 (some .int), .methodLink RX8 67 yX8_fresh, .instanceMethod yX8_fresh, .selects RX8 yX8_fresh yX8_fresh, .code yX8_fresh cX8_fresh 3 none, .fieldLink RX8 17 "MadeItSoModel" "books" "[I"] ++ wsX80)
def wsX8_bits : List Cond := .code yX8_bits cX8_bits 3 (some .int) :: ([])
def wsX8_isRow : List Cond := .code yX8_isRow cX8_isRow 3 (some .boolean) :: ([.fieldLink RX8 13 "MadeItSoModel" "parents" "[I", .methodLink RX8 71 yX8_isThing, .instanceMethod yX8_isThing, .selects RX8 yX8_isThing yX8_isThing, .initialized RX8, .code yX8_isThing cX8_isThing 2 (some .boolean), .fieldLink RX8 58 "MadeItSoModel" "many" "I", .methodLink RX8 86 yX8_bits, .static yX8_bits, .code yX8_bits cX8_bits 3 (some .int)] ++ wsX80)
def wsX8_book : List Cond := .code yX8_book cX8_book 4 (some .boolean) :: ([.fieldLink RX8 17 "MadeItSoModel" "books" "[I", .methodLink RX8 90 yX8_isRow, .instanceMethod yX8_isRow, .selects RX8 yX8_isRow yX8_isRow, .initialized RX8, .code yX8_isRow cX8_isRow 3 (some .boolean), .fieldLink RX8 13 "MadeItSoModel" "parents" "[I", .methodLink RX8 71 yX8_isThing, .instanceMethod yX8_isThing, .selects RX8 yX8_isThing yX8_isThing, .code yX8_isThing cX8_isThing 2 (some .boolean), .fieldLink RX8 58 "MadeItSoModel" "many" "I", .methodLink RX8 86 yX8_bits, .static yX8_bits, .code yX8_bits cX8_bits 3 (some .int)] ++ wsX80)
def wsX8_booked : List Cond := .code yX8_booked cX8_booked 3 (some .int) :: ([.fieldLink RX8 17 "MadeItSoModel" "books" "[I", .methodLink RX8 90 yX8_isRow, .instanceMethod yX8_isRow, .selects RX8 yX8_isRow yX8_isRow, .initialized RX8, .code yX8_isRow cX8_isRow 3 (some .boolean), .fieldLink RX8 13 "MadeItSoModel" "parents" "[I", .methodLink RX8 71 yX8_isThing, .instanceMethod yX8_isThing, .selects RX8 yX8_isThing yX8_isThing, .code yX8_isThing cX8_isThing 2 (some .boolean), .fieldLink RX8 58 "MadeItSoModel" "many" "I", .methodLink RX8 86 yX8_bits, .static yX8_bits, .code yX8_bits cX8_bits 3 (some .int)] ++ wsX80)
def wsX8_told : List Cond := .code yX8_told cX8_told 5 (some .int) :: ([.fieldLink RX8 9 "MadeItSoModel" "isSeen" "[Z", .fieldLink RX8 13 "MadeItSoModel" "parents" "[I", .fieldLink RX8 58 "MadeItSoModel" "many" "I", .methodLink RX8 71 yX8_isThing, .instanceMethod yX8_isThing, .selects RX8 yX8_isThing yX8_isThing, .initialized RX8, .code yX8_isThing cX8_isThing 2 (some .boolean), .methodLink RX8 78 yX8_has, .instanceMethod yX8_has, .selects RX8 yX8_has yX8_has, .code yX8_has cX8_has 3 (some .boolean), .methodLink RX8 82 yX8_belowOf, .instanceMethod yX8_belowOf, .selects RX8 yX8_belowOf yX8_belowOf, .code yX8_belowOf cX8_belowOf 8 (some .int), .methodLink RX8 74 yX8_parentsWithout, .instanceMethod yX8_parentsWithout, .selects RX8 yX8_parentsWithout yX8_parentsWithout, .code yX8_parentsWithout cX8_parentsWithout 4 (some .int)] ++ wsX80)
def wsX8_partsOf : List Cond := .code yX8_partsOf cX8_partsOf 6 (some .int) :: ([.fieldLink RX8 58 "MadeItSoModel" "many" "I", .fieldLink RX8 13 "MadeItSoModel" "parents" "[I", .fieldLink RX8 17 "MadeItSoModel" "books" "[I"] ++ wsX80)
def wsX8_weightOf : List Cond := .code yX8_weightOf cX8_weightOf 7 (some .long) :: ([.fieldLink RX8 58 "MadeItSoModel" "many" "I", .constantLong RX8 96 (100), .methodLink RX8 93 yX8_partsOf, .instanceMethod yX8_partsOf, .selects RX8 yX8_partsOf yX8_partsOf, .initialized RX8, .code yX8_partsOf cX8_partsOf 6 (some .int), .fieldLink RX8 13 "MadeItSoModel" "parents" "[I", .fieldLink RX8 17 "MadeItSoModel" "books" "[I"] ++ wsX80)
def wsX8_sum : List Cond := .code yX8_sum cX8_sum 6 (some .long) :: ([.fieldLink RX8 58 "MadeItSoModel" "many" "I", .methodLink RX8 98 yX8_weightOf, .instanceMethod yX8_weightOf, .selects RX8 yX8_weightOf yX8_weightOf, .initialized RX8, .code yX8_weightOf cX8_weightOf 7 (some .long), .constantLong RX8 96 (100), .methodLink RX8 93 yX8_partsOf, .instanceMethod yX8_partsOf, .selects RX8 yX8_partsOf yX8_partsOf, .code yX8_partsOf cX8_partsOf 6 (some .int), .fieldLink RX8 13 "MadeItSoModel" "parents" "[I", .fieldLink RX8 17 "MadeItSoModel" "books" "[I"] ++ wsX80)
def wsX8_weight_r1 : List Cond := [Cond.constantLong RX8 108 (-1), Cond.methodLink RX8 102 yX8_isSetting, Cond.instanceMethod yX8_isSetting, Cond.selects RX8 yX8_isSetting yX8_isSetting, Cond.initialized RX8, Cond.code yX8_isSetting cX8_isSetting 2 (some .boolean), Cond.constant RX8 62 (65536), Cond.methodLink RX8 63 yX8_isHeap, Cond.instanceMethod yX8_isHeap, Cond.selects RX8 yX8_isHeap yX8_isHeap, Cond.code yX8_isHeap cX8_isHeap 2 (some .boolean), Cond.fieldLink RX8 58 "MadeItSoModel" "many" "I", Cond.methodLink RX8 105 yX8_sum, Cond.instanceMethod yX8_sum, Cond.selects RX8 yX8_sum yX8_sum, Cond.code yX8_sum cX8_sum 6 (some .long), Cond.methodLink RX8 98 yX8_weightOf, Cond.instanceMethod yX8_weightOf, Cond.selects RX8 yX8_weightOf yX8_weightOf, Cond.code yX8_weightOf cX8_weightOf 7 (some .long), Cond.constantLong RX8 96 (100), Cond.methodLink RX8 93 yX8_partsOf, Cond.instanceMethod yX8_partsOf, Cond.selects RX8 yX8_partsOf yX8_partsOf]
def wsX8_weight_r2 : List Cond := [Cond.code yX8_partsOf cX8_partsOf 6 (some .int), Cond.fieldLink RX8 13 "MadeItSoModel" "parents" "[I", Cond.fieldLink RX8 17 "MadeItSoModel" "books" "[I"]
def wsX8_weight : List Cond := .code yX8_weight cX8_weight 3 (some .long) :: ((wsX8_weight_r1 ++ wsX8_weight_r2) ++ wsX80)
def wsX8_shared : List Cond := .code yX8_shared cX8_shared 10 (some .long) :: ([])
def wsX8_chance_r1 : List Cond := [Cond.fieldLink RX8 110 "MadeItSoModel" "above" "J", Cond.fieldLink RX8 20 "MadeItSoModel" "below" "J", Cond.fieldLink RX8 58 "MadeItSoModel" "many" "I", Cond.methodLink RX8 102 yX8_isSetting, Cond.instanceMethod yX8_isSetting, Cond.selects RX8 yX8_isSetting yX8_isSetting, Cond.initialized RX8, Cond.code yX8_isSetting cX8_isSetting 2 (some .boolean), Cond.constant RX8 62 (65536), Cond.methodLink RX8 63 yX8_isHeap, Cond.instanceMethod yX8_isHeap, Cond.selects RX8 yX8_isHeap yX8_isHeap, Cond.code yX8_isHeap cX8_isHeap 2 (some .boolean), Cond.methodLink RX8 105 yX8_sum, Cond.instanceMethod yX8_sum, Cond.selects RX8 yX8_sum yX8_sum, Cond.code yX8_sum cX8_sum 6 (some .long), Cond.methodLink RX8 98 yX8_weightOf, Cond.instanceMethod yX8_weightOf, Cond.selects RX8 yX8_weightOf yX8_weightOf, Cond.code yX8_weightOf cX8_weightOf 7 (some .long), Cond.constantLong RX8 96 (100), Cond.methodLink RX8 93 yX8_partsOf, Cond.instanceMethod yX8_partsOf]
def wsX8_chance_r2 : List Cond := [Cond.selects RX8 yX8_partsOf yX8_partsOf, Cond.code yX8_partsOf cX8_partsOf 6 (some .int), Cond.fieldLink RX8 13 "MadeItSoModel" "parents" "[I", Cond.fieldLink RX8 17 "MadeItSoModel" "books" "[I", Cond.methodLink RX8 113 yX8_shared, Cond.static yX8_shared, Cond.code yX8_shared cX8_shared 10 (some .long)]
def wsX8_chance : List Cond := .code yX8_chance cX8_chance 10 (some .int) :: ((wsX8_chance_r1 ++ wsX8_chance_r2) ++ wsX80)
def wsX8_above : List Cond := .code yX8_above cX8_above 1 (some .long) :: ([.fieldLink RX8 110 "MadeItSoModel" "above" "J"] ++ wsX80)
def wsX8_below : List Cond := .code yX8_below cX8_below 1 (some .long) :: ([.fieldLink RX8 20 "MadeItSoModel" "below" "J"] ++ wsX80)
def wsX8_isArrow : List Cond := .code yX8_isArrow cX8_isArrow 5 (some .boolean) :: ([.methodLink RX8 74 yX8_parentsWithout, .instanceMethod yX8_parentsWithout, .selects RX8 yX8_parentsWithout yX8_parentsWithout, .initialized RX8, .code yX8_parentsWithout cX8_parentsWithout 4 (some .int), .fieldLink RX8 13 "MadeItSoModel" "parents" "[I"] ++ wsX80)
def wsX8_belowWithout : List Cond := .code yX8_belowWithout cX8_belowWithout 8 (some .int) :: ([.fieldLink RX8 58 "MadeItSoModel" "many" "I", .methodLink RX8 74 yX8_parentsWithout, .instanceMethod yX8_parentsWithout, .selects RX8 yX8_parentsWithout yX8_parentsWithout, .initialized RX8, .code yX8_parentsWithout cX8_parentsWithout 4 (some .int), .fieldLink RX8 13 "MadeItSoModel" "parents" "[I"] ++ wsX80)
def wsX8_isOpen : List Cond := .code yX8_isOpen cX8_isOpen 10 (some .boolean) :: ([.fieldLink RX8 24 "MadeItSoModel" "way" "[I", .methodLink RX8 117 yX8_isArrow, .instanceMethod yX8_isArrow, .selects RX8 yX8_isArrow yX8_isArrow, .initialized RX8, .code yX8_isArrow cX8_isArrow 5 (some .boolean), .methodLink RX8 74 yX8_parentsWithout, .instanceMethod yX8_parentsWithout, .selects RX8 yX8_parentsWithout yX8_parentsWithout, .code yX8_parentsWithout cX8_parentsWithout 4 (some .int), .fieldLink RX8 13 "MadeItSoModel" "parents" "[I", .methodLink RX8 121 yX8_belowWithout, .instanceMethod yX8_belowWithout, .selects RX8 yX8_belowWithout yX8_belowWithout, .code yX8_belowWithout cX8_belowWithout 8 (some .int), .fieldLink RX8 58 "MadeItSoModel" "many" "I"] ++ wsX80)
def wsX8_joins : List Cond := .code yX8_joins cX8_joins 11 (some .boolean) :: ([.fieldLink RX8 24 "MadeItSoModel" "way" "[I", .fieldLink RX8 27 "MadeItSoModel" "tried" "[I", .fieldLink RX8 58 "MadeItSoModel" "many" "I", .methodLink RX8 117 yX8_isArrow, .instanceMethod yX8_isArrow, .selects RX8 yX8_isArrow yX8_isArrow, .initialized RX8, .code yX8_isArrow cX8_isArrow 5 (some .boolean), .methodLink RX8 74 yX8_parentsWithout, .instanceMethod yX8_parentsWithout, .selects RX8 yX8_parentsWithout yX8_parentsWithout, .code yX8_parentsWithout cX8_parentsWithout 4 (some .int), .fieldLink RX8 13 "MadeItSoModel" "parents" "[I", .methodLink RX8 124 yX8_isOpen, .instanceMethod yX8_isOpen, .selects RX8 yX8_isOpen yX8_isOpen, .code yX8_isOpen cX8_isOpen 10 (some .boolean), .methodLink RX8 121 yX8_belowWithout, .instanceMethod yX8_belowWithout, .selects RX8 yX8_belowWithout yX8_belowWithout, .code yX8_belowWithout cX8_belowWithout 8 (some .int)] ++ wsX80)
def wsX8_barred_r1 : List Cond := [Cond.fieldLink RX8 58 "MadeItSoModel" "many" "I", Cond.methodLink RX8 127 yX8_joins, Cond.instanceMethod yX8_joins, Cond.selects RX8 yX8_joins yX8_joins, Cond.initialized RX8, Cond.code yX8_joins cX8_joins 11 (some .boolean), Cond.fieldLink RX8 24 "MadeItSoModel" "way" "[I", Cond.fieldLink RX8 27 "MadeItSoModel" "tried" "[I", Cond.methodLink RX8 117 yX8_isArrow, Cond.instanceMethod yX8_isArrow, Cond.selects RX8 yX8_isArrow yX8_isArrow, Cond.code yX8_isArrow cX8_isArrow 5 (some .boolean), Cond.methodLink RX8 74 yX8_parentsWithout, Cond.instanceMethod yX8_parentsWithout, Cond.selects RX8 yX8_parentsWithout yX8_parentsWithout, Cond.code yX8_parentsWithout cX8_parentsWithout 4 (some .int), Cond.fieldLink RX8 13 "MadeItSoModel" "parents" "[I", Cond.methodLink RX8 124 yX8_isOpen, Cond.instanceMethod yX8_isOpen, Cond.selects RX8 yX8_isOpen yX8_isOpen, Cond.code yX8_isOpen cX8_isOpen 10 (some .boolean), Cond.methodLink RX8 121 yX8_belowWithout, Cond.instanceMethod yX8_belowWithout, Cond.selects RX8 yX8_belowWithout yX8_belowWithout]
def wsX8_barred_r2 : List Cond := [Cond.code yX8_belowWithout cX8_belowWithout 8 (some .int)]
def wsX8_barred : List Cond := .code yX8_barred cX8_barred 8 (some .boolean) :: ((wsX8_barred_r1 ++ wsX8_barred_r2) ++ wsX80)
def wsX8_bars_r1 : List Cond := [Cond.methodLink RX8 63 yX8_isHeap, Cond.instanceMethod yX8_isHeap, Cond.selects RX8 yX8_isHeap yX8_isHeap, Cond.initialized RX8, Cond.code yX8_isHeap cX8_isHeap 2 (some .boolean), Cond.fieldLink RX8 58 "MadeItSoModel" "many" "I", Cond.methodLink RX8 131 yX8_barred, Cond.instanceMethod yX8_barred, Cond.selects RX8 yX8_barred yX8_barred, Cond.code yX8_barred cX8_barred 8 (some .boolean), Cond.methodLink RX8 127 yX8_joins, Cond.instanceMethod yX8_joins, Cond.selects RX8 yX8_joins yX8_joins, Cond.code yX8_joins cX8_joins 11 (some .boolean), Cond.fieldLink RX8 24 "MadeItSoModel" "way" "[I", Cond.fieldLink RX8 27 "MadeItSoModel" "tried" "[I", Cond.methodLink RX8 117 yX8_isArrow, Cond.instanceMethod yX8_isArrow, Cond.selects RX8 yX8_isArrow yX8_isArrow, Cond.code yX8_isArrow cX8_isArrow 5 (some .boolean), Cond.methodLink RX8 74 yX8_parentsWithout, Cond.instanceMethod yX8_parentsWithout, Cond.selects RX8 yX8_parentsWithout yX8_parentsWithout, Cond.code yX8_parentsWithout cX8_parentsWithout 4 (some .int)]
def wsX8_bars_r2 : List Cond := [Cond.fieldLink RX8 13 "MadeItSoModel" "parents" "[I", Cond.methodLink RX8 124 yX8_isOpen, Cond.instanceMethod yX8_isOpen, Cond.selects RX8 yX8_isOpen yX8_isOpen, Cond.code yX8_isOpen cX8_isOpen 10 (some .boolean), Cond.methodLink RX8 121 yX8_belowWithout, Cond.instanceMethod yX8_belowWithout, Cond.selects RX8 yX8_belowWithout yX8_belowWithout, Cond.code yX8_belowWithout cX8_belowWithout 8 (some .int)]
def wsX8_bars : List Cond := .code yX8_bars cX8_bars 4 (some .boolean) :: ((wsX8_bars_r1 ++ wsX8_bars_r2) ++ wsX80)
def wsX8_seen : List Cond := .code yX8_seen cX8_seen 3 (some .int) :: ([.fieldLink RX8 58 "MadeItSoModel" "many" "I", .fieldLink RX8 9 "MadeItSoModel" "isSeen" "[Z"] ++ wsX80)
def wsX8_isLeast : List Cond := .code yX8_isLeast cX8_isLeast 3 (some .boolean) :: ([.fieldLink RX8 30 "MadeItSoModel" "isBarring" "[Z"] ++ wsX80)
def wsX8_works_r1 : List Cond := [Cond.fieldLink RX8 30 "MadeItSoModel" "isBarring" "[Z", Cond.methodLink RX8 71 yX8_isThing, Cond.instanceMethod yX8_isThing, Cond.selects RX8 yX8_isThing yX8_isThing, Cond.initialized RX8, Cond.code yX8_isThing cX8_isThing 2 (some .boolean), Cond.fieldLink RX8 58 "MadeItSoModel" "many" "I", Cond.methodLink RX8 134 yX8_seen, Cond.instanceMethod yX8_seen, Cond.selects RX8 yX8_seen yX8_seen, Cond.code yX8_seen cX8_seen 3 (some .int), Cond.fieldLink RX8 9 "MadeItSoModel" "isSeen" "[Z", Cond.methodLink RX8 131 yX8_barred, Cond.instanceMethod yX8_barred, Cond.selects RX8 yX8_barred yX8_barred, Cond.code yX8_barred cX8_barred 8 (some .boolean), Cond.methodLink RX8 127 yX8_joins, Cond.instanceMethod yX8_joins, Cond.selects RX8 yX8_joins yX8_joins, Cond.code yX8_joins cX8_joins 11 (some .boolean), Cond.fieldLink RX8 24 "MadeItSoModel" "way" "[I", Cond.fieldLink RX8 27 "MadeItSoModel" "tried" "[I", Cond.methodLink RX8 117 yX8_isArrow, Cond.instanceMethod yX8_isArrow]
def wsX8_works_r2 : List Cond := [Cond.selects RX8 yX8_isArrow yX8_isArrow, Cond.code yX8_isArrow cX8_isArrow 5 (some .boolean), Cond.methodLink RX8 74 yX8_parentsWithout, Cond.instanceMethod yX8_parentsWithout, Cond.selects RX8 yX8_parentsWithout yX8_parentsWithout, Cond.code yX8_parentsWithout cX8_parentsWithout 4 (some .int), Cond.fieldLink RX8 13 "MadeItSoModel" "parents" "[I", Cond.methodLink RX8 124 yX8_isOpen, Cond.instanceMethod yX8_isOpen, Cond.selects RX8 yX8_isOpen yX8_isOpen, Cond.code yX8_isOpen cX8_isOpen 10 (some .boolean), Cond.methodLink RX8 121 yX8_belowWithout, Cond.instanceMethod yX8_belowWithout, Cond.selects RX8 yX8_belowWithout yX8_belowWithout, Cond.code yX8_belowWithout cX8_belowWithout 8 (some .int)]
def wsX8_works : List Cond := .code yX8_works cX8_works 5 (some .boolean) :: ((wsX8_works_r1 ++ wsX8_works_r2) ++ wsX80)
def wsX8_least_r1 : List Cond := [Cond.methodLink RX8 138 yX8_works, Cond.instanceMethod yX8_works, Cond.selects RX8 yX8_works yX8_works, Cond.initialized RX8, Cond.code yX8_works cX8_works 5 (some .boolean), Cond.fieldLink RX8 30 "MadeItSoModel" "isBarring" "[Z", Cond.methodLink RX8 71 yX8_isThing, Cond.instanceMethod yX8_isThing, Cond.selects RX8 yX8_isThing yX8_isThing, Cond.code yX8_isThing cX8_isThing 2 (some .boolean), Cond.fieldLink RX8 58 "MadeItSoModel" "many" "I", Cond.methodLink RX8 134 yX8_seen, Cond.instanceMethod yX8_seen, Cond.selects RX8 yX8_seen yX8_seen, Cond.code yX8_seen cX8_seen 3 (some .int), Cond.fieldLink RX8 9 "MadeItSoModel" "isSeen" "[Z", Cond.methodLink RX8 131 yX8_barred, Cond.instanceMethod yX8_barred, Cond.selects RX8 yX8_barred yX8_barred, Cond.code yX8_barred cX8_barred 8 (some .boolean), Cond.methodLink RX8 127 yX8_joins, Cond.instanceMethod yX8_joins, Cond.selects RX8 yX8_joins yX8_joins, Cond.code yX8_joins cX8_joins 11 (some .boolean)]
def wsX8_least_r2 : List Cond := [Cond.fieldLink RX8 24 "MadeItSoModel" "way" "[I", Cond.fieldLink RX8 27 "MadeItSoModel" "tried" "[I", Cond.methodLink RX8 117 yX8_isArrow, Cond.instanceMethod yX8_isArrow, Cond.selects RX8 yX8_isArrow yX8_isArrow, Cond.code yX8_isArrow cX8_isArrow 5 (some .boolean), Cond.methodLink RX8 74 yX8_parentsWithout, Cond.instanceMethod yX8_parentsWithout, Cond.selects RX8 yX8_parentsWithout yX8_parentsWithout, Cond.code yX8_parentsWithout cX8_parentsWithout 4 (some .int), Cond.fieldLink RX8 13 "MadeItSoModel" "parents" "[I", Cond.methodLink RX8 124 yX8_isOpen, Cond.instanceMethod yX8_isOpen, Cond.selects RX8 yX8_isOpen yX8_isOpen, Cond.code yX8_isOpen cX8_isOpen 10 (some .boolean), Cond.methodLink RX8 121 yX8_belowWithout, Cond.instanceMethod yX8_belowWithout, Cond.selects RX8 yX8_belowWithout yX8_belowWithout, Cond.code yX8_belowWithout cX8_belowWithout 8 (some .int), Cond.methodLink RX8 141 yX8_isLeast, Cond.instanceMethod yX8_isLeast, Cond.selects RX8 yX8_isLeast yX8_isLeast, Cond.code yX8_isLeast cX8_isLeast 3 (some .boolean)]
def wsX8_least : List Cond := .code yX8_least cX8_least 5 (some .int) :: ((wsX8_least_r1 ++ wsX8_least_r2) ++ wsX80)
def wsX8_leastAt_r1 : List Cond := [Cond.methodLink RX8 138 yX8_works, Cond.instanceMethod yX8_works, Cond.selects RX8 yX8_works yX8_works, Cond.initialized RX8, Cond.code yX8_works cX8_works 5 (some .boolean), Cond.fieldLink RX8 30 "MadeItSoModel" "isBarring" "[Z", Cond.methodLink RX8 71 yX8_isThing, Cond.instanceMethod yX8_isThing, Cond.selects RX8 yX8_isThing yX8_isThing, Cond.code yX8_isThing cX8_isThing 2 (some .boolean), Cond.fieldLink RX8 58 "MadeItSoModel" "many" "I", Cond.methodLink RX8 134 yX8_seen, Cond.instanceMethod yX8_seen, Cond.selects RX8 yX8_seen yX8_seen, Cond.code yX8_seen cX8_seen 3 (some .int), Cond.fieldLink RX8 9 "MadeItSoModel" "isSeen" "[Z", Cond.methodLink RX8 131 yX8_barred, Cond.instanceMethod yX8_barred, Cond.selects RX8 yX8_barred yX8_barred, Cond.code yX8_barred cX8_barred 8 (some .boolean), Cond.methodLink RX8 127 yX8_joins, Cond.instanceMethod yX8_joins, Cond.selects RX8 yX8_joins yX8_joins, Cond.code yX8_joins cX8_joins 11 (some .boolean)]
def wsX8_leastAt_r2 : List Cond := [Cond.fieldLink RX8 24 "MadeItSoModel" "way" "[I", Cond.fieldLink RX8 27 "MadeItSoModel" "tried" "[I", Cond.methodLink RX8 117 yX8_isArrow, Cond.instanceMethod yX8_isArrow, Cond.selects RX8 yX8_isArrow yX8_isArrow, Cond.code yX8_isArrow cX8_isArrow 5 (some .boolean), Cond.methodLink RX8 74 yX8_parentsWithout, Cond.instanceMethod yX8_parentsWithout, Cond.selects RX8 yX8_parentsWithout yX8_parentsWithout, Cond.code yX8_parentsWithout cX8_parentsWithout 4 (some .int), Cond.fieldLink RX8 13 "MadeItSoModel" "parents" "[I", Cond.methodLink RX8 124 yX8_isOpen, Cond.instanceMethod yX8_isOpen, Cond.selects RX8 yX8_isOpen yX8_isOpen, Cond.code yX8_isOpen cX8_isOpen 10 (some .boolean), Cond.methodLink RX8 121 yX8_belowWithout, Cond.instanceMethod yX8_belowWithout, Cond.selects RX8 yX8_belowWithout yX8_belowWithout, Cond.code yX8_belowWithout cX8_belowWithout 8 (some .int), Cond.methodLink RX8 141 yX8_isLeast, Cond.instanceMethod yX8_isLeast, Cond.selects RX8 yX8_isLeast yX8_isLeast, Cond.code yX8_isLeast cX8_isLeast 3 (some .boolean)]
def wsX8_leastAt : List Cond := .code yX8_leastAt cX8_leastAt 6 (some .int) :: ((wsX8_leastAt_r1 ++ wsX8_leastAt_r2) ++ wsX80)
def wsX8_fit_r1 : List Cond := [Cond.fieldLink RX8 58 "MadeItSoModel" "many" "I", Cond.methodLink RX8 71 yX8_isThing, Cond.instanceMethod yX8_isThing, Cond.selects RX8 yX8_isThing yX8_isThing, Cond.initialized RX8, Cond.code yX8_isThing cX8_isThing 2 (some .boolean), Cond.methodLink RX8 63 yX8_isHeap, Cond.instanceMethod yX8_isHeap, Cond.selects RX8 yX8_isHeap yX8_isHeap, Cond.code yX8_isHeap cX8_isHeap 2 (some .boolean), Cond.methodLink RX8 134 yX8_seen, Cond.instanceMethod yX8_seen, Cond.selects RX8 yX8_seen yX8_seen, Cond.code yX8_seen cX8_seen 3 (some .int), Cond.fieldLink RX8 9 "MadeItSoModel" "isSeen" "[Z", Cond.methodLink RX8 82 yX8_belowOf, Cond.instanceMethod yX8_belowOf, Cond.selects RX8 yX8_belowOf yX8_belowOf, Cond.code yX8_belowOf cX8_belowOf 8 (some .int), Cond.methodLink RX8 74 yX8_parentsWithout, Cond.instanceMethod yX8_parentsWithout, Cond.selects RX8 yX8_parentsWithout yX8_parentsWithout, Cond.code yX8_parentsWithout cX8_parentsWithout 4 (some .int), Cond.fieldLink RX8 13 "MadeItSoModel" "parents" "[I"]
def wsX8_fit_r2 : List Cond := [Cond.methodLink RX8 131 yX8_barred, Cond.instanceMethod yX8_barred, Cond.selects RX8 yX8_barred yX8_barred, Cond.code yX8_barred cX8_barred 8 (some .boolean), Cond.methodLink RX8 127 yX8_joins, Cond.instanceMethod yX8_joins, Cond.selects RX8 yX8_joins yX8_joins, Cond.code yX8_joins cX8_joins 11 (some .boolean), Cond.fieldLink RX8 24 "MadeItSoModel" "way" "[I", Cond.fieldLink RX8 27 "MadeItSoModel" "tried" "[I", Cond.methodLink RX8 117 yX8_isArrow, Cond.instanceMethod yX8_isArrow, Cond.selects RX8 yX8_isArrow yX8_isArrow, Cond.code yX8_isArrow cX8_isArrow 5 (some .boolean), Cond.methodLink RX8 124 yX8_isOpen, Cond.instanceMethod yX8_isOpen, Cond.selects RX8 yX8_isOpen yX8_isOpen, Cond.code yX8_isOpen cX8_isOpen 10 (some .boolean), Cond.methodLink RX8 121 yX8_belowWithout, Cond.instanceMethod yX8_belowWithout, Cond.selects RX8 yX8_belowWithout yX8_belowWithout, Cond.code yX8_belowWithout cX8_belowWithout 8 (some .int)]
def wsX8_fit : List Cond := .code yX8_fit cX8_fit 7 (some .boolean) :: ((wsX8_fit_r1 ++ wsX8_fit_r2) ++ wsX80)
def wsX8_times : List Cond := .code yX8_times cX8_times 12 none :: ([.fieldLink RX8 40 "MadeItSoModel" "helper" "[J", .constantLong RX8 144 (16777215)] ++ wsX80)
def wsX8_adds : List Cond := .code yX8_adds cX8_adds 10 none :: ([.fieldLink RX8 33 "MadeItSoModel" "up" "[J", .fieldLink RX8 40 "MadeItSoModel" "helper" "[J", .fieldLink RX8 37 "MadeItSoModel" "down" "[J", .constantLong RX8 144 (16777215), .methodLink RX8 146 yX8_times, .instanceMethod yX8_times, .selects RX8 yX8_times yX8_times, .initialized RX8, .code yX8_times cX8_times 12 none] ++ wsX80)
def wsX8_withOne : List Cond := .code yX8_withOne cX8_withOne 3 (some .int) :: ([])
def wsX8_agrees_r1 : List Cond := [Cond.fieldLink RX8 33 "MadeItSoModel" "up" "[J", Cond.fieldLink RX8 37 "MadeItSoModel" "down" "[J", Cond.constantLong RX8 153 (2), Cond.constantLong RX8 159 (256), Cond.fieldLink RX8 40 "MadeItSoModel" "helper" "[J", Cond.methodLink RX8 71 yX8_isThing, Cond.instanceMethod yX8_isThing, Cond.selects RX8 yX8_isThing yX8_isThing, Cond.initialized RX8, Cond.code yX8_isThing cX8_isThing 2 (some .boolean), Cond.fieldLink RX8 58 "MadeItSoModel" "many" "I", Cond.methodLink RX8 63 yX8_isHeap, Cond.instanceMethod yX8_isHeap, Cond.selects RX8 yX8_isHeap yX8_isHeap, Cond.code yX8_isHeap cX8_isHeap 2 (some .boolean), Cond.methodLink RX8 150 yX8_withOne, Cond.static yX8_withOne, Cond.code yX8_withOne cX8_withOne 3 (some .int), Cond.methodLink RX8 105 yX8_sum, Cond.instanceMethod yX8_sum, Cond.selects RX8 yX8_sum yX8_sum, Cond.code yX8_sum cX8_sum 6 (some .long), Cond.methodLink RX8 98 yX8_weightOf, Cond.instanceMethod yX8_weightOf]
def wsX8_agrees_r2 : List Cond := [Cond.selects RX8 yX8_weightOf yX8_weightOf, Cond.code yX8_weightOf cX8_weightOf 7 (some .long), Cond.constantLong RX8 96 (100), Cond.methodLink RX8 93 yX8_partsOf, Cond.instanceMethod yX8_partsOf, Cond.selects RX8 yX8_partsOf yX8_partsOf, Cond.code yX8_partsOf cX8_partsOf 6 (some .int), Cond.fieldLink RX8 13 "MadeItSoModel" "parents" "[I", Cond.fieldLink RX8 17 "MadeItSoModel" "books" "[I", Cond.methodLink RX8 113 yX8_shared, Cond.static yX8_shared, Cond.code yX8_shared cX8_shared 10 (some .long), Cond.methodLink RX8 155 yX8_adds, Cond.instanceMethod yX8_adds, Cond.selects RX8 yX8_adds yX8_adds, Cond.code yX8_adds cX8_adds 10 none, Cond.constantLong RX8 144 (16777215), Cond.methodLink RX8 146 yX8_times, Cond.instanceMethod yX8_times, Cond.selects RX8 yX8_times yX8_times, Cond.code yX8_times cX8_times 12 none]
def wsX8_agrees : List Cond := .code yX8_agrees cX8_agrees 24 (some .int) :: ((wsX8_agrees_r1 ++ wsX8_agrees_r2) ++ wsX80)
def wsX8_meetsLike : List Cond := .code yX8_meetsLike cX8_meetsLike 7 (some .boolean) :: ([.fieldLink RX8 58 "MadeItSoModel" "many" "I", .fieldLink RX8 55 "MadeItSoModel" "joined" "[I", .fieldLink RX8 13 "MadeItSoModel" "parents" "[I"] ++ wsX80)
def wsX8_isLeastOrder : List Cond := .code yX8_isLeastOrder cX8_isLeastOrder 4 (some .boolean) :: ([.fieldLink RX8 55 "MadeItSoModel" "joined" "[I", .fieldLink RX8 43 "MadeItSoModel" "order" "[I"] ++ wsX80)
def wsX8_drawings : List Cond := .code yX8_drawings cX8_drawings 6 (some .int) :: ([.fieldLink RX8 58 "MadeItSoModel" "many" "I", .fieldLink RX8 55 "MadeItSoModel" "joined" "[I", .fieldLink RX8 13 "MadeItSoModel" "parents" "[I", .fieldLink RX8 52 "MadeItSoModel" "isAlways" "[Z", .fieldLink RX8 46 "MadeItSoModel" "choice" "[I", .fieldLink RX8 49 "MadeItSoModel" "parentsThere" "[I", .fieldLink RX8 43 "MadeItSoModel" "order" "[I", .methodLink RX8 78 yX8_has, .instanceMethod yX8_has, .selects RX8 yX8_has yX8_has, .initialized RX8, .code yX8_has cX8_has 3 (some .boolean), .methodLink RX8 71 yX8_isThing, .instanceMethod yX8_isThing, .selects RX8 yX8_isThing yX8_isThing, .code yX8_isThing cX8_isThing 2 (some .boolean), .methodLink RX8 161 yX8_meetsLike, .instanceMethod yX8_meetsLike, .selects RX8 yX8_meetsLike yX8_meetsLike, .code yX8_meetsLike cX8_meetsLike 7 (some .boolean), .methodLink RX8 164 yX8_isLeastOrder, .instanceMethod yX8_isLeastOrder, .selects RX8 yX8_isLeastOrder yX8_isLeastOrder, .code yX8_isLeastOrder cX8_isLeastOrder 4 (some .boolean)] ++ wsX80)
def wsX8_alike_r1 : List Cond := [Cond.methodLink RX8 167 yX8_drawings, Cond.instanceMethod yX8_drawings, Cond.selects RX8 yX8_drawings yX8_drawings, Cond.initialized RX8, Cond.code yX8_drawings cX8_drawings 6 (some .int), Cond.fieldLink RX8 58 "MadeItSoModel" "many" "I", Cond.fieldLink RX8 55 "MadeItSoModel" "joined" "[I", Cond.fieldLink RX8 13 "MadeItSoModel" "parents" "[I", Cond.fieldLink RX8 52 "MadeItSoModel" "isAlways" "[Z", Cond.fieldLink RX8 46 "MadeItSoModel" "choice" "[I", Cond.fieldLink RX8 49 "MadeItSoModel" "parentsThere" "[I", Cond.fieldLink RX8 43 "MadeItSoModel" "order" "[I", Cond.methodLink RX8 78 yX8_has, Cond.instanceMethod yX8_has, Cond.selects RX8 yX8_has yX8_has, Cond.code yX8_has cX8_has 3 (some .boolean), Cond.methodLink RX8 71 yX8_isThing, Cond.instanceMethod yX8_isThing, Cond.selects RX8 yX8_isThing yX8_isThing, Cond.code yX8_isThing cX8_isThing 2 (some .boolean), Cond.methodLink RX8 161 yX8_meetsLike, Cond.instanceMethod yX8_meetsLike, Cond.selects RX8 yX8_meetsLike yX8_meetsLike, Cond.code yX8_meetsLike cX8_meetsLike 7 (some .boolean)]
def wsX8_alike_r2 : List Cond := [Cond.methodLink RX8 164 yX8_isLeastOrder, Cond.instanceMethod yX8_isLeastOrder, Cond.selects RX8 yX8_isLeastOrder yX8_isLeastOrder, Cond.code yX8_isLeastOrder cX8_isLeastOrder 4 (some .boolean)]
def wsX8_alike : List Cond := .code yX8_alike cX8_alike 1 (some .int) :: ((wsX8_alike_r1 ++ wsX8_alike_r2) ++ wsX80)
def wsX8_fixed_r1 : List Cond := [Cond.fieldLink RX8 52 "MadeItSoModel" "isAlways" "[Z", Cond.methodLink RX8 78 yX8_has, Cond.instanceMethod yX8_has, Cond.selects RX8 yX8_has yX8_has, Cond.initialized RX8, Cond.code yX8_has cX8_has 3 (some .boolean), Cond.fieldLink RX8 13 "MadeItSoModel" "parents" "[I", Cond.methodLink RX8 71 yX8_isThing, Cond.instanceMethod yX8_isThing, Cond.selects RX8 yX8_isThing yX8_isThing, Cond.code yX8_isThing cX8_isThing 2 (some .boolean), Cond.fieldLink RX8 58 "MadeItSoModel" "many" "I", Cond.methodLink RX8 167 yX8_drawings, Cond.instanceMethod yX8_drawings, Cond.selects RX8 yX8_drawings yX8_drawings, Cond.code yX8_drawings cX8_drawings 6 (some .int), Cond.fieldLink RX8 55 "MadeItSoModel" "joined" "[I", Cond.fieldLink RX8 46 "MadeItSoModel" "choice" "[I", Cond.fieldLink RX8 49 "MadeItSoModel" "parentsThere" "[I", Cond.fieldLink RX8 43 "MadeItSoModel" "order" "[I", Cond.methodLink RX8 161 yX8_meetsLike, Cond.instanceMethod yX8_meetsLike, Cond.selects RX8 yX8_meetsLike yX8_meetsLike, Cond.code yX8_meetsLike cX8_meetsLike 7 (some .boolean)]
def wsX8_fixed_r2 : List Cond := [Cond.methodLink RX8 164 yX8_isLeastOrder, Cond.instanceMethod yX8_isLeastOrder, Cond.selects RX8 yX8_isLeastOrder yX8_isLeastOrder, Cond.code yX8_isLeastOrder cX8_isLeastOrder 4 (some .boolean)]
def wsX8_fixed : List Cond := .code yX8_fixed cX8_fixed 3 (some .boolean) :: ((wsX8_fixed_r1 ++ wsX8_fixed_r2) ++ wsX80)
def wsX8_most : List Cond := .code yX8_most cX8_most 4 (some .long) :: ([])
def wsX8_lesser : List Cond := .code yX8_lesser cX8_lesser 4 (some .long) :: ([])
def wsX8_otherwise_r1 : List Cond := [Cond.constantLong RX8 108 (-1), Cond.fieldLink RX8 58 "MadeItSoModel" "many" "I", Cond.constantLong RX8 96 (100), Cond.methodLink RX8 71 yX8_isThing, Cond.instanceMethod yX8_isThing, Cond.selects RX8 yX8_isThing yX8_isThing, Cond.initialized RX8, Cond.code yX8_isThing cX8_isThing 2 (some .boolean), Cond.methodLink RX8 150 yX8_withOne, Cond.static yX8_withOne, Cond.code yX8_withOne cX8_withOne 3 (some .int), Cond.methodLink RX8 105 yX8_sum, Cond.instanceMethod yX8_sum, Cond.selects RX8 yX8_sum yX8_sum, Cond.code yX8_sum cX8_sum 6 (some .long), Cond.methodLink RX8 98 yX8_weightOf, Cond.instanceMethod yX8_weightOf, Cond.selects RX8 yX8_weightOf yX8_weightOf, Cond.code yX8_weightOf cX8_weightOf 7 (some .long), Cond.methodLink RX8 93 yX8_partsOf, Cond.instanceMethod yX8_partsOf, Cond.selects RX8 yX8_partsOf yX8_partsOf, Cond.code yX8_partsOf cX8_partsOf 6 (some .int), Cond.fieldLink RX8 13 "MadeItSoModel" "parents" "[I"]
def wsX8_otherwise_r2 : List Cond := [Cond.fieldLink RX8 17 "MadeItSoModel" "books" "[I", Cond.methodLink RX8 170 yX8_most, Cond.static yX8_most, Cond.code yX8_most cX8_most 4 (some .long), Cond.methodLink RX8 173 yX8_lesser, Cond.static yX8_lesser, Cond.code yX8_lesser cX8_lesser 4 (some .long)]
def wsX8_otherwise : List Cond := .code yX8_otherwise cX8_otherwise 20 (some .long) :: ((wsX8_otherwise_r1 ++ wsX8_otherwise_r2) ++ wsX80)
def wsX8_draw : List Cond := .code yX8_draw cX8_draw 9 (some .int) :: ([.fieldLink RX8 58 "MadeItSoModel" "many" "I", .fieldLink RX8 13 "MadeItSoModel" "parents" "[I", .constant RX8 176 (1103515245), .methodLink RX8 102 yX8_isSetting, .instanceMethod yX8_isSetting, .selects RX8 yX8_isSetting yX8_isSetting, .initialized RX8, .code yX8_isSetting cX8_isSetting 2 (some .boolean), .constant RX8 62 (65536), .methodLink RX8 63 yX8_isHeap, .instanceMethod yX8_isHeap, .selects RX8 yX8_isHeap yX8_isHeap, .code yX8_isHeap cX8_isHeap 2 (some .boolean), .methodLink RX8 93 yX8_partsOf, .instanceMethod yX8_partsOf, .selects RX8 yX8_partsOf yX8_partsOf, .code yX8_partsOf cX8_partsOf 6 (some .int), .fieldLink RX8 17 "MadeItSoModel" "books" "[I"] ++ wsX80)
def wsX8_count : List Cond := .code yX8_count cX8_count 4 (some .int) :: ([.fieldLink RX8 58 "MadeItSoModel" "many" "I", .fieldLink RX8 13 "MadeItSoModel" "parents" "[I", .methodLink RX8 86 yX8_bits, .static yX8_bits, .initialized RX8, .code yX8_bits cX8_bits 3 (some .int), .methodLink RX8 134 yX8_seen, .instanceMethod yX8_seen, .selects RX8 yX8_seen yX8_seen, .code yX8_seen cX8_seen 3 (some .int), .fieldLink RX8 9 "MadeItSoModel" "isSeen" "[Z"] ++ wsX80)
def wsJ9_max_7cf53 : List Cond := .code yJ9_max_7cf53 cJ9_max_7cf53 2 (some .int) :: ([])
def wsJ9_max_f86c9 : List Cond := .code yJ9_max_f86c9 cJ9_max_f86c9 4 (some .long) :: ([])
def wsJ9_min_7cf53 : List Cond := .code yJ9_min_7cf53 cJ9_min_7cf53 2 (some .int) :: ([])
def wsJ9_min_f86c9 : List Cond := .code yJ9_min_f86c9 cJ9_min_f86c9 4 (some .long) :: ([])
abbrev vwCl : List vw_C := [(RX0, TX0, 2), (RX1, TX1, 1), (RX2, TX2, 3), (RX3, TX3, 2), (RX4, TX4, 1), (RX5, TX5, 3), (RX6, TX6, 2), (RX7, TX7, 10), (RX8, TX8, 17)]
end
section
/-! rows of this claim's own: tops of the stack by another name, nest words, a counting loop -/
section MzW
variable {p : Program} {l : Launch} {e : Env} {R : Room} {s : State} {m : MethodId} {args : Array Value} {below : List Frame} {meth : Method} {c : Code} {H : Heap} {locs : List Loc} {cells slots : Nat} {Q : State → Prop}
variable {pc : Nat} {ls : Array Slot} {rest : List Value}
theorem mz_ti {x y : Int32} (h : x = y) (k : W p l e R s m args below meth c H locs cells slots Q (F0 m pc ls (.int y :: rest))) : W p l e R s m args below meth c H locs cells slots Q (F0 m pc ls (.int x :: rest)) := by
  subst h
  exact k
theorem mz_tl {x y : Int64} (h : x = y) (k : W p l e R s m args below meth c H locs cells slots Q (F0 m pc ls (.long y :: rest))) : W p l e R s m args below meth c H locs cells slots Q (F0 m pc ls (.long x :: rest)) := by
  subst h
  exact k
theorem mz_loop (N : Nat) (I : Nat → Heap → List Loc → Array Slot → Prop)
    (hstep : ∀ (i : Nat) (H : Heap) (locs : List Loc) (ls : Array Slot), i < N → I i H locs ls → (∀ (H' : Heap) (locs' : List Loc) (ls' : Array Slot), I (i + 1) H' locs' ls' → W p l e R s m args below meth c H' locs' cells slots Q (F0 m pc ls' [])) → W p l e R s m args below meth c H locs cells slots Q (F0 m pc ls []))
    (hend : ∀ (H : Heap) (locs : List Loc) (ls : Array Slot), I N H locs ls → W p l e R s m args below meth c H locs cells slots Q (F0 m pc ls [])) :
    ∀ (i : Nat), i ≤ N → ∀ (H : Heap) (locs : List Loc) (ls : Array Slot), I i H locs ls → W p l e R s m args below meth c H locs cells slots Q (F0 m pc ls []) := by
  intro i hi
  obtain ⟨n, hn⟩ : ∃ n, n = N - i := ⟨_, rfl⟩
  induction n generalizing i with
  | zero =>
    intro H locs ls h
    have : i = N := by omega
    subst this
    exact hend H locs ls h
  | succ n ih =>
    intro H locs ls h
    refine hstep i H locs ls (by omega) h (fun H' locs' ls' h' => ih (i + 1) (by omega) (by omega) H' locs' ls' h')
end MzW
section MzA
variable {p : Program} {l : Launch} {e : Env} {R : Room} {s : State} {m : MethodId} {args : Array Value} {below : List Frame} {meth : Method} {c : Code} {H : Heap} {locs : List Loc} {cells slots : Nat} {Q : State → Prop}
variable {cc : ByteArray} {pc : Nat} {ls : Array Slot} {rest : List Value} {D : va_G} {cl : List vw_C} {A : Nat → Prop} {a : Nat} {tys : List (ClassId × FieldType)} {ws : va_W} {H0 : Heap}
/-- a new array, whose class is one that is known already -/
theorem mz_newa (t0 : Nat) {cQ : ClassId} {ty : FieldType} (hprim : ∀ c1 c2 : ClassId, va_RA s c1 ty → va_RA s c2 ty → c1 = c2) (hexec : p.tables.exec = Jvm.exec) (hb : c.code = cc) {atype : ArrayType} (harr : (Cond.arrayClass (newarray.typeOf atype)).before args s = true) (hty : newarray.typeOf atype = ty) (hK : va_K D cl tys s) (hP : va_P D cl ws H) (hD : va_D A ws) (hS : va_S A H0 H locs) (hA : ∀ q, H0.size ≤ q → A q) (ht : tys[t0]? = some (cQ, ty))
    {n : Int32} {N' : Nat} {a0 : vp_A} (ha : ∀ cA : ClassId, vp_cell cA a0 = arrV cA N' (fun _ => defaultValue ty)) (hn : ¬ n < 0) (hN : n.toNatClampNeg = N') (hbytes : N' * componentBytes ty ≤ 536870912) (hcells : cells + 1 ≤ R.cells) (hslots : slots + N' ≤ R.slots) (hdg : decode cc pc = .ok (.newarray atype, 2))
    (kk : ∀ (q : Nat) (H1 : Heap), va_P D cl (ws ++ [(q, .inl (cQ, a0))]) H1 → va_D A (ws ++ [(q, .inl (cQ, a0))]) → va_S A H0 H1 locs →
      W p l e R s m args below meth c H1 locs (cells + 1) (slots + N') Q (F0 m (pc + 2) ls (.ref q :: rest))) : W p l e R s m args below meth c H locs cells slots Q (F0 m pc ls (.int n :: rest)) := by
  refine va_newa hexec hb harr hty hK hP hD hS hA ha hn hN hbytes hcells hslots hdg (fun q cA H1 hK1 hP1 hD1 hS1 => ?_)
  have h1 := (hK1.2 tys.length (cA, ty) (by simp)).2
  have h2 := (hK.2 t0 _ ht).2
  obtain rfl : cA = cQ := hprim _ _ h1 h2
  exact kk q H1 hP1 hD1 hS1
end MzA
theorem mz_in {i : Int32} {n : Nat} (h : (decide (i < 0) || decide (n ≤ i.toNatClampNeg)) = false) : vp_in i n := by
  intro h2
  rcases h2 with h2 | h2 <;> simp [h2] at h
theorem mz_z0 (x : Int32) : 0 + x = x := Int32.zero_add x
theorem mz_am (x : Int32) : x &&& (-1) = x := by
  apply Int32.toBitVec_inj.mp
  rw [Int32.toBitVec_and]
  exact BitVec.and_allOnes
theorem mz_0s (x : Int32) : (0 : Int32) >>> x = 0 := by
  apply Int32.toBitVec_inj.mp
  rw [Int32.toBitVec_shiftRight]
  simp
theorem mz_nz {v : Int32} (h : (decide (v = 0) || decide (v = 1)) = true) : narrow .boolean (.int v) = .int v := by
  by_cases h0 : v = 0
  · subst h0
    rfl
  · by_cases h1 : v = 1
    · subst h1
      rfl
    · simp [h0, h1] at h
theorem mz_nn {x : Int32} (h : ¬ x < 0) : 0 ≤ x := by
  rw [Int32.lt_iff_toInt_lt] at h
  rw [Int32.le_iff_toInt_le]
  omega
theorem mz_sw {x : Int32} (h0 : ¬ x = 0) (h1 : ¬ x = 1) (h2 : ¬ x = 2) : x.toInt < 0 ∨ 2 < x.toInt := by
  rw [← Int32.toInt_inj] at h0 h1 h2
  have e0 : (0 : Int32).toInt = 0 := rfl
  have e1 : (1 : Int32).toInt = 1 := rfl
  have e2 : (2 : Int32).toInt = 2 := rfl
  rw [e0] at h0
  rw [e1] at h1
  rw [e2] at h2
  omega
/-- the links to nest mates' private methods that the class uses -/
def mz_nl : List (String × Nat × MethodName × String) := [(RX7, 11, yX2_init, "MadeItSo"), (RX7, 21, yX1_init, "MadeItSo"), (RX7, 28, yX6_init, "MadeItSo"), (RX7, 35, yX5_init, "MadeItSo"), (RX7, 42, yX3_init, "MadeItSo"), (RX7, 49, yX4_init, "MadeItSo"), (RX5, 9, yX0_init, "MadeItSo"), (RX2, 26, yX7_inHeap, "MadeItSo"), (RX6, 31, yX7_partsOf, "MadeItSo"), (RX6, 47, yX7_nextPart, "MadeItSo")]
def mz_N (U : State) : Prop := ∀ q ∈ mz_nl, va_Nw (.methodLinkNest q.1 q.2.1 q.2.2.1 q.2.2.2) U
theorem mz_nw {s U : State} (hW : s.WarmedH U.vm) (h : mz_N s) : mz_N U := fun q hq => va_Nw.warmM hW (h q hq)
theorem mz_ns {u U : State} (hv : u.vm = U.vm) (h : mz_N u) : mz_N U := fun q hq => va_Nw.same rfl hv (h q hq)
theorem mz_blP {av : List Value} {Hq : Heap} {D : va_G} {cl : List vw_C} {ws : va_W} {tys : List (ClassId × FieldType)} {a : Array Value} {U : State} {g : JFrame} {mk : MethodId} (q : va_Pc av (fun U => U.heap = Hq ∧ va_P D cl ws Hq ∧ va_K D cl tys U ∧ mz_N U) a U) : va_Pc av (fun U => U.heap = Hq ∧ va_P D cl ws Hq ∧ va_K D cl tys U ∧ mz_N U) a (U.calling g mk a) :=
  ⟨q.1, q.2.1, q.2.2.1, va_K.moved (u := U) (U := U.calling g mk a) (Vm.Alike.refl U.vm) q.2.2.2.1, mz_ns (u := U) rfl q.2.2.2.2⟩
theorem mz_blI {av : List Value} {sz : Nat} {D : va_G} {cl : List vw_C} {ws : va_W} {tys : List (ClassId × FieldType)} {a : Array Value} {U : State} {g : JFrame} {mk : MethodId} (q : va_Pc av (fun U => U.heap.size = sz ∧ va_P D cl ws U.heap ∧ va_K D cl tys U ∧ va_D (fun _ => True) ws ∧ mz_N U) a U) : va_Pc av (fun U => U.heap.size = sz ∧ va_P D cl ws U.heap ∧ va_K D cl tys U ∧ va_D (fun _ => True) ws ∧ mz_N U) a (U.calling g mk a) :=
  ⟨q.1, q.2.1, q.2.2.1, va_K.moved (u := U) (U := U.calling g mk a) (Vm.Alike.refl U.vm) q.2.2.2.1, q.2.2.2.2.1, mz_ns (u := U) rfl q.2.2.2.2.2⟩
end
section
/-! plain facts of ints that the settings' tests rest on -/
theorem mz_lc (x : Int64) : lg_cmp x x = 0 := by simp [lg_cmp]
theorem mz_n0 {n : Nat} (h : nI n = 0) (hn : n < 2 ^ 31) : n = 0 := by
  rw [← nI_0, nI_eq hn (by decide)] at h
  exact h
theorem mz_h1 {x : Int32} (h1 : ¬ x < 0) (h2 : ¬ 1 ≤ x) : x = 0 := by
  rw [Int32.lt_iff_toInt_lt] at h1
  rw [Int32.le_iff_toInt_le] at h2
  have e0 : (0 : Int32).toInt = 0 := rfl
  have e1 : (1 : Int32).toInt = 1 := rfl
  rw [e0] at h1
  rw [e1] at h2
  rw [← Int32.toInt_inj, e0]
  omega
theorem mz_low {n : Nat} (hn : n < 65536) (h2 : nI n &&& 255 = 0) (h3 : nI n >>> (8 &&& 31) &&& 255 = 0) : n = 0 := by
  have e2 := pk_andN (n := n) (by omega) (m := 255) 8 (by decide)
  rw [e2] at h2
  have a2 := mz_n0 h2 (by omega)
  have e3 := pk_shrN (n := n) (by omega) (8 &&& 31) 8 (by decide)
  rw [e3, pk_andN (by omega) (m := 255) 8 (by decide)] at h3
  have a3 := mz_n0 h3 (by omega)
  omega
theorem mz_set {x : Int32} (h1 : (x.toUInt32 >>> ((16 : Int32).toUInt32 &&& Int32.toUInt32 31)).toInt32 = 0) (h2 : x &&& 255 = 0) (h3 : (x >>> (8 &&& 31) &&& 255) &&& ((x &&& 255) ^^^ (-1)) = 0) : x = 0 := by
  have e1 := pk_ushr x 16 16 (by decide)
  rw [h1] at e1
  have z : (0 : Int32).toBitVec.toNat = 0 := rfl
  rw [z] at e1
  have hx : x = nI x.toBitVec.toNat := by
    apply Int32.toBitVec_inj.mp
    show x.toBitVec = BitVec.ofNat 32 x.toBitVec.toNat
    simp
  have hlt : x.toBitVec.toNat < 65536 := by omega
  rw [h2] at h3
  rw [show ((0 : Int32) ^^^ (-1)) = -1 by decide, mz_am] at h3
  rw [hx] at h2 h3
  rw [hx, mz_low hlt h2 h3]
  rfl
theorem mz_setM {x : Int32} (h0 : ¬ x < 0) (h1 : ¬ 65536 ≤ x) (h2 : x &&& 255 = 0) (h3 : (x >>> (8 &&& 31)) &&& ((x &&& 255) ^^^ (-1)) = 0) : x = 0 := by
  obtain ⟨j, hj, rfl⟩ := nI_of h0
  have hlt : j < 65536 := by
    rcases Nat.lt_or_ge j 65536 with q | q
    · exact q
    · exact absurd (nI_le q hj) h1
  rw [h2] at h3
  rw [show ((0 : Int32) ^^^ (-1)) = -1 by decide, mz_am] at h3
  rw [mz_low hlt h2 (by rw [h3]; rfl)]
  rfl
end
section
/-! printed rows of NAMES that the contracts use: words among words, instructions -/
theorem dX0_init_0 : decode cX0_init 0 = .ok (.aload_n 0, 1) := by decide +kernel
theorem dX0_init_1 : decode cX0_init 1 = .ok (.invokespecial 3, 3) := by decide +kernel
theorem dX0_init_4 : decode cX0_init 4 = .ok (.aload_n 0, 1) := by decide +kernel
theorem dX0_init_5 : decode cX0_init 5 = .ok (.sipush 128, 3) := by decide +kernel
theorem dX0_init_8 : decode cX0_init 8 = .ok (.newarray .long, 2) := by decide +kernel
theorem dX0_init_10 : decode cX0_init 10 = .ok (.putfield 9, 3) := by decide +kernel
theorem dX0_init_13 : decode cX0_init 13 = .ok (.aload_n 0, 1) := by decide +kernel
theorem dX0_init_14 : decode cX0_init 14 = .ok (.iconst 0, 1) := by decide +kernel
theorem dX0_init_15 : decode cX0_init 15 = .ok (.putfield 13, 3) := by decide +kernel
theorem dX0_init_18 : decode cX0_init 18 = .ok (.return_, 1) := by decide +kernel
theorem dX1_init_0 : decode cX1_init 0 = .ok (.aload_n 0, 1) := by decide +kernel
theorem dX1_init_1 : decode cX1_init 1 = .ok (.invokespecial 3, 3) := by decide +kernel
theorem dX1_init_4 : decode cX1_init 4 = .ok (.aload_n 0, 1) := by decide +kernel
theorem dX1_init_5 : decode cX1_init 5 = .ok (.sipush 1024, 3) := by decide +kernel
theorem dX1_init_8 : decode cX1_init 8 = .ok (.newarray .int, 2) := by decide +kernel
theorem dX1_init_10 : decode cX1_init 10 = .ok (.putfield 9, 3) := by decide +kernel
theorem dX1_init_13 : decode cX1_init 13 = .ok (.return_, 1) := by decide +kernel
theorem dX1_blank_0 : decode cX1_blank 0 = .ok (.iload_n 1, 1) := by decide +kernel
theorem dX1_blank_1 : decode cX1_blank 1 = .ok (.ifCond .lt 38, 3) := by decide +kernel
theorem dX1_blank_4 : decode cX1_blank 4 = .ok (.iload_n 1, 1) := by decide +kernel
theorem dX1_blank_5 : decode cX1_blank 5 = .ok (.bipush 8, 2) := by decide +kernel
theorem dX1_blank_7 : decode cX1_blank 7 = .ok (.if_icmp .ge 32, 3) := by decide +kernel
theorem dX1_blank_10 : decode cX1_blank 10 = .ok (.iconst 0, 1) := by decide +kernel
theorem dX1_blank_11 : decode cX1_blank 11 = .ok (.istore_n 2, 1) := by decide +kernel
theorem dX1_blank_12 : decode cX1_blank 12 = .ok (.iload_n 2, 1) := by decide +kernel
theorem dX1_blank_13 : decode cX1_blank 13 = .ok (.sipush 128, 3) := by decide +kernel
theorem dX1_blank_16 : decode cX1_blank 16 = .ok (.if_icmp .ge 23, 3) := by decide +kernel
theorem dX1_blank_19 : decode cX1_blank 19 = .ok (.aload_n 0, 1) := by decide +kernel
theorem dX1_blank_20 : decode cX1_blank 20 = .ok (.getfield 9, 3) := by decide +kernel
theorem dX1_blank_23 : decode cX1_blank 23 = .ok (.iload_n 1, 1) := by decide +kernel
theorem dX1_blank_24 : decode cX1_blank 24 = .ok (.sipush 128, 3) := by decide +kernel
theorem dX1_blank_27 : decode cX1_blank 27 = .ok (.imul, 1) := by decide +kernel
theorem dX1_blank_28 : decode cX1_blank 28 = .ok (.iload_n 2, 1) := by decide +kernel
theorem dX1_blank_29 : decode cX1_blank 29 = .ok (.iadd, 1) := by decide +kernel
theorem dX1_blank_30 : decode cX1_blank 30 = .ok (.bipush 50, 2) := by decide +kernel
theorem dX1_blank_32 : decode cX1_blank 32 = .ok (.iastore, 1) := by decide +kernel
theorem dX1_blank_33 : decode cX1_blank 33 = .ok (.iinc 2 1, 3) := by decide +kernel
theorem dX1_blank_36 : decode cX1_blank 36 = .ok (.goto (-24), 3) := by decide +kernel
theorem dX1_blank_39 : decode cX1_blank 39 = .ok (.return_, 1) := by decide +kernel
theorem dX2_init_0 : decode cX2_init 0 = .ok (.aload_n 0, 1) := by decide +kernel
theorem dX2_init_1 : decode cX2_init 1 = .ok (.invokespecial 3, 3) := by decide +kernel
theorem dX2_init_4 : decode cX2_init 4 = .ok (.aload_n 0, 1) := by decide +kernel
theorem dX2_init_5 : decode cX2_init 5 = .ok (.bipush 8, 2) := by decide +kernel
theorem dX2_init_7 : decode cX2_init 7 = .ok (.newarray .int, 2) := by decide +kernel
theorem dX2_init_9 : decode cX2_init 9 = .ok (.putfield 9, 3) := by decide +kernel
theorem dX2_init_12 : decode cX2_init 12 = .ok (.aload_n 0, 1) := by decide +kernel
theorem dX2_init_13 : decode cX2_init 13 = .ok (.bipush 8, 2) := by decide +kernel
theorem dX2_init_15 : decode cX2_init 15 = .ok (.newarray .int, 2) := by decide +kernel
theorem dX2_init_17 : decode cX2_init 17 = .ok (.putfield 15, 3) := by decide +kernel
theorem dX2_init_20 : decode cX2_init 20 = .ok (.aload_n 0, 1) := by decide +kernel
theorem dX2_init_21 : decode cX2_init 21 = .ok (.iconst 0, 1) := by decide +kernel
theorem dX2_init_22 : decode cX2_init 22 = .ok (.putfield 18, 3) := by decide +kernel
theorem dX2_init_25 : decode cX2_init 25 = .ok (.return_, 1) := by decide +kernel
theorem dX2_size_0 : decode cX2_size 0 = .ok (.aload_n 0, 1) := by decide +kernel
theorem dX2_size_1 : decode cX2_size 1 = .ok (.getfield 18, 3) := by decide +kernel
theorem dX2_size_4 : decode cX2_size 4 = .ok (.ireturn, 1) := by decide +kernel
theorem dX2_has_0 : decode cX2_has 0 = .ok (.iload_n 1, 1) := by decide +kernel
theorem dX2_has_1 : decode cX2_has 1 = .ok (.ifCond .lt 15, 3) := by decide +kernel
theorem dX2_has_4 : decode cX2_has 4 = .ok (.iload_n 1, 1) := by decide +kernel
theorem dX2_has_5 : decode cX2_has 5 = .ok (.aload_n 0, 1) := by decide +kernel
theorem dX2_has_6 : decode cX2_has 6 = .ok (.getfield 18, 3) := by decide +kernel
theorem dX2_has_9 : decode cX2_has 9 = .ok (.if_icmp .ge 7, 3) := by decide +kernel
theorem dX2_has_16 : decode cX2_has 16 = .ok (.iconst 0, 1) := by decide +kernel
theorem dX2_has_17 : decode cX2_has 17 = .ok (.ireturn, 1) := by decide +kernel
theorem dX2_everything_0 : decode cX2_everything 0 = .ok (.iconst 1, 1) := by decide +kernel
theorem dX2_everything_1 : decode cX2_everything 1 = .ok (.aload_n 0, 1) := by decide +kernel
theorem dX2_everything_2 : decode cX2_everything 2 = .ok (.getfield 18, 3) := by decide +kernel
theorem dX2_everything_5 : decode cX2_everything 5 = .ok (.ishl, 1) := by decide +kernel
theorem dX2_everything_6 : decode cX2_everything 6 = .ok (.iconst 1, 1) := by decide +kernel
theorem dX2_everything_7 : decode cX2_everything 7 = .ok (.isub, 1) := by decide +kernel
theorem dX2_everything_8 : decode cX2_everything 8 = .ok (.ireturn, 1) := by decide +kernel
theorem dX2_grow_0 : decode cX2_grow 0 = .ok (.aload_n 0, 1) := by decide +kernel
theorem dX2_grow_1 : decode cX2_grow 1 = .ok (.getfield 18, 3) := by decide +kernel
theorem dX2_grow_4 : decode cX2_grow 4 = .ok (.bipush 8, 2) := by decide +kernel
theorem dX2_grow_6 : decode cX2_grow 6 = .ok (.if_icmp .lt 5, 3) := by decide +kernel
theorem dX2_grow_11 : decode cX2_grow 11 = .ok (.aload_n 0, 1) := by decide +kernel
theorem dX2_grow_12 : decode cX2_grow 12 = .ok (.dup, 1) := by decide +kernel
theorem dX2_grow_13 : decode cX2_grow 13 = .ok (.getfield 18, 3) := by decide +kernel
theorem dX2_grow_16 : decode cX2_grow 16 = .ok (.iconst 1, 1) := by decide +kernel
theorem dX2_grow_17 : decode cX2_grow 17 = .ok (.iadd, 1) := by decide +kernel
theorem dX2_grow_18 : decode cX2_grow 18 = .ok (.putfield 18, 3) := by decide +kernel
theorem dX2_grow_21 : decode cX2_grow 21 = .ok (.aload_n 0, 1) := by decide +kernel
theorem dX2_grow_22 : decode cX2_grow 22 = .ok (.getfield 18, 3) := by decide +kernel
theorem dX2_grow_25 : decode cX2_grow 25 = .ok (.iconst 1, 1) := by decide +kernel
theorem dX2_grow_26 : decode cX2_grow 26 = .ok (.isub, 1) := by decide +kernel
theorem dX2_grow_27 : decode cX2_grow 27 = .ok (.ireturn, 1) := by decide +kernel
set_option maxRecDepth 20000 in
theorem ggX2_leads_X2_has : GoodIn wsX2_leads wsX2_has := goodIn_r _ [6, 7, 11, 12, 13] (by decide +kernel) (by decide +kernel)
set_option maxRecDepth 20000 in
theorem gX2_leads_X2_has : GoodIn wsX2_leads (wsV RX2 22 RX2 yX2_has wsX2_has) := goodIn_app (goodIn_of _ (by decide +kernel)) ggX2_leads_X2_has
theorem dX2_leads_0 : decode cX2_leads 0 = .ok (.aload_n 0, 1) := by decide +kernel
theorem dX2_leads_1 : decode cX2_leads 1 = .ok (.iload_n 1, 1) := by decide +kernel
theorem dX2_leads_2 : decode cX2_leads 2 = .ok (.invokevirtual 22, 3) := by decide +kernel
theorem dX2_leads_5 : decode cX2_leads 5 = .ok (.ifCond .eq 28, 3) := by decide +kernel
theorem dX2_leads_33 : decode cX2_leads 33 = .ok (.iconst 0, 1) := by decide +kernel
theorem dX2_leads_34 : decode cX2_leads 34 = .ok (.ireturn, 1) := by decide +kernel
theorem dX2_arrows_0 : decode cX2_arrows 0 = .ok (.iconst 0, 1) := by decide +kernel
theorem dX2_arrows_1 : decode cX2_arrows 1 = .ok (.istore_n 1, 1) := by decide +kernel
theorem dX2_arrows_2 : decode cX2_arrows 2 = .ok (.iconst 0, 1) := by decide +kernel
theorem dX2_arrows_3 : decode cX2_arrows 3 = .ok (.istore_n 2, 1) := by decide +kernel
theorem dX2_arrows_4 : decode cX2_arrows 4 = .ok (.iload_n 2, 1) := by decide +kernel
theorem dX2_arrows_5 : decode cX2_arrows 5 = .ok (.aload_n 0, 1) := by decide +kernel
theorem dX2_arrows_6 : decode cX2_arrows 6 = .ok (.getfield 18, 3) := by decide +kernel
theorem dX2_arrows_9 : decode cX2_arrows 9 = .ok (.if_icmp .ge 21, 3) := by decide +kernel
theorem dX2_arrows_30 : decode cX2_arrows 30 = .ok (.iload_n 1, 1) := by decide +kernel
theorem dX2_arrows_31 : decode cX2_arrows 31 = .ok (.ireturn, 1) := by decide +kernel
set_option maxRecDepth 20000 in
theorem ggX2_barred_X2_spread : GoodIn wsX2_barred wsX2_spread := goodIn_r _ [7, 8, 9, 6, 10, 11, 12, 13] (by decide +kernel) (by decide +kernel)
set_option maxRecDepth 20000 in
theorem gX2_barred_X2_spread : GoodIn wsX2_barred (wsV RX2 51 RX2 yX2_spread wsX2_spread) := goodIn_app (goodIn_of _ (by decide +kernel)) ggX2_barred_X2_spread
set_option maxRecDepth 20000 in
theorem ggX2_barred_X2_gather : GoodIn wsX2_barred wsX2_gather := goodIn_r _ [10, 11, 12, 13] (by decide +kernel) (by decide +kernel)
set_option maxRecDepth 20000 in
theorem gX2_barred_X2_gather : GoodIn wsX2_barred (va_wsS RX2 55 yX2_gather wsX2_gather) := goodIn_app (goodIn_of _ (by decide +kernel)) ggX2_barred_X2_gather
theorem dX2_barred_0 : decode cX2_barred 0 = .ok (.aload_n 0, 1) := by decide +kernel
theorem dX2_barred_1 : decode cX2_barred 1 = .ok (.iload_n 3, 1) := by decide +kernel
theorem dX2_barred_2 : decode cX2_barred 2 = .ok (.aload_n 0, 1) := by decide +kernel
theorem dX2_barred_3 : decode cX2_barred 3 = .ok (.getfield 9, 3) := by decide +kernel
theorem dX2_barred_6 : decode cX2_barred 6 = .ok (.invokevirtual 51, 3) := by decide +kernel
theorem dX2_barred_9 : decode cX2_barred 9 = .ok (.istore 4, 2) := by decide +kernel
theorem dX2_barred_11 : decode cX2_barred 11 = .ok (.iload_n 1, 1) := by decide +kernel
theorem dX2_barred_12 : decode cX2_barred 12 = .ok (.istore 5, 2) := by decide +kernel
theorem dX2_barred_14 : decode cX2_barred 14 = .ok (.iconst 0, 1) := by decide +kernel
theorem dX2_barred_15 : decode cX2_barred 15 = .ok (.istore 6, 2) := by decide +kernel
theorem dX2_barred_17 : decode cX2_barred 17 = .ok (.iconst 0, 1) := by decide +kernel
theorem dX2_barred_18 : decode cX2_barred 18 = .ok (.istore 7, 2) := by decide +kernel
theorem dX2_barred_20 : decode cX2_barred 20 = .ok (.iload 7, 2) := by decide +kernel
theorem dX2_barred_22 : decode cX2_barred 22 = .ok (.bipush 16, 2) := by decide +kernel
theorem dX2_barred_24 : decode cX2_barred 24 = .ok (.if_icmp .ge 87, 3) := by decide +kernel
theorem dX2_barred_27 : decode cX2_barred 27 = .ok (.iload 5, 2) := by decide +kernel
theorem dX2_barred_29 : decode cX2_barred 29 = .ok (.iload_n 3, 1) := by decide +kernel
theorem dX2_barred_30 : decode cX2_barred 30 = .ok (.iconst (-1), 1) := by decide +kernel
theorem dX2_barred_31 : decode cX2_barred 31 = .ok (.ixor, 1) := by decide +kernel
theorem dX2_barred_32 : decode cX2_barred 32 = .ok (.iand, 1) := by decide +kernel
theorem dX2_barred_33 : decode cX2_barred 33 = .ok (.iload 6, 2) := by decide +kernel
theorem dX2_barred_35 : decode cX2_barred 35 = .ok (.iload 4, 2) := by decide +kernel
theorem dX2_barred_37 : decode cX2_barred 37 = .ok (.iand, 1) := by decide +kernel
theorem dX2_barred_38 : decode cX2_barred 38 = .ok (.ior, 1) := by decide +kernel
theorem dX2_barred_39 : decode cX2_barred 39 = .ok (.istore 8, 2) := by decide +kernel
theorem dX2_barred_41 : decode cX2_barred 41 = .ok (.iload 5, 2) := by decide +kernel
theorem dX2_barred_43 : decode cX2_barred 43 = .ok (.iload 6, 2) := by decide +kernel
theorem dX2_barred_45 : decode cX2_barred 45 = .ok (.ior, 1) := by decide +kernel
theorem dX2_barred_46 : decode cX2_barred 46 = .ok (.iload_n 3, 1) := by decide +kernel
theorem dX2_barred_47 : decode cX2_barred 47 = .ok (.iconst (-1), 1) := by decide +kernel
theorem dX2_barred_48 : decode cX2_barred 48 = .ok (.ixor, 1) := by decide +kernel
theorem dX2_barred_49 : decode cX2_barred 49 = .ok (.iand, 1) := by decide +kernel
theorem dX2_barred_50 : decode cX2_barred 50 = .ok (.istore 9, 2) := by decide +kernel
theorem dX2_barred_52 : decode cX2_barred 52 = .ok (.iload 5, 2) := by decide +kernel
theorem dX2_barred_54 : decode cX2_barred 54 = .ok (.iload 8, 2) := by decide +kernel
theorem dX2_barred_56 : decode cX2_barred 56 = .ok (.aload_n 0, 1) := by decide +kernel
theorem dX2_barred_57 : decode cX2_barred 57 = .ok (.getfield 9, 3) := by decide +kernel
theorem dX2_barred_60 : decode cX2_barred 60 = .ok (.invokestatic 55, 3) := by decide +kernel
theorem dX2_barred_63 : decode cX2_barred 63 = .ok (.ior, 1) := by decide +kernel
theorem dX2_barred_64 : decode cX2_barred 64 = .ok (.istore 10, 2) := by decide +kernel
theorem dX2_barred_66 : decode cX2_barred 66 = .ok (.iload 6, 2) := by decide +kernel
theorem dX2_barred_68 : decode cX2_barred 68 = .ok (.iload 9, 2) := by decide +kernel
theorem dX2_barred_70 : decode cX2_barred 70 = .ok (.aload_n 0, 1) := by decide +kernel
theorem dX2_barred_71 : decode cX2_barred 71 = .ok (.getfield 15, 3) := by decide +kernel
theorem dX2_barred_74 : decode cX2_barred 74 = .ok (.invokestatic 55, 3) := by decide +kernel
theorem dX2_barred_77 : decode cX2_barred 77 = .ok (.ior, 1) := by decide +kernel
theorem dX2_barred_78 : decode cX2_barred 78 = .ok (.istore 11, 2) := by decide +kernel
theorem dX2_barred_80 : decode cX2_barred 80 = .ok (.iload 10, 2) := by decide +kernel
theorem dX2_barred_82 : decode cX2_barred 82 = .ok (.iload 5, 2) := by decide +kernel
theorem dX2_barred_84 : decode cX2_barred 84 = .ok (.if_icmp .ne 13, 3) := by decide +kernel
theorem dX2_barred_87 : decode cX2_barred 87 = .ok (.iload 11, 2) := by decide +kernel
theorem dX2_barred_89 : decode cX2_barred 89 = .ok (.iload 6, 2) := by decide +kernel
theorem dX2_barred_91 : decode cX2_barred 91 = .ok (.if_icmp .ne 6, 3) := by decide +kernel
theorem dX2_barred_94 : decode cX2_barred 94 = .ok (.goto 17, 3) := by decide +kernel
theorem dX2_barred_111 : decode cX2_barred 111 = .ok (.iload 5, 2) := by decide +kernel
theorem dX2_barred_113 : decode cX2_barred 113 = .ok (.iload 6, 2) := by decide +kernel
theorem dX2_barred_115 : decode cX2_barred 115 = .ok (.ior, 1) := by decide +kernel
theorem dX2_barred_116 : decode cX2_barred 116 = .ok (.iload_n 2, 1) := by decide +kernel
theorem dX2_barred_117 : decode cX2_barred 117 = .ok (.iand, 1) := by decide +kernel
theorem dX2_barred_118 : decode cX2_barred 118 = .ok (.ifCond .ne 7, 3) := by decide +kernel
theorem dX2_barred_121 : decode cX2_barred 121 = .ok (.iconst 1, 1) := by decide +kernel
theorem dX2_barred_122 : decode cX2_barred 122 = .ok (.goto 4, 3) := by decide +kernel
theorem dX2_barred_126 : decode cX2_barred 126 = .ok (.ireturn, 1) := by decide +kernel
set_option maxRecDepth 20000 in
theorem ggX2_spread_X2_gather : GoodIn wsX2_spread wsX2_gather := goodIn_r _ [4, 5, 6, 7] (by decide +kernel) (by decide +kernel)
set_option maxRecDepth 20000 in
theorem gX2_spread_X2_gather : GoodIn wsX2_spread (va_wsS RX2 55 yX2_gather wsX2_gather) := goodIn_app (goodIn_of _ (by decide +kernel)) ggX2_spread_X2_gather
theorem dX2_spread_0 : decode cX2_spread 0 = .ok (.iload_n 1, 1) := by decide +kernel
theorem dX2_spread_1 : decode cX2_spread 1 = .ok (.istore_n 3, 1) := by decide +kernel
theorem dX2_spread_2 : decode cX2_spread 2 = .ok (.iconst 0, 1) := by decide +kernel
theorem dX2_spread_3 : decode cX2_spread 3 = .ok (.istore 4, 2) := by decide +kernel
theorem dX2_spread_5 : decode cX2_spread 5 = .ok (.iload 4, 2) := by decide +kernel
theorem dX2_spread_7 : decode cX2_spread 7 = .ok (.bipush 8, 2) := by decide +kernel
theorem dX2_spread_9 : decode cX2_spread 9 = .ok (.if_icmp .ge 30, 3) := by decide +kernel
theorem dX2_spread_12 : decode cX2_spread 12 = .ok (.iload_n 3, 1) := by decide +kernel
theorem dX2_spread_13 : decode cX2_spread 13 = .ok (.iload_n 3, 1) := by decide +kernel
theorem dX2_spread_14 : decode cX2_spread 14 = .ok (.aload_n 2, 1) := by decide +kernel
theorem dX2_spread_15 : decode cX2_spread 15 = .ok (.invokestatic 55, 3) := by decide +kernel
theorem dX2_spread_18 : decode cX2_spread 18 = .ok (.ior, 1) := by decide +kernel
theorem dX2_spread_19 : decode cX2_spread 19 = .ok (.istore 5, 2) := by decide +kernel
theorem dX2_spread_21 : decode cX2_spread 21 = .ok (.iload 5, 2) := by decide +kernel
theorem dX2_spread_23 : decode cX2_spread 23 = .ok (.iload_n 3, 1) := by decide +kernel
theorem dX2_spread_24 : decode cX2_spread 24 = .ok (.if_icmp .ne 6, 3) := by decide +kernel
theorem dX2_spread_27 : decode cX2_spread 27 = .ok (.goto 12, 3) := by decide +kernel
theorem dX2_spread_39 : decode cX2_spread 39 = .ok (.iload_n 3, 1) := by decide +kernel
theorem dX2_spread_40 : decode cX2_spread 40 = .ok (.ireturn, 1) := by decide +kernel
set_option maxRecDepth 20000 in
theorem ggX2_gather_X7_inHeap : GoodIn wsX2_gather wsX7_inHeap := goodIn_r _ [3] (by decide +kernel) (by decide +kernel)
set_option maxRecDepth 20000 in
theorem gX2_gather_X7_inHeap_n26 : GoodIn wsX2_gather (wsX7_inHeap) := ggX2_gather_X7_inHeap
theorem dX2_gather_0 : decode cX2_gather 0 = .ok (.iconst 0, 1) := by decide +kernel
theorem dX2_gather_1 : decode cX2_gather 1 = .ok (.istore_n 2, 1) := by decide +kernel
theorem dX2_gather_2 : decode cX2_gather 2 = .ok (.iconst 0, 1) := by decide +kernel
theorem dX2_gather_3 : decode cX2_gather 3 = .ok (.istore_n 3, 1) := by decide +kernel
theorem dX2_gather_4 : decode cX2_gather 4 = .ok (.iload_n 3, 1) := by decide +kernel
theorem dX2_gather_5 : decode cX2_gather 5 = .ok (.aload_n 1, 1) := by decide +kernel
theorem dX2_gather_6 : decode cX2_gather 6 = .ok (.arraylength, 1) := by decide +kernel
theorem dX2_gather_7 : decode cX2_gather 7 = .ok (.if_icmp .ge 23, 3) := by decide +kernel
theorem dX2_gather_10 : decode cX2_gather 10 = .ok (.iload_n 0, 1) := by decide +kernel
theorem dX2_gather_11 : decode cX2_gather 11 = .ok (.iload_n 3, 1) := by decide +kernel
theorem dX2_gather_12 : decode cX2_gather 12 = .ok (.invokestatic 26, 3) := by decide +kernel
theorem dX2_gather_15 : decode cX2_gather 15 = .ok (.ifCond .eq 9, 3) := by decide +kernel
theorem dX2_gather_24 : decode cX2_gather 24 = .ok (.iinc 3 1, 3) := by decide +kernel
theorem dX2_gather_27 : decode cX2_gather 27 = .ok (.goto (-23), 3) := by decide +kernel
theorem dX2_gather_30 : decode cX2_gather 30 = .ok (.iload_n 2, 1) := by decide +kernel
theorem dX2_gather_31 : decode cX2_gather 31 = .ok (.ireturn, 1) := by decide +kernel
theorem dX3_init_0 : decode cX3_init 0 = .ok (.aload_n 0, 1) := by decide +kernel
theorem dX3_init_1 : decode cX3_init 1 = .ok (.invokespecial 3, 3) := by decide +kernel
theorem dX3_init_4 : decode cX3_init 4 = .ok (.aload_n 0, 1) := by decide +kernel
theorem dX3_init_5 : decode cX3_init 5 = .ok (.bipush 64, 2) := by decide +kernel
theorem dX3_init_7 : decode cX3_init 7 = .ok (.newarray .int, 2) := by decide +kernel
theorem dX3_init_9 : decode cX3_init 9 = .ok (.putfield 9, 3) := by decide +kernel
theorem dX3_init_12 : decode cX3_init 12 = .ok (.aload_n 0, 1) := by decide +kernel
theorem dX3_init_13 : decode cX3_init 13 = .ok (.iconst 0, 1) := by decide +kernel
theorem dX3_init_14 : decode cX3_init 14 = .ok (.putfield 15, 3) := by decide +kernel
theorem dX3_init_17 : decode cX3_init 17 = .ok (.return_, 1) := by decide +kernel
theorem dX4_init_0 : decode cX4_init 0 = .ok (.aload_n 0, 1) := by decide +kernel
theorem dX4_init_1 : decode cX4_init 1 = .ok (.invokespecial 3, 3) := by decide +kernel
theorem dX4_init_4 : decode cX4_init 4 = .ok (.aload_n 0, 1) := by decide +kernel
theorem dX4_init_5 : decode cX4_init 5 = .ok (.sipush 256, 3) := by decide +kernel
theorem dX4_init_8 : decode cX4_init 8 = .ok (.newarray .int, 2) := by decide +kernel
theorem dX4_init_10 : decode cX4_init 10 = .ok (.putfield 9, 3) := by decide +kernel
theorem dX4_init_13 : decode cX4_init 13 = .ok (.return_, 1) := by decide +kernel
set_option maxRecDepth 20000 in
theorem ggX4_reckon_X2_everything : GoodIn wsX4_reckon wsX2_everything := goodIn_r _ [6, 7, 65, 66, 67] (by decide +kernel) (by decide +kernel)
set_option maxRecDepth 20000 in
theorem gX4_reckon_X2_everything : GoodIn wsX4_reckon (wsV RX4 15 RX2 yX2_everything wsX2_everything) := goodIn_app (goodIn_of _ (by decide +kernel)) ggX4_reckon_X2_everything
theorem dX4_reckon_0 : decode cX4_reckon 0 = .ok (.aload_n 1, 1) := by decide +kernel
theorem dX4_reckon_1 : decode cX4_reckon 1 = .ok (.invokevirtual 15, 3) := by decide +kernel
theorem dX4_reckon_4 : decode cX4_reckon 4 = .ok (.sipush 255, 3) := by decide +kernel
theorem dX4_reckon_7 : decode cX4_reckon 7 = .ok (.iand, 1) := by decide +kernel
theorem dX4_reckon_8 : decode cX4_reckon 8 = .ok (.istore 4, 2) := by decide +kernel
theorem dX4_reckon_10 : decode cX4_reckon 10 = .ok (.aload_n 0, 1) := by decide +kernel
theorem dX4_reckon_11 : decode cX4_reckon 11 = .ok (.getfield 9, 3) := by decide +kernel
theorem dX4_reckon_14 : decode cX4_reckon 14 = .ok (.iconst 0, 1) := by decide +kernel
theorem dX4_reckon_15 : decode cX4_reckon 15 = .ok (.iconst 1, 1) := by decide +kernel
theorem dX4_reckon_16 : decode cX4_reckon 16 = .ok (.iastore, 1) := by decide +kernel
theorem dX4_reckon_17 : decode cX4_reckon 17 = .ok (.iconst 1, 1) := by decide +kernel
theorem dX4_reckon_18 : decode cX4_reckon 18 = .ok (.istore 5, 2) := by decide +kernel
theorem dX4_reckon_20 : decode cX4_reckon 20 = .ok (.iload 5, 2) := by decide +kernel
theorem dX4_reckon_22 : decode cX4_reckon 22 = .ok (.iload 4, 2) := by decide +kernel
theorem dX4_reckon_24 : decode cX4_reckon 24 = .ok (.if_icmp .gt 58, 3) := by decide +kernel
theorem dX4_reckon_82 : decode cX4_reckon 82 = .ok (.aload_n 0, 1) := by decide +kernel
theorem dX4_reckon_83 : decode cX4_reckon 83 = .ok (.getfield 9, 3) := by decide +kernel
theorem dX4_reckon_86 : decode cX4_reckon 86 = .ok (.iload 4, 2) := by decide +kernel
theorem dX4_reckon_88 : decode cX4_reckon 88 = .ok (.iaload, 1) := by decide +kernel
theorem dX4_reckon_89 : decode cX4_reckon 89 = .ok (.ireturn, 1) := by decide +kernel
set_option maxRecDepth 20000 in
theorem ggX5_init_X0_init : GoodIn wsX5_init wsX0_init := goodIn_r _ [11, 12, 2, 3, 13, 14, 15, 16, 17] (by decide +kernel) (by decide +kernel)
set_option maxRecDepth 20000 in
theorem gX5_init_X0_init_n9 : GoodIn wsX5_init (wsX0_init) := ggX5_init_X0_init
theorem dX5_init_0 : decode cX5_init 0 = .ok (.aload_n 0, 1) := by decide +kernel
theorem dX5_init_1 : decode cX5_init 1 = .ok (.invokespecial 1, 3) := by decide +kernel
theorem dX5_init_4 : decode cX5_init 4 = .ok (.aload_n 0, 1) := by decide +kernel
theorem dX5_init_5 : decode cX5_init 5 = .ok (.new 7, 3) := by decide +kernel
theorem dX5_init_8 : decode cX5_init 8 = .ok (.dup, 1) := by decide +kernel
theorem dX5_init_9 : decode cX5_init 9 = .ok (.invokespecial 9, 3) := by decide +kernel
theorem dX5_init_12 : decode cX5_init 12 = .ok (.putfield 10, 3) := by decide +kernel
theorem dX5_init_15 : decode cX5_init 15 = .ok (.aload_n 0, 1) := by decide +kernel
theorem dX5_init_16 : decode cX5_init 16 = .ok (.new 7, 3) := by decide +kernel
theorem dX5_init_19 : decode cX5_init 19 = .ok (.dup, 1) := by decide +kernel
theorem dX5_init_20 : decode cX5_init 20 = .ok (.invokespecial 9, 3) := by decide +kernel
theorem dX5_init_23 : decode cX5_init 23 = .ok (.putfield 16, 3) := by decide +kernel
theorem dX5_init_26 : decode cX5_init 26 = .ok (.aload_n 0, 1) := by decide +kernel
theorem dX5_init_27 : decode cX5_init 27 = .ok (.new 7, 3) := by decide +kernel
theorem dX5_init_30 : decode cX5_init 30 = .ok (.dup, 1) := by decide +kernel
theorem dX5_init_31 : decode cX5_init 31 = .ok (.invokespecial 9, 3) := by decide +kernel
theorem dX5_init_34 : decode cX5_init 34 = .ok (.putfield 19, 3) := by decide +kernel
theorem dX5_init_37 : decode cX5_init 37 = .ok (.return_, 1) := by decide +kernel
theorem dX6_init_0 : decode cX6_init 0 = .ok (.aload_n 0, 1) := by decide +kernel
theorem dX6_init_1 : decode cX6_init 1 = .ok (.invokespecial 3, 3) := by decide +kernel
theorem dX6_init_4 : decode cX6_init 4 = .ok (.aload_n 0, 1) := by decide +kernel
theorem dX6_init_5 : decode cX6_init 5 = .ok (.sipush 256, 3) := by decide +kernel
theorem dX6_init_8 : decode cX6_init 8 = .ok (.newarray .long, 2) := by decide +kernel
theorem dX6_init_10 : decode cX6_init 10 = .ok (.putfield 9, 3) := by decide +kernel
theorem dX6_init_13 : decode cX6_init 13 = .ok (.aload_n 0, 1) := by decide +kernel
theorem dX6_init_14 : decode cX6_init 14 = .ok (.iconst 0, 1) := by decide +kernel
theorem dX6_init_15 : decode cX6_init 15 = .ok (.putfield 15, 3) := by decide +kernel
theorem dX6_init_18 : decode cX6_init 18 = .ok (.return_, 1) := by decide +kernel
set_option maxRecDepth 20000 in
theorem ggX6_weigh_X2_everything : GoodIn wsX6_weigh wsX2_everything := goodIn_r _ [7, 8, 69, 70, 71] (by decide +kernel) (by decide +kernel)
set_option maxRecDepth 20000 in
theorem gX6_weigh_X2_everything : GoodIn wsX6_weigh (wsV RX6 19 RX2 yX2_everything wsX2_everything) := goodIn_app (goodIn_of _ (by decide +kernel)) ggX6_weigh_X2_everything
set_option maxRecDepth 20000 in
theorem ggX6_weigh_X2_size : GoodIn wsX6_weigh wsX2_size := goodIn_r _ [12, 8, 69, 70, 71] (by decide +kernel) (by decide +kernel)
set_option maxRecDepth 20000 in
theorem gX6_weigh_X2_size : GoodIn wsX6_weigh (wsV RX6 24 RX2 yX2_size wsX2_size) := goodIn_app (goodIn_of _ (by decide +kernel)) ggX6_weigh_X2_size
theorem dX6_weigh_0 : decode cX6_weigh 0 = .ok (.aload_n 0, 1) := by decide +kernel
theorem dX6_weigh_1 : decode cX6_weigh 1 = .ok (.aload_n 1, 1) := by decide +kernel
theorem dX6_weigh_2 : decode cX6_weigh 2 = .ok (.invokevirtual 19, 3) := by decide +kernel
theorem dX6_weigh_5 : decode cX6_weigh 5 = .ok (.putfield 15, 3) := by decide +kernel
theorem dX6_weigh_8 : decode cX6_weigh 8 = .ok (.aload_n 0, 1) := by decide +kernel
theorem dX6_weigh_9 : decode cX6_weigh 9 = .ok (.getfield 9, 3) := by decide +kernel
theorem dX6_weigh_12 : decode cX6_weigh 12 = .ok (.iconst 0, 1) := by decide +kernel
theorem dX6_weigh_13 : decode cX6_weigh 13 = .ok (.lconst 1, 1) := by decide +kernel
theorem dX6_weigh_14 : decode cX6_weigh 14 = .ok (.lastore, 1) := by decide +kernel
theorem dX6_weigh_15 : decode cX6_weigh 15 = .ok (.iconst 0, 1) := by decide +kernel
theorem dX6_weigh_16 : decode cX6_weigh 16 = .ok (.istore 4, 2) := by decide +kernel
theorem dX6_weigh_18 : decode cX6_weigh 18 = .ok (.iconst 0, 1) := by decide +kernel
theorem dX6_weigh_19 : decode cX6_weigh 19 = .ok (.istore 5, 2) := by decide +kernel
theorem dX6_weigh_21 : decode cX6_weigh 21 = .ok (.iload 5, 2) := by decide +kernel
theorem dX6_weigh_23 : decode cX6_weigh 23 = .ok (.aload_n 1, 1) := by decide +kernel
theorem dX6_weigh_24 : decode cX6_weigh 24 = .ok (.invokevirtual 24, 3) := by decide +kernel
theorem dX6_weigh_27 : decode cX6_weigh 27 = .ok (.if_icmp .ge 92, 3) := by decide +kernel
theorem dX6_weigh_119 : decode cX6_weigh 119 = .ok (.return_, 1) := by decide +kernel
set_option maxRecDepth 20000 in
theorem ggX6_having_X7_partsOf : GoodIn wsX6_having wsX7_partsOf := goodIn_r _ [5, 6, 7, 8, 9, 10, 11, 12] (by decide +kernel) (by decide +kernel)
set_option maxRecDepth 20000 in
theorem gX6_having_X7_partsOf_n31 : GoodIn wsX6_having (wsX7_partsOf) := ggX6_having_X7_partsOf
set_option maxRecDepth 20000 in
theorem ggX6_having_X7_nextPart : GoodIn wsX6_having wsX7_nextPart := goodIn_r _ [14] (by decide +kernel) (by decide +kernel)
set_option maxRecDepth 20000 in
theorem gX6_having_X7_nextPart_n47 : GoodIn wsX6_having (wsX7_nextPart) := ggX6_having_X7_nextPart
theorem dX6_having_0 : decode cX6_having 0 = .ok (.aload_n 0, 1) := by decide +kernel
theorem dX6_having_1 : decode cX6_having 1 = .ok (.getfield 15, 3) := by decide +kernel
theorem dX6_having_4 : decode cX6_having 4 = .ok (.iload_n 1, 1) := by decide +kernel
theorem dX6_having_5 : decode cX6_having 5 = .ok (.iconst (-1), 1) := by decide +kernel
theorem dX6_having_6 : decode cX6_having 6 = .ok (.ixor, 1) := by decide +kernel
theorem dX6_having_7 : decode cX6_having 7 = .ok (.iand, 1) := by decide +kernel
theorem dX6_having_8 : decode cX6_having 8 = .ok (.istore_n 3, 1) := by decide +kernel
theorem dX6_having_9 : decode cX6_having 9 = .ok (.iload_n 3, 1) := by decide +kernel
theorem dX6_having_10 : decode cX6_having 10 = .ok (.invokestatic 31, 3) := by decide +kernel
theorem dX6_having_13 : decode cX6_having 13 = .ok (.istore 4, 2) := by decide +kernel
theorem dX6_having_15 : decode cX6_having 15 = .ok (.lconst 0, 1) := by decide +kernel
theorem dX6_having_16 : decode cX6_having 16 = .ok (.lstore 5, 2) := by decide +kernel
theorem dX6_having_18 : decode cX6_having 18 = .ok (.iconst 0, 1) := by decide +kernel
theorem dX6_having_19 : decode cX6_having 19 = .ok (.istore 7, 2) := by decide +kernel
theorem dX6_having_21 : decode cX6_having 21 = .ok (.iconst 0, 1) := by decide +kernel
theorem dX6_having_22 : decode cX6_having 22 = .ok (.istore 8, 2) := by decide +kernel
theorem dX6_having_24 : decode cX6_having 24 = .ok (.iload 7, 2) := by decide +kernel
theorem dX6_having_26 : decode cX6_having 26 = .ok (.iload 4, 2) := by decide +kernel
theorem dX6_having_28 : decode cX6_having 28 = .ok (.if_icmp .ge 35, 3) := by decide +kernel
theorem dX6_having_31 : decode cX6_having 31 = .ok (.lload 5, 2) := by decide +kernel
theorem dX6_having_33 : decode cX6_having 33 = .ok (.aload_n 0, 1) := by decide +kernel
theorem dX6_having_34 : decode cX6_having 34 = .ok (.getfield 9, 3) := by decide +kernel
theorem dX6_having_37 : decode cX6_having 37 = .ok (.iload_n 2, 1) := by decide +kernel
theorem dX6_having_38 : decode cX6_having 38 = .ok (.iload 8, 2) := by decide +kernel
theorem dX6_having_40 : decode cX6_having 40 = .ok (.ior, 1) := by decide +kernel
theorem dX6_having_41 : decode cX6_having 41 = .ok (.sipush 255, 3) := by decide +kernel
theorem dX6_having_44 : decode cX6_having 44 = .ok (.iand, 1) := by decide +kernel
theorem dX6_having_45 : decode cX6_having 45 = .ok (.laload, 1) := by decide +kernel
theorem dX6_having_46 : decode cX6_having 46 = .ok (.ladd, 1) := by decide +kernel
theorem dX6_having_47 : decode cX6_having 47 = .ok (.lstore 5, 2) := by decide +kernel
theorem dX6_having_49 : decode cX6_having 49 = .ok (.iinc 7 1, 3) := by decide +kernel
theorem dX6_having_52 : decode cX6_having 52 = .ok (.iload 8, 2) := by decide +kernel
theorem dX6_having_54 : decode cX6_having 54 = .ok (.iload_n 3, 1) := by decide +kernel
theorem dX6_having_55 : decode cX6_having 55 = .ok (.invokestatic 47, 3) := by decide +kernel
theorem dX6_having_58 : decode cX6_having 58 = .ok (.istore 8, 2) := by decide +kernel
theorem dX6_having_60 : decode cX6_having 60 = .ok (.goto (-36), 3) := by decide +kernel
theorem dX6_having_63 : decode cX6_having 63 = .ok (.lload 5, 2) := by decide +kernel
theorem dX6_having_65 : decode cX6_having 65 = .ok (.lreturn, 1) := by decide +kernel
set_option maxRecDepth 20000 in
theorem ggX7_init_X2_init : GoodIn wsX7_init wsX2_init := goodIn_r _ [33, 34, 2, 3, 35, 36, 37, 38, 72, 73, 74] (by decide +kernel) (by decide +kernel)
set_option maxRecDepth 20000 in
theorem gX7_init_X2_init_n11 : GoodIn wsX7_init (wsX2_init) := ggX7_init_X2_init
set_option maxRecDepth 20000 in
theorem ggX7_init_X1_init : GoodIn wsX7_init wsX1_init := goodIn_r _ [40, 41, 2, 3, 35, 42, 85] (by decide +kernel) (by decide +kernel)
set_option maxRecDepth 20000 in
theorem gX7_init_X1_init_n21 : GoodIn wsX7_init (wsX1_init) := ggX7_init_X1_init
set_option maxRecDepth 20000 in
theorem ggX7_init_X6_init : GoodIn wsX7_init wsX6_init := goodIn_r _ [44, 45, 2, 3, 46, 47, 48, 86, 87] (by decide +kernel) (by decide +kernel)
set_option maxRecDepth 20000 in
theorem gX7_init_X6_init_n28 : GoodIn wsX7_init (wsX6_init) := ggX7_init_X6_init
set_option maxRecDepth 20000 in
theorem ggX7_init_X5_init : GoodIn wsX7_init wsX5_init := goodIn_r _ [50, 51, 2, 3, 52, 53, 54, 55, 56, 57, 58, 59, 60, 46, 61, 62, 94, 95, 88, 89, 90] (by decide +kernel) (by decide +kernel)
set_option maxRecDepth 20000 in
theorem gX7_init_X5_init_n35 : GoodIn wsX7_init (wsX5_init) := ggX7_init_X5_init
set_option maxRecDepth 20000 in
theorem ggX7_init_X3_init : GoodIn wsX7_init wsX3_init := goodIn_r _ [64, 65, 2, 3, 35, 66, 67, 91, 92] (by decide +kernel) (by decide +kernel)
set_option maxRecDepth 20000 in
theorem gX7_init_X3_init_n42 : GoodIn wsX7_init (wsX3_init) := ggX7_init_X3_init
set_option maxRecDepth 20000 in
theorem ggX7_init_X4_init : GoodIn wsX7_init wsX4_init := goodIn_r _ [69, 70, 2, 3, 35, 71, 93] (by decide +kernel) (by decide +kernel)
set_option maxRecDepth 20000 in
theorem gX7_init_X4_init_n49 : GoodIn wsX7_init (wsX4_init) := ggX7_init_X4_init
theorem dX7_init_0 : decode cX7_init 0 = .ok (.aload_n 0, 1) := by decide +kernel
theorem dX7_init_1 : decode cX7_init 1 = .ok (.invokespecial 3, 3) := by decide +kernel
theorem dX7_init_4 : decode cX7_init 4 = .ok (.aload_n 0, 1) := by decide +kernel
theorem dX7_init_5 : decode cX7_init 5 = .ok (.new 9, 3) := by decide +kernel
theorem dX7_init_8 : decode cX7_init 8 = .ok (.dup, 1) := by decide +kernel
theorem dX7_init_9 : decode cX7_init 9 = .ok (.invokespecial 11, 3) := by decide +kernel
theorem dX7_init_12 : decode cX7_init 12 = .ok (.putfield 12, 3) := by decide +kernel
theorem dX7_init_15 : decode cX7_init 15 = .ok (.aload_n 0, 1) := by decide +kernel
theorem dX7_init_16 : decode cX7_init 16 = .ok (.new 9, 3) := by decide +kernel
theorem dX7_init_19 : decode cX7_init 19 = .ok (.dup, 1) := by decide +kernel
theorem dX7_init_20 : decode cX7_init 20 = .ok (.invokespecial 11, 3) := by decide +kernel
theorem dX7_init_23 : decode cX7_init 23 = .ok (.putfield 16, 3) := by decide +kernel
theorem dX7_init_26 : decode cX7_init 26 = .ok (.aload_n 0, 1) := by decide +kernel
theorem dX7_init_27 : decode cX7_init 27 = .ok (.new 19, 3) := by decide +kernel
theorem dX7_init_30 : decode cX7_init 30 = .ok (.dup, 1) := by decide +kernel
theorem dX7_init_31 : decode cX7_init 31 = .ok (.invokespecial 21, 3) := by decide +kernel
theorem dX7_init_34 : decode cX7_init 34 = .ok (.putfield 22, 3) := by decide +kernel
theorem dX7_init_37 : decode cX7_init 37 = .ok (.aload_n 0, 1) := by decide +kernel
theorem dX7_init_38 : decode cX7_init 38 = .ok (.new 26, 3) := by decide +kernel
theorem dX7_init_41 : decode cX7_init 41 = .ok (.dup, 1) := by decide +kernel
theorem dX7_init_42 : decode cX7_init 42 = .ok (.invokespecial 28, 3) := by decide +kernel
theorem dX7_init_45 : decode cX7_init 45 = .ok (.putfield 29, 3) := by decide +kernel
theorem dX7_init_48 : decode cX7_init 48 = .ok (.aload_n 0, 1) := by decide +kernel
theorem dX7_init_49 : decode cX7_init 49 = .ok (.new 33, 3) := by decide +kernel
theorem dX7_init_52 : decode cX7_init 52 = .ok (.dup, 1) := by decide +kernel
theorem dX7_init_53 : decode cX7_init 53 = .ok (.invokespecial 35, 3) := by decide +kernel
theorem dX7_init_56 : decode cX7_init 56 = .ok (.putfield 36, 3) := by decide +kernel
theorem dX7_init_59 : decode cX7_init 59 = .ok (.aload_n 0, 1) := by decide +kernel
theorem dX7_init_60 : decode cX7_init 60 = .ok (.new 40, 3) := by decide +kernel
theorem dX7_init_63 : decode cX7_init 63 = .ok (.dup, 1) := by decide +kernel
theorem dX7_init_64 : decode cX7_init 64 = .ok (.invokespecial 42, 3) := by decide +kernel
theorem dX7_init_67 : decode cX7_init 67 = .ok (.putfield 43, 3) := by decide +kernel
theorem dX7_init_70 : decode cX7_init 70 = .ok (.aload_n 0, 1) := by decide +kernel
theorem dX7_init_71 : decode cX7_init 71 = .ok (.new 47, 3) := by decide +kernel
theorem dX7_init_74 : decode cX7_init 74 = .ok (.dup, 1) := by decide +kernel
theorem dX7_init_75 : decode cX7_init 75 = .ok (.invokespecial 49, 3) := by decide +kernel
theorem dX7_init_78 : decode cX7_init 78 = .ok (.putfield 50, 3) := by decide +kernel
theorem dX7_init_81 : decode cX7_init 81 = .ok (.aload_n 0, 1) := by decide +kernel
theorem dX7_init_82 : decode cX7_init 82 = .ok (.iconst 0, 1) := by decide +kernel
theorem dX7_init_83 : decode cX7_init 83 = .ok (.putfield 54, 3) := by decide +kernel
theorem dX7_init_86 : decode cX7_init 86 = .ok (.aload_n 0, 1) := by decide +kernel
theorem dX7_init_87 : decode cX7_init 87 = .ok (.lconst 0, 1) := by decide +kernel
theorem dX7_init_88 : decode cX7_init 88 = .ok (.putfield 58, 3) := by decide +kernel
theorem dX7_init_91 : decode cX7_init 91 = .ok (.aload_n 0, 1) := by decide +kernel
theorem dX7_init_92 : decode cX7_init 92 = .ok (.lconst 1, 1) := by decide +kernel
theorem dX7_init_93 : decode cX7_init 93 = .ok (.putfield 62, 3) := by decide +kernel
theorem dX7_init_96 : decode cX7_init 96 = .ok (.return_, 1) := by decide +kernel
set_option maxRecDepth 20000 in
theorem ggX7_thing_X2_grow : GoodIn wsX7_thing wsX2_grow := goodIn_r _ [8, 9, 30, 31, 32] (by decide +kernel) (by decide +kernel)
set_option maxRecDepth 20000 in
theorem gX7_thing_X2_grow : GoodIn wsX7_thing (wsV RX7 65 RX2 yX2_grow wsX2_grow) := goodIn_app (goodIn_of _ (by decide +kernel)) ggX7_thing_X2_grow
set_option maxRecDepth 20000 in
theorem ggX7_thing_X1_blank : GoodIn wsX7_thing wsX1_blank := goodIn_r _ [14, 15, 33] (by decide +kernel) (by decide +kernel)
set_option maxRecDepth 20000 in
theorem gX7_thing_X1_blank : GoodIn wsX7_thing (wsV RX7 69 RX1 yX1_blank wsX1_blank) := goodIn_app (goodIn_of _ (by decide +kernel)) ggX7_thing_X1_blank
set_option maxRecDepth 20000 in
theorem ggX7_thing_X7_bit : GoodIn wsX7_thing wsX7_bit := goodIn_r _ [19] (by decide +kernel) (by decide +kernel)
set_option maxRecDepth 20000 in
theorem gX7_thing_X7_bit : GoodIn wsX7_thing (va_wsS RX7 73 yX7_bit wsX7_bit) := goodIn_app (goodIn_of _ (by decide +kernel)) ggX7_thing_X7_bit
theorem dX7_thing_0 : decode cX7_thing 0 = .ok (.aload_n 0, 1) := by decide +kernel
theorem dX7_thing_1 : decode cX7_thing 1 = .ok (.getfield 12, 3) := by decide +kernel
theorem dX7_thing_4 : decode cX7_thing 4 = .ok (.invokevirtual 65, 3) := by decide +kernel
theorem dX7_thing_7 : decode cX7_thing 7 = .ok (.istore_n 2, 1) := by decide +kernel
theorem dX7_thing_8 : decode cX7_thing 8 = .ok (.iload_n 2, 1) := by decide +kernel
theorem dX7_thing_9 : decode cX7_thing 9 = .ok (.iconst (-1), 1) := by decide +kernel
theorem dX7_thing_10 : decode cX7_thing 10 = .ok (.if_icmp .ne 5, 3) := by decide +kernel
theorem dX7_thing_15 : decode cX7_thing 15 = .ok (.aload_n 0, 1) := by decide +kernel
theorem dX7_thing_16 : decode cX7_thing 16 = .ok (.getfield 22, 3) := by decide +kernel
theorem dX7_thing_19 : decode cX7_thing 19 = .ok (.iload_n 2, 1) := by decide +kernel
theorem dX7_thing_20 : decode cX7_thing 20 = .ok (.invokevirtual 69, 3) := by decide +kernel
theorem dX7_thing_23 : decode cX7_thing 23 = .ok (.iload_n 1, 1) := by decide +kernel
theorem dX7_thing_24 : decode cX7_thing 24 = .ok (.ifCond .eq 16, 3) := by decide +kernel
theorem dX7_thing_27 : decode cX7_thing 27 = .ok (.aload_n 0, 1) := by decide +kernel
theorem dX7_thing_28 : decode cX7_thing 28 = .ok (.dup, 1) := by decide +kernel
theorem dX7_thing_29 : decode cX7_thing 29 = .ok (.getfield 54, 3) := by decide +kernel
theorem dX7_thing_32 : decode cX7_thing 32 = .ok (.iload_n 2, 1) := by decide +kernel
theorem dX7_thing_33 : decode cX7_thing 33 = .ok (.invokestatic 73, 3) := by decide +kernel
theorem dX7_thing_36 : decode cX7_thing 36 = .ok (.ior, 1) := by decide +kernel
theorem dX7_thing_37 : decode cX7_thing 37 = .ok (.putfield 54, 3) := by decide +kernel
theorem dX7_thing_40 : decode cX7_thing 40 = .ok (.iload_n 2, 1) := by decide +kernel
theorem dX7_thing_41 : decode cX7_thing 41 = .ok (.ireturn, 1) := by decide +kernel
set_option maxRecDepth 20000 in
theorem ggX7_arrow_X2_has : GoodIn wsX7_arrow wsX2_has := goodIn_r _ [7, 8, 64, 65, 66] (by decide +kernel) (by decide +kernel)
set_option maxRecDepth 20000 in
theorem gX7_arrow_X2_has : GoodIn wsX7_arrow (wsV RX7 77 RX2 yX2_has wsX2_has) := goodIn_app (goodIn_of _ (by decide +kernel)) ggX7_arrow_X2_has
theorem dX7_arrow_0 : decode cX7_arrow 0 = .ok (.aload_n 0, 1) := by decide +kernel
theorem dX7_arrow_1 : decode cX7_arrow 1 = .ok (.getfield 12, 3) := by decide +kernel
theorem dX7_arrow_4 : decode cX7_arrow 4 = .ok (.iload_n 1, 1) := by decide +kernel
theorem dX7_arrow_5 : decode cX7_arrow 5 = .ok (.invokevirtual 77, 3) := by decide +kernel
theorem dX7_arrow_8 : decode cX7_arrow 8 = .ok (.ifCond .eq 26, 3) := by decide +kernel
theorem dX7_arrow_34 : decode cX7_arrow 34 = .ok (.iconst 0, 1) := by decide +kernel
theorem dX7_arrow_35 : decode cX7_arrow 35 = .ok (.ireturn, 1) := by decide +kernel
set_option maxRecDepth 20000 in
theorem ggX7_cut_X2_leads : GoodIn wsX7_cut wsX2_leads := goodIn_r _ [7, 8, 9, 10, 11, 6, 12, 13, 14, 15, 16, 40, 41, 42] (by decide +kernel) (by decide +kernel)
set_option maxRecDepth 20000 in
theorem gX7_cut_X2_leads : GoodIn wsX7_cut (wsV RX7 89 RX2 yX2_leads wsX2_leads) := goodIn_app (goodIn_of _ (by decide +kernel)) ggX7_cut_X2_leads
theorem dX7_cut_0 : decode cX7_cut 0 = .ok (.aload_n 0, 1) := by decide +kernel
theorem dX7_cut_1 : decode cX7_cut 1 = .ok (.getfield 12, 3) := by decide +kernel
theorem dX7_cut_4 : decode cX7_cut 4 = .ok (.iload_n 1, 1) := by decide +kernel
theorem dX7_cut_5 : decode cX7_cut 5 = .ok (.iload_n 2, 1) := by decide +kernel
theorem dX7_cut_6 : decode cX7_cut 6 = .ok (.invokevirtual 89, 3) := by decide +kernel
theorem dX7_cut_9 : decode cX7_cut 9 = .ok (.ifCond .ne 5, 3) := by decide +kernel
theorem dX7_cut_12 : decode cX7_cut 12 = .ok (.iconst 0, 1) := by decide +kernel
theorem dX7_cut_13 : decode cX7_cut 13 = .ok (.ireturn, 1) := by decide +kernel
set_option maxRecDepth 20000 in
theorem ggX7_turn_X2_leads : GoodIn wsX7_turn wsX2_leads := goodIn_r _ [7, 8, 9, 10, 11, 6, 12, 13, 14, 15, 16, 71, 72, 73] (by decide +kernel) (by decide +kernel)
set_option maxRecDepth 20000 in
theorem gX7_turn_X2_leads : GoodIn wsX7_turn (wsV RX7 89 RX2 yX2_leads wsX2_leads) := goodIn_app (goodIn_of _ (by decide +kernel)) ggX7_turn_X2_leads
theorem dX7_turn_0 : decode cX7_turn 0 = .ok (.aload_n 0, 1) := by decide +kernel
theorem dX7_turn_1 : decode cX7_turn 1 = .ok (.getfield 12, 3) := by decide +kernel
theorem dX7_turn_4 : decode cX7_turn 4 = .ok (.iload_n 1, 1) := by decide +kernel
theorem dX7_turn_5 : decode cX7_turn 5 = .ok (.iload_n 2, 1) := by decide +kernel
theorem dX7_turn_6 : decode cX7_turn 6 = .ok (.invokevirtual 89, 3) := by decide +kernel
theorem dX7_turn_9 : decode cX7_turn 9 = .ok (.ifCond .ne 5, 3) := by decide +kernel
theorem dX7_turn_12 : decode cX7_turn 12 = .ok (.iconst 0, 1) := by decide +kernel
theorem dX7_turn_13 : decode cX7_turn 13 = .ok (.ireturn, 1) := by decide +kernel
set_option maxRecDepth 20000 in
theorem ggX7_book_X7_hasRow : GoodIn wsX7_book wsX7_hasRow := goodIn_r _ [6, 7, 8, 9, 10, 11, 12, 13, 14, 15, 16, 17, 18, 19, 20, 21, 5, 22, 23, 24, 25, 26, 27, 28, 29, 39, 40, 41, 42, 43, 44, 45, 46, 47, 48, 49, 50, 51] (by decide +kernel) (by decide +kernel)
set_option maxRecDepth 20000 in
theorem gX7_book_X7_hasRow : GoodIn wsX7_book (wsV RX7 95 RX7 yX7_hasRow wsX7_hasRow) := goodIn_app (goodIn_of _ (by decide +kernel)) ggX7_book_X7_hasRow
theorem dX7_book_0 : decode cX7_book 0 = .ok (.aload_n 0, 1) := by decide +kernel
theorem dX7_book_1 : decode cX7_book 1 = .ok (.iload_n 1, 1) := by decide +kernel
theorem dX7_book_2 : decode cX7_book 2 = .ok (.iload_n 2, 1) := by decide +kernel
theorem dX7_book_3 : decode cX7_book 3 = .ok (.invokevirtual 95, 3) := by decide +kernel
theorem dX7_book_6 : decode cX7_book 6 = .ok (.ifCond .eq 13, 3) := by decide +kernel
theorem dX7_book_19 : decode cX7_book 19 = .ok (.iconst 0, 1) := by decide +kernel
theorem dX7_book_20 : decode cX7_book 20 = .ok (.ireturn, 1) := by decide +kernel
set_option maxRecDepth 20000 in
theorem ggX7_booked_X7_hasRow : GoodIn wsX7_booked wsX7_hasRow := goodIn_r _ [6, 7, 8, 9, 10, 11, 12, 13, 14, 15, 16, 17, 18, 19, 20, 21, 5, 22, 23, 24, 25, 26, 27, 28, 29, 39, 40, 41, 42, 43, 44, 45, 46, 47, 48, 49, 50, 51] (by decide +kernel) (by decide +kernel)
set_option maxRecDepth 20000 in
theorem gX7_booked_X7_hasRow : GoodIn wsX7_booked (wsV RX7 95 RX7 yX7_hasRow wsX7_hasRow) := goodIn_app (goodIn_of _ (by decide +kernel)) ggX7_booked_X7_hasRow
theorem dX7_booked_0 : decode cX7_booked 0 = .ok (.aload_n 0, 1) := by decide +kernel
theorem dX7_booked_1 : decode cX7_booked 1 = .ok (.iload_n 1, 1) := by decide +kernel
theorem dX7_booked_2 : decode cX7_booked 2 = .ok (.iload_n 2, 1) := by decide +kernel
theorem dX7_booked_3 : decode cX7_booked 3 = .ok (.invokevirtual 95, 3) := by decide +kernel
theorem dX7_booked_6 : decode cX7_booked 6 = .ok (.ifCond .eq 15, 3) := by decide +kernel
theorem dX7_booked_21 : decode cX7_booked 21 = .ok (.iconst (-1), 1) := by decide +kernel
theorem dX7_booked_22 : decode cX7_booked 22 = .ok (.ireturn, 1) := by decide +kernel
set_option maxRecDepth 20000 in
theorem ggX7_told_X2_has : GoodIn wsX7_told wsX2_has := goodIn_r _ [7, 8, 50, 51, 52] (by decide +kernel) (by decide +kernel)
set_option maxRecDepth 20000 in
theorem gX7_told_X2_has : GoodIn wsX7_told (wsV RX7 77 RX2 yX2_has wsX2_has) := goodIn_app (goodIn_of _ (by decide +kernel)) ggX7_told_X2_has
theorem dX7_told_0 : decode cX7_told 0 = .ok (.aload_n 0, 1) := by decide +kernel
theorem dX7_told_1 : decode cX7_told 1 = .ok (.getfield 12, 3) := by decide +kernel
theorem dX7_told_4 : decode cX7_told 4 = .ok (.iload_n 1, 1) := by decide +kernel
theorem dX7_told_5 : decode cX7_told 5 = .ok (.invokevirtual 77, 3) := by decide +kernel
theorem dX7_told_8 : decode cX7_told 8 = .ok (.ifCond .ne 5, 3) := by decide +kernel
theorem dX7_told_11 : decode cX7_told 11 = .ok (.iconst (-1), 1) := by decide +kernel
theorem dX7_told_12 : decode cX7_told 12 = .ok (.ireturn, 1) := by decide +kernel
set_option maxRecDepth 20000 in
theorem ggX7_weight_X7_isSetting : GoodIn wsX7_weight wsX7_isSetting := goodIn_r _ [9, 10, 11, 8, 12, 13, 14, 15, 16, 3, 17, 18, 19, 20, 21, 22, 23, 24, 25, 90, 91, 92, 93, 94, 95, 96, 97, 98, 99, 100, 101, 102] (by decide +kernel) (by decide +kernel)
set_option maxRecDepth 20000 in
theorem gX7_weight_X7_isSetting : GoodIn wsX7_weight (wsV RX7 118 RX7 yX7_isSetting wsX7_isSetting) := goodIn_app (goodIn_of _ (by decide +kernel)) ggX7_weight_X7_isSetting
set_option maxRecDepth 20000 in
theorem ggX7_weight_X6_weigh : GoodIn wsX7_weight wsX6_weigh := goodIn_r _ [30, 31, 32, 33, 18, 19, 20, 21, 22, 34, 35, 36, 37, 38, 39, 40, 41, 42, 43, 8, 44, 45, 46, 47, 48, 49, 50, 51, 52, 53, 54, 55, 56, 57, 58, 59, 60, 11, 12, 24, 25, 61, 62, 63, 64, 65, 66, 67, 68, 69, 70, 71, 72, 73, 74, 75, 76, 77, 78, 79, 80, 81, 82, 29, 83, 84, 85, 103, 104, 100, 101, 102, 105] (by decide +kernel) (by decide +kernel)
set_option maxRecDepth 20000 in
theorem gX7_weight_X6_weigh : GoodIn wsX7_weight (wsV RX7 123 RX6 yX6_weigh wsX6_weigh) := goodIn_app (goodIn_of _ (by decide +kernel)) ggX7_weight_X6_weigh
set_option maxRecDepth 20000 in
theorem ggX7_weight_X7_heapOf : GoodIn wsX7_weight wsX7_heapOf := goodIn_r _ [12] (by decide +kernel) (by decide +kernel)
set_option maxRecDepth 20000 in
theorem gX7_weight_X7_heapOf : GoodIn wsX7_weight (va_wsS RX7 127 yX7_heapOf wsX7_heapOf) := goodIn_app (goodIn_of _ (by decide +kernel)) ggX7_weight_X7_heapOf
set_option maxRecDepth 20000 in
theorem ggX7_weight_X7_onesOf : GoodIn wsX7_weight wsX7_onesOf := goodIn_r _ [25] (by decide +kernel) (by decide +kernel)
set_option maxRecDepth 20000 in
theorem gX7_weight_X7_onesOf : GoodIn wsX7_weight (va_wsS RX7 130 yX7_onesOf wsX7_onesOf) := goodIn_app (goodIn_of _ (by decide +kernel)) ggX7_weight_X7_onesOf
set_option maxRecDepth 20000 in
theorem ggX7_weight_X6_having : GoodIn wsX7_weight wsX6_having := goodIn_r _ [89, 31, 32, 45, 8, 46, 47, 48, 49, 50, 51, 52, 53, 84, 85, 103, 104] (by decide +kernel) (by decide +kernel)
set_option maxRecDepth 20000 in
theorem gX7_weight_X6_having : GoodIn wsX7_weight (wsV RX7 133 RX6 yX6_having wsX6_having) := goodIn_app (goodIn_of _ (by decide +kernel)) ggX7_weight_X6_having
theorem dX7_weight_0 : decode cX7_weight 0 = .ok (.aload_n 0, 1) := by decide +kernel
theorem dX7_weight_1 : decode cX7_weight 1 = .ok (.iload_n 1, 1) := by decide +kernel
theorem dX7_weight_2 : decode cX7_weight 2 = .ok (.invokevirtual 118, 3) := by decide +kernel
theorem dX7_weight_5 : decode cX7_weight 5 = .ok (.ifCond .eq 11, 3) := by decide +kernel
theorem dX7_weight_8 : decode cX7_weight 8 = .ok (.aload_n 0, 1) := by decide +kernel
theorem dX7_weight_9 : decode cX7_weight 9 = .ok (.iload_n 2, 1) := by decide +kernel
theorem dX7_weight_10 : decode cX7_weight 10 = .ok (.invokevirtual 118, 3) := by decide +kernel
theorem dX7_weight_13 : decode cX7_weight 13 = .ok (.ifCond .ne 7, 3) := by decide +kernel
theorem dX7_weight_16 : decode cX7_weight 16 = .ok (.ldc2_w 121, 3) := by decide +kernel
theorem dX7_weight_19 : decode cX7_weight 19 = .ok (.lreturn, 1) := by decide +kernel
theorem dX7_weight_20 : decode cX7_weight 20 = .ok (.aload_n 0, 1) := by decide +kernel
theorem dX7_weight_21 : decode cX7_weight 21 = .ok (.getfield 29, 3) := by decide +kernel
theorem dX7_weight_24 : decode cX7_weight 24 = .ok (.aload_n 0, 1) := by decide +kernel
theorem dX7_weight_25 : decode cX7_weight 25 = .ok (.getfield 12, 3) := by decide +kernel
theorem dX7_weight_28 : decode cX7_weight 28 = .ok (.aload_n 0, 1) := by decide +kernel
theorem dX7_weight_29 : decode cX7_weight 29 = .ok (.getfield 22, 3) := by decide +kernel
theorem dX7_weight_32 : decode cX7_weight 32 = .ok (.iload_n 2, 1) := by decide +kernel
theorem dX7_weight_33 : decode cX7_weight 33 = .ok (.invokevirtual 123, 3) := by decide +kernel
theorem dX7_weight_36 : decode cX7_weight 36 = .ok (.aload_n 0, 1) := by decide +kernel
theorem dX7_weight_37 : decode cX7_weight 37 = .ok (.getfield 29, 3) := by decide +kernel
theorem dX7_weight_40 : decode cX7_weight 40 = .ok (.iload_n 1, 1) := by decide +kernel
theorem dX7_weight_41 : decode cX7_weight 41 = .ok (.invokestatic 127, 3) := by decide +kernel
theorem dX7_weight_44 : decode cX7_weight 44 = .ok (.iload_n 1, 1) := by decide +kernel
theorem dX7_weight_45 : decode cX7_weight 45 = .ok (.invokestatic 130, 3) := by decide +kernel
theorem dX7_weight_48 : decode cX7_weight 48 = .ok (.invokevirtual 133, 3) := by decide +kernel
theorem dX7_weight_51 : decode cX7_weight 51 = .ok (.lreturn, 1) := by decide +kernel
set_option maxRecDepth 20000 in
theorem ggX7_chance_X7_isSetting : GoodIn wsX7_chance wsX7_isSetting := goodIn_r _ [10, 11, 12, 9, 13, 14, 15, 16, 17, 4, 18, 19, 20, 21, 22, 23, 24, 25, 26, 101, 102, 103, 104, 105, 106, 107, 108, 109, 110, 111, 112, 113] (by decide +kernel) (by decide +kernel)
set_option maxRecDepth 20000 in
theorem gX7_chance_X7_isSetting : GoodIn wsX7_chance (wsV RX7 118 RX7 yX7_isSetting wsX7_isSetting) := goodIn_app (goodIn_of _ (by decide +kernel)) ggX7_chance_X7_isSetting
set_option maxRecDepth 20000 in
theorem ggX7_chance_X6_weigh : GoodIn wsX7_chance wsX6_weigh := goodIn_r _ [31, 32, 33, 34, 19, 20, 21, 22, 23, 35, 36, 37, 38, 39, 40, 41, 42, 43, 44, 9, 45, 46, 47, 48, 49, 50, 51, 52, 53, 54, 55, 56, 57, 58, 59, 60, 61, 12, 13, 25, 26, 62, 63, 64, 65, 66, 67, 68, 69, 70, 71, 72, 73, 74, 75, 76, 77, 78, 79, 80, 81, 82, 83, 30, 84, 85, 86, 114, 115, 111, 112, 113, 116] (by decide +kernel) (by decide +kernel)
set_option maxRecDepth 20000 in
theorem gX7_chance_X6_weigh : GoodIn wsX7_chance (wsV RX7 123 RX6 yX6_weigh wsX6_weigh) := goodIn_app (goodIn_of _ (by decide +kernel)) ggX7_chance_X6_weigh
set_option maxRecDepth 20000 in
theorem ggX7_chance_X7_heapOf : GoodIn wsX7_chance wsX7_heapOf := goodIn_r _ [13] (by decide +kernel) (by decide +kernel)
set_option maxRecDepth 20000 in
theorem gX7_chance_X7_heapOf : GoodIn wsX7_chance (va_wsS RX7 127 yX7_heapOf wsX7_heapOf) := goodIn_app (goodIn_of _ (by decide +kernel)) ggX7_chance_X7_heapOf
set_option maxRecDepth 20000 in
theorem ggX7_chance_X7_onesOf : GoodIn wsX7_chance wsX7_onesOf := goodIn_r _ [26] (by decide +kernel) (by decide +kernel)
set_option maxRecDepth 20000 in
theorem gX7_chance_X7_onesOf : GoodIn wsX7_chance (va_wsS RX7 130 yX7_onesOf wsX7_onesOf) := goodIn_app (goodIn_of _ (by decide +kernel)) ggX7_chance_X7_onesOf
set_option maxRecDepth 20000 in
theorem ggX7_chance_X6_having : GoodIn wsX7_chance wsX6_having := goodIn_r _ [90, 32, 33, 46, 9, 47, 48, 49, 50, 51, 52, 53, 54, 85, 86, 114, 115] (by decide +kernel) (by decide +kernel)
set_option maxRecDepth 20000 in
theorem gX7_chance_X6_having : GoodIn wsX7_chance (wsV RX7 133 RX6 yX6_having wsX6_having) := goodIn_app (goodIn_of _ (by decide +kernel)) ggX7_chance_X6_having
set_option maxRecDepth 20000 in
theorem ggX7_chance_X7_clash : GoodIn wsX7_chance wsX7_clash := goodIn_r _ [93, 11, 12, 9, 13, 24, 25, 26] (by decide +kernel) (by decide +kernel)
set_option maxRecDepth 20000 in
theorem gX7_chance_X7_clash : GoodIn wsX7_chance (va_wsS RX7 137 yX7_clash wsX7_clash) := goodIn_app (goodIn_of _ (by decide +kernel)) ggX7_chance_X7_clash
set_option maxRecDepth 20000 in
theorem ggX7_chance_X7_commonDivisor : GoodIn wsX7_chance wsX7_commonDivisor := goodIn_r _ [96, 97, 98, 99, 100] (by decide +kernel) (by decide +kernel)
set_option maxRecDepth 20000 in
theorem gX7_chance_X7_commonDivisor : GoodIn wsX7_chance (va_wsS RX7 140 yX7_commonDivisor wsX7_commonDivisor) := goodIn_app (goodIn_of _ (by decide +kernel)) ggX7_chance_X7_commonDivisor
theorem dX7_chance_0 : decode cX7_chance 0 = .ok (.aload_n 0, 1) := by decide +kernel
theorem dX7_chance_1 : decode cX7_chance 1 = .ok (.lconst 0, 1) := by decide +kernel
theorem dX7_chance_2 : decode cX7_chance 2 = .ok (.putfield 58, 3) := by decide +kernel
theorem dX7_chance_5 : decode cX7_chance 5 = .ok (.aload_n 0, 1) := by decide +kernel
theorem dX7_chance_6 : decode cX7_chance 6 = .ok (.lconst 1, 1) := by decide +kernel
theorem dX7_chance_7 : decode cX7_chance 7 = .ok (.putfield 62, 3) := by decide +kernel
theorem dX7_chance_10 : decode cX7_chance 10 = .ok (.aload_n 0, 1) := by decide +kernel
theorem dX7_chance_11 : decode cX7_chance 11 = .ok (.iload_n 1, 1) := by decide +kernel
theorem dX7_chance_12 : decode cX7_chance 12 = .ok (.invokevirtual 118, 3) := by decide +kernel
theorem dX7_chance_15 : decode cX7_chance 15 = .ok (.ifCond .eq 19, 3) := by decide +kernel
theorem dX7_chance_18 : decode cX7_chance 18 = .ok (.aload_n 0, 1) := by decide +kernel
theorem dX7_chance_19 : decode cX7_chance 19 = .ok (.iload_n 2, 1) := by decide +kernel
theorem dX7_chance_20 : decode cX7_chance 20 = .ok (.invokevirtual 118, 3) := by decide +kernel
theorem dX7_chance_23 : decode cX7_chance 23 = .ok (.ifCond .eq 11, 3) := by decide +kernel
theorem dX7_chance_26 : decode cX7_chance 26 = .ok (.aload_n 0, 1) := by decide +kernel
theorem dX7_chance_27 : decode cX7_chance 27 = .ok (.iload_n 3, 1) := by decide +kernel
theorem dX7_chance_28 : decode cX7_chance 28 = .ok (.invokevirtual 118, 3) := by decide +kernel
theorem dX7_chance_31 : decode cX7_chance 31 = .ok (.ifCond .ne 5, 3) := by decide +kernel
theorem dX7_chance_34 : decode cX7_chance 34 = .ok (.iconst (-1), 1) := by decide +kernel
theorem dX7_chance_35 : decode cX7_chance 35 = .ok (.ireturn, 1) := by decide +kernel
theorem dX7_chance_36 : decode cX7_chance 36 = .ok (.aload_n 0, 1) := by decide +kernel
theorem dX7_chance_37 : decode cX7_chance 37 = .ok (.getfield 29, 3) := by decide +kernel
theorem dX7_chance_40 : decode cX7_chance 40 = .ok (.aload_n 0, 1) := by decide +kernel
theorem dX7_chance_41 : decode cX7_chance 41 = .ok (.getfield 12, 3) := by decide +kernel
theorem dX7_chance_44 : decode cX7_chance 44 = .ok (.aload_n 0, 1) := by decide +kernel
theorem dX7_chance_45 : decode cX7_chance 45 = .ok (.getfield 22, 3) := by decide +kernel
theorem dX7_chance_48 : decode cX7_chance 48 = .ok (.iload_n 3, 1) := by decide +kernel
theorem dX7_chance_49 : decode cX7_chance 49 = .ok (.invokevirtual 123, 3) := by decide +kernel
theorem dX7_chance_52 : decode cX7_chance 52 = .ok (.aload_n 0, 1) := by decide +kernel
theorem dX7_chance_53 : decode cX7_chance 53 = .ok (.getfield 29, 3) := by decide +kernel
theorem dX7_chance_56 : decode cX7_chance 56 = .ok (.iload_n 2, 1) := by decide +kernel
theorem dX7_chance_57 : decode cX7_chance 57 = .ok (.invokestatic 127, 3) := by decide +kernel
theorem dX7_chance_60 : decode cX7_chance 60 = .ok (.iload_n 2, 1) := by decide +kernel
theorem dX7_chance_61 : decode cX7_chance 61 = .ok (.invokestatic 130, 3) := by decide +kernel
theorem dX7_chance_64 : decode cX7_chance 64 = .ok (.invokevirtual 133, 3) := by decide +kernel
theorem dX7_chance_67 : decode cX7_chance 67 = .ok (.lstore 4, 2) := by decide +kernel
theorem dX7_chance_69 : decode cX7_chance 69 = .ok (.lload 4, 2) := by decide +kernel
theorem dX7_chance_71 : decode cX7_chance 71 = .ok (.lconst 0, 1) := by decide +kernel
theorem dX7_chance_72 : decode cX7_chance 72 = .ok (.lcmp, 1) := by decide +kernel
theorem dX7_chance_73 : decode cX7_chance 73 = .ok (.ifCond .gt 5, 3) := by decide +kernel
theorem dX7_chance_78 : decode cX7_chance 78 = .ok (.lconst 0, 1) := by decide +kernel
theorem dX7_chance_79 : decode cX7_chance 79 = .ok (.lstore 6, 2) := by decide +kernel
theorem dX7_chance_81 : decode cX7_chance 81 = .ok (.iload_n 1, 1) := by decide +kernel
theorem dX7_chance_82 : decode cX7_chance 82 = .ok (.iload_n 2, 1) := by decide +kernel
theorem dX7_chance_83 : decode cX7_chance 83 = .ok (.invokestatic 137, 3) := by decide +kernel
theorem dX7_chance_86 : decode cX7_chance 86 = .ok (.ifCond .ne 24, 3) := by decide +kernel
theorem dX7_chance_89 : decode cX7_chance 89 = .ok (.aload_n 0, 1) := by decide +kernel
theorem dX7_chance_90 : decode cX7_chance 90 = .ok (.getfield 29, 3) := by decide +kernel
theorem dX7_chance_93 : decode cX7_chance 93 = .ok (.iload_n 1, 1) := by decide +kernel
theorem dX7_chance_94 : decode cX7_chance 94 = .ok (.iload_n 2, 1) := by decide +kernel
theorem dX7_chance_95 : decode cX7_chance 95 = .ok (.ior, 1) := by decide +kernel
theorem dX7_chance_96 : decode cX7_chance 96 = .ok (.invokestatic 127, 3) := by decide +kernel
theorem dX7_chance_99 : decode cX7_chance 99 = .ok (.iload_n 1, 1) := by decide +kernel
theorem dX7_chance_100 : decode cX7_chance 100 = .ok (.iload_n 2, 1) := by decide +kernel
theorem dX7_chance_101 : decode cX7_chance 101 = .ok (.ior, 1) := by decide +kernel
theorem dX7_chance_102 : decode cX7_chance 102 = .ok (.invokestatic 130, 3) := by decide +kernel
theorem dX7_chance_105 : decode cX7_chance 105 = .ok (.invokevirtual 133, 3) := by decide +kernel
theorem dX7_chance_108 : decode cX7_chance 108 = .ok (.lstore 6, 2) := by decide +kernel
theorem dX7_chance_110 : decode cX7_chance 110 = .ok (.lload 4, 2) := by decide +kernel
theorem dX7_chance_112 : decode cX7_chance 112 = .ok (.lload 6, 2) := by decide +kernel
theorem dX7_chance_114 : decode cX7_chance 114 = .ok (.invokestatic 140, 3) := by decide +kernel
theorem dX7_chance_117 : decode cX7_chance 117 = .ok (.lstore 8, 2) := by decide +kernel
theorem dX7_chance_119 : decode cX7_chance 119 = .ok (.aload_n 0, 1) := by decide +kernel
theorem dX7_chance_120 : decode cX7_chance 120 = .ok (.lload 6, 2) := by decide +kernel
theorem dX7_chance_122 : decode cX7_chance 122 = .ok (.lload 8, 2) := by decide +kernel
theorem dX7_chance_124 : decode cX7_chance 124 = .ok (.ldiv, 1) := by decide +kernel
theorem dX7_chance_125 : decode cX7_chance 125 = .ok (.putfield 58, 3) := by decide +kernel
theorem dX7_chance_128 : decode cX7_chance 128 = .ok (.aload_n 0, 1) := by decide +kernel
theorem dX7_chance_129 : decode cX7_chance 129 = .ok (.lload 4, 2) := by decide +kernel
theorem dX7_chance_131 : decode cX7_chance 131 = .ok (.lload 8, 2) := by decide +kernel
theorem dX7_chance_133 : decode cX7_chance 133 = .ok (.ldiv, 1) := by decide +kernel
theorem dX7_chance_134 : decode cX7_chance 134 = .ok (.putfield 62, 3) := by decide +kernel
theorem dX7_chance_137 : decode cX7_chance 137 = .ok (.iconst 1, 1) := by decide +kernel
theorem dX7_chance_138 : decode cX7_chance 138 = .ok (.ireturn, 1) := by decide +kernel
theorem dX7_above_0 : decode cX7_above 0 = .ok (.aload_n 0, 1) := by decide +kernel
theorem dX7_above_1 : decode cX7_above 1 = .ok (.getfield 58, 3) := by decide +kernel
theorem dX7_above_4 : decode cX7_above 4 = .ok (.lreturn, 1) := by decide +kernel
theorem dX7_below_0 : decode cX7_below 0 = .ok (.aload_n 0, 1) := by decide +kernel
theorem dX7_below_1 : decode cX7_below 1 = .ok (.getfield 62, 3) := by decide +kernel
theorem dX7_below_4 : decode cX7_below 4 = .ok (.lreturn, 1) := by decide +kernel
set_option maxRecDepth 20000 in
theorem ggX7_bars_X7_isHeap : GoodIn wsX7_bars wsX7_isHeap := goodIn_r _ [6, 1, 7, 8, 9, 10, 11, 12, 28, 29, 30, 31, 32, 33, 34, 35, 36, 37, 38, 39, 40] (by decide +kernel) (by decide +kernel)
set_option maxRecDepth 20000 in
theorem gX7_bars_X7_isHeap : GoodIn wsX7_bars (wsV RX7 144 RX7 yX7_isHeap wsX7_isHeap) := goodIn_app (goodIn_of _ (by decide +kernel)) ggX7_bars_X7_isHeap
set_option maxRecDepth 20000 in
theorem ggX7_bars_X2_barred : GoodIn wsX7_bars wsX2_barred := goodIn_r _ [16, 17, 18, 19, 20, 21, 10, 22, 23, 24, 25, 26, 5, 27, 38, 39, 40] (by decide +kernel) (by decide +kernel)
set_option maxRecDepth 20000 in
theorem gX7_bars_X2_barred : GoodIn wsX7_bars (wsV RX7 147 RX2 yX2_barred wsX2_barred) := goodIn_app (goodIn_of _ (by decide +kernel)) ggX7_bars_X2_barred
theorem dX7_bars_0 : decode cX7_bars 0 = .ok (.aload_n 0, 1) := by decide +kernel
theorem dX7_bars_1 : decode cX7_bars 1 = .ok (.iload_n 1, 1) := by decide +kernel
theorem dX7_bars_2 : decode cX7_bars 2 = .ok (.invokevirtual 144, 3) := by decide +kernel
theorem dX7_bars_5 : decode cX7_bars 5 = .ok (.ifCond .eq 19, 3) := by decide +kernel
theorem dX7_bars_8 : decode cX7_bars 8 = .ok (.aload_n 0, 1) := by decide +kernel
theorem dX7_bars_9 : decode cX7_bars 9 = .ok (.iload_n 2, 1) := by decide +kernel
theorem dX7_bars_10 : decode cX7_bars 10 = .ok (.invokevirtual 144, 3) := by decide +kernel
theorem dX7_bars_13 : decode cX7_bars 13 = .ok (.ifCond .eq 11, 3) := by decide +kernel
theorem dX7_bars_16 : decode cX7_bars 16 = .ok (.aload_n 0, 1) := by decide +kernel
theorem dX7_bars_17 : decode cX7_bars 17 = .ok (.iload_n 3, 1) := by decide +kernel
theorem dX7_bars_18 : decode cX7_bars 18 = .ok (.invokevirtual 144, 3) := by decide +kernel
theorem dX7_bars_21 : decode cX7_bars 21 = .ok (.ifCond .ne 5, 3) := by decide +kernel
theorem dX7_bars_24 : decode cX7_bars 24 = .ok (.iconst 0, 1) := by decide +kernel
theorem dX7_bars_25 : decode cX7_bars 25 = .ok (.ireturn, 1) := by decide +kernel
theorem dX7_bars_26 : decode cX7_bars 26 = .ok (.iload_n 1, 1) := by decide +kernel
theorem dX7_bars_27 : decode cX7_bars 27 = .ok (.iload_n 2, 1) := by decide +kernel
theorem dX7_bars_28 : decode cX7_bars 28 = .ok (.iand, 1) := by decide +kernel
theorem dX7_bars_29 : decode cX7_bars 29 = .ok (.ifCond .ne 15, 3) := by decide +kernel
theorem dX7_bars_32 : decode cX7_bars 32 = .ok (.iload_n 1, 1) := by decide +kernel
theorem dX7_bars_33 : decode cX7_bars 33 = .ok (.iload_n 3, 1) := by decide +kernel
theorem dX7_bars_34 : decode cX7_bars 34 = .ok (.iand, 1) := by decide +kernel
theorem dX7_bars_35 : decode cX7_bars 35 = .ok (.ifCond .ne 9, 3) := by decide +kernel
theorem dX7_bars_38 : decode cX7_bars 38 = .ok (.iload_n 2, 1) := by decide +kernel
theorem dX7_bars_39 : decode cX7_bars 39 = .ok (.iload_n 3, 1) := by decide +kernel
theorem dX7_bars_40 : decode cX7_bars 40 = .ok (.iand, 1) := by decide +kernel
theorem dX7_bars_41 : decode cX7_bars 41 = .ok (.ifCond .eq 5, 3) := by decide +kernel
theorem dX7_bars_46 : decode cX7_bars 46 = .ok (.aload_n 0, 1) := by decide +kernel
theorem dX7_bars_47 : decode cX7_bars 47 = .ok (.getfield 12, 3) := by decide +kernel
theorem dX7_bars_50 : decode cX7_bars 50 = .ok (.iload_n 1, 1) := by decide +kernel
theorem dX7_bars_51 : decode cX7_bars 51 = .ok (.iload_n 2, 1) := by decide +kernel
theorem dX7_bars_52 : decode cX7_bars 52 = .ok (.iload_n 3, 1) := by decide +kernel
theorem dX7_bars_53 : decode cX7_bars 53 = .ok (.invokevirtual 147, 3) := by decide +kernel
theorem dX7_bars_56 : decode cX7_bars 56 = .ok (.ireturn, 1) := by decide +kernel
set_option maxRecDepth 20000 in
theorem ggX7_least_X7_areTwo : GoodIn wsX7_least wsX7_areTwo := goodIn_r _ [8, 2, 9, 10, 11, 12, 13, 14, 58, 59, 60, 61, 62, 63, 64, 65, 66, 67, 68, 69, 70] (by decide +kernel) (by decide +kernel)
set_option maxRecDepth 20000 in
theorem gX7_least_X7_areTwo : GoodIn wsX7_least (wsV RX7 151 RX7 yX7_areTwo wsX7_areTwo) := goodIn_app (goodIn_of _ (by decide +kernel)) ggX7_least_X7_areTwo
theorem dX7_least_0 : decode cX7_least 0 = .ok (.aload_n 0, 1) := by decide +kernel
theorem dX7_least_1 : decode cX7_least 1 = .ok (.iload_n 1, 1) := by decide +kernel
theorem dX7_least_2 : decode cX7_least 2 = .ok (.iload_n 2, 1) := by decide +kernel
theorem dX7_least_3 : decode cX7_least 3 = .ok (.invokevirtual 151, 3) := by decide +kernel
theorem dX7_least_6 : decode cX7_least 6 = .ok (.ifCond .ne 5, 3) := by decide +kernel
theorem dX7_least_9 : decode cX7_least 9 = .ok (.iconst (-1), 1) := by decide +kernel
theorem dX7_least_10 : decode cX7_least 10 = .ok (.ireturn, 1) := by decide +kernel
set_option maxRecDepth 20000 in
theorem ggX7_leastAt_X7_areTwo : GoodIn wsX7_leastAt wsX7_areTwo := goodIn_r _ [8, 2, 9, 10, 11, 12, 13, 14, 58, 59, 60, 61, 62, 63, 64, 65, 66, 67, 68, 69, 70] (by decide +kernel) (by decide +kernel)
set_option maxRecDepth 20000 in
theorem gX7_leastAt_X7_areTwo : GoodIn wsX7_leastAt (wsV RX7 151 RX7 yX7_areTwo wsX7_areTwo) := goodIn_app (goodIn_of _ (by decide +kernel)) ggX7_leastAt_X7_areTwo
theorem dX7_leastAt_0 : decode cX7_leastAt 0 = .ok (.aload_n 0, 1) := by decide +kernel
theorem dX7_leastAt_1 : decode cX7_leastAt 1 = .ok (.iload_n 1, 1) := by decide +kernel
theorem dX7_leastAt_2 : decode cX7_leastAt 2 = .ok (.iload_n 2, 1) := by decide +kernel
theorem dX7_leastAt_3 : decode cX7_leastAt 3 = .ok (.invokevirtual 151, 3) := by decide +kernel
theorem dX7_leastAt_6 : decode cX7_leastAt 6 = .ok (.ifCond .ne 5, 3) := by decide +kernel
theorem dX7_leastAt_9 : decode cX7_leastAt 9 = .ok (.iconst (-1), 1) := by decide +kernel
theorem dX7_leastAt_10 : decode cX7_leastAt 10 = .ok (.ireturn, 1) := by decide +kernel
set_option maxRecDepth 20000 in
theorem ggX7_fit_X7_areTwo : GoodIn wsX7_fit wsX7_areTwo := goodIn_r _ [8, 2, 9, 10, 11, 12, 13, 14, 65, 66, 67, 68, 69, 70, 71, 72, 73, 74, 75, 76, 77] (by decide +kernel) (by decide +kernel)
set_option maxRecDepth 20000 in
theorem gX7_fit_X7_areTwo : GoodIn wsX7_fit (wsV RX7 151 RX7 yX7_areTwo wsX7_areTwo) := goodIn_app (goodIn_of _ (by decide +kernel)) ggX7_fit_X7_areTwo
theorem dX7_fit_0 : decode cX7_fit 0 = .ok (.aload_n 0, 1) := by decide +kernel
theorem dX7_fit_1 : decode cX7_fit 1 = .ok (.iload_n 1, 1) := by decide +kernel
theorem dX7_fit_2 : decode cX7_fit 2 = .ok (.iload_n 2, 1) := by decide +kernel
theorem dX7_fit_3 : decode cX7_fit 3 = .ok (.invokevirtual 151, 3) := by decide +kernel
theorem dX7_fit_6 : decode cX7_fit 6 = .ok (.ifCond .eq 27, 3) := by decide +kernel
theorem dX7_fit_33 : decode cX7_fit 33 = .ok (.iconst 0, 1) := by decide +kernel
theorem dX7_fit_34 : decode cX7_fit 34 = .ok (.ireturn, 1) := by decide +kernel
set_option maxRecDepth 20000 in
theorem ggX7_agrees_X2_has : GoodIn wsX7_agrees wsX2_has := goodIn_r _ [9, 10, 170, 171, 172] (by decide +kernel) (by decide +kernel)
set_option maxRecDepth 20000 in
theorem gX7_agrees_X2_has : GoodIn wsX7_agrees (wsV RX7 77 RX2 yX2_has wsX2_has) := goodIn_app (goodIn_of _ (by decide +kernel)) ggX7_agrees_X2_has
theorem dX7_agrees_0 : decode cX7_agrees 0 = .ok (.aload_n 0, 1) := by decide +kernel
theorem dX7_agrees_1 : decode cX7_agrees 1 = .ok (.getfield 12, 3) := by decide +kernel
theorem dX7_agrees_4 : decode cX7_agrees 4 = .ok (.iload_n 1, 1) := by decide +kernel
theorem dX7_agrees_5 : decode cX7_agrees 5 = .ok (.invokevirtual 77, 3) := by decide +kernel
theorem dX7_agrees_8 : decode cX7_agrees 8 = .ok (.ifCond .eq 38, 3) := by decide +kernel
theorem dX7_agrees_46 : decode cX7_agrees 46 = .ok (.iconst (-1), 1) := by decide +kernel
theorem dX7_agrees_47 : decode cX7_agrees 47 = .ok (.ireturn, 1) := by decide +kernel
set_option maxRecDepth 20000 in
theorem ggX7_alike_X4_reckon : GoodIn wsX7_alike wsX4_reckon := goodIn_r _ [7, 8, 9, 10, 11, 12, 13, 14, 15, 16, 6, 17, 18, 19, 20, 21, 22, 23, 24, 25, 26, 27, 28, 29, 30, 31, 32, 33, 34, 35, 36, 37, 38, 39, 40, 41, 42, 43, 44, 45, 46, 47, 48, 49, 50, 51, 52, 53, 54, 55, 56, 57, 58, 59, 60, 61, 62, 63, 64, 65, 66, 67, 68, 69, 80, 81, 82, 83] (by decide +kernel) (by decide +kernel)
set_option maxRecDepth 20000 in
theorem gX7_alike_X4_reckon : GoodIn wsX7_alike (wsV RX7 187 RX4 yX4_reckon wsX4_reckon) := goodIn_app (goodIn_of _ (by decide +kernel)) ggX7_alike_X4_reckon
theorem dX7_alike_0 : decode cX7_alike 0 = .ok (.aload_n 0, 1) := by decide +kernel
theorem dX7_alike_1 : decode cX7_alike 1 = .ok (.getfield 50, 3) := by decide +kernel
theorem dX7_alike_4 : decode cX7_alike 4 = .ok (.aload_n 0, 1) := by decide +kernel
theorem dX7_alike_5 : decode cX7_alike 5 = .ok (.getfield 12, 3) := by decide +kernel
theorem dX7_alike_8 : decode cX7_alike 8 = .ok (.iconst (-1), 1) := by decide +kernel
theorem dX7_alike_9 : decode cX7_alike 9 = .ok (.iconst (-1), 1) := by decide +kernel
theorem dX7_alike_10 : decode cX7_alike 10 = .ok (.invokevirtual 187, 3) := by decide +kernel
theorem dX7_alike_13 : decode cX7_alike 13 = .ok (.ireturn, 1) := by decide +kernel
set_option maxRecDepth 20000 in
theorem ggX7_fixed_X2_leads : GoodIn wsX7_fixed wsX2_leads := goodIn_r _ [7, 8, 9, 10, 11, 6, 12, 13, 14, 15, 16, 84, 85, 86] (by decide +kernel) (by decide +kernel)
set_option maxRecDepth 20000 in
theorem gX7_fixed_X2_leads : GoodIn wsX7_fixed (wsV RX7 89 RX2 yX2_leads wsX2_leads) := goodIn_app (goodIn_of _ (by decide +kernel)) ggX7_fixed_X2_leads
theorem dX7_fixed_0 : decode cX7_fixed 0 = .ok (.aload_n 0, 1) := by decide +kernel
theorem dX7_fixed_1 : decode cX7_fixed 1 = .ok (.getfield 12, 3) := by decide +kernel
theorem dX7_fixed_4 : decode cX7_fixed 4 = .ok (.iload_n 1, 1) := by decide +kernel
theorem dX7_fixed_5 : decode cX7_fixed 5 = .ok (.iload_n 2, 1) := by decide +kernel
theorem dX7_fixed_6 : decode cX7_fixed 6 = .ok (.invokevirtual 89, 3) := by decide +kernel
theorem dX7_fixed_9 : decode cX7_fixed 9 = .ok (.ifCond .ne 5, 3) := by decide +kernel
theorem dX7_fixed_12 : decode cX7_fixed 12 = .ok (.iconst 0, 1) := by decide +kernel
theorem dX7_fixed_13 : decode cX7_fixed 13 = .ok (.ireturn, 1) := by decide +kernel
set_option maxRecDepth 20000 in
theorem ggX7_otherwise_X7_areTwo : GoodIn wsX7_otherwise wsX7_areTwo := goodIn_r _ [13, 3, 14, 15, 16, 17, 18, 19, 107, 108, 109, 110, 111, 112, 113, 114, 115, 116, 117, 118, 119] (by decide +kernel) (by decide +kernel)
set_option maxRecDepth 20000 in
theorem gX7_otherwise_X7_areTwo : GoodIn wsX7_otherwise (wsV RX7 151 RX7 yX7_areTwo wsX7_areTwo) := goodIn_app (goodIn_of _ (by decide +kernel)) ggX7_otherwise_X7_areTwo
theorem dX7_otherwise_0 : decode cX7_otherwise 0 = .ok (.aload_n 0, 1) := by decide +kernel
theorem dX7_otherwise_1 : decode cX7_otherwise 1 = .ok (.iload_n 1, 1) := by decide +kernel
theorem dX7_otherwise_2 : decode cX7_otherwise 2 = .ok (.iload_n 2, 1) := by decide +kernel
theorem dX7_otherwise_3 : decode cX7_otherwise 3 = .ok (.invokevirtual 151, 3) := by decide +kernel
theorem dX7_otherwise_6 : decode cX7_otherwise 6 = .ok (.ifCond .eq 12, 3) := by decide +kernel
theorem dX7_otherwise_18 : decode cX7_otherwise 18 = .ok (.ldc2_w 121, 3) := by decide +kernel
theorem dX7_otherwise_21 : decode cX7_otherwise 21 = .ok (.lreturn, 1) := by decide +kernel
set_option maxRecDepth 20000 in
theorem ggX7_draw_X7_isSetting : GoodIn wsX7_draw wsX7_isSetting := goodIn_r _ [8, 9, 10, 7, 11, 12, 13, 14, 15, 1, 16, 17, 18, 19, 20, 21, 22, 23, 24, 63, 64, 65, 66, 67, 68, 69, 70, 71, 72, 73, 74, 75] (by decide +kernel) (by decide +kernel)
set_option maxRecDepth 20000 in
theorem gX7_draw_X7_isSetting : GoodIn wsX7_draw (wsV RX7 118 RX7 yX7_isSetting wsX7_isSetting) := goodIn_app (goodIn_of _ (by decide +kernel)) ggX7_draw_X7_isSetting
set_option maxRecDepth 20000 in
theorem ggX7_draw_X2_size : GoodIn wsX7_draw wsX2_size := goodIn_r _ [28, 21, 73, 74, 75] (by decide +kernel) (by decide +kernel)
set_option maxRecDepth 20000 in
theorem gX7_draw_X2_size : GoodIn wsX7_draw (wsV RX7 208 RX2 yX2_size wsX2_size) := goodIn_app (goodIn_of _ (by decide +kernel)) ggX7_draw_X2_size
theorem dX7_draw_0 : decode cX7_draw 0 = .ok (.aload_n 0, 1) := by decide +kernel
theorem dX7_draw_1 : decode cX7_draw 1 = .ok (.iload_n 2, 1) := by decide +kernel
theorem dX7_draw_2 : decode cX7_draw 2 = .ok (.invokevirtual 118, 3) := by decide +kernel
theorem dX7_draw_5 : decode cX7_draw 5 = .ok (.ifCond .ne 5, 3) := by decide +kernel
theorem dX7_draw_8 : decode cX7_draw 8 = .ok (.iconst (-1), 1) := by decide +kernel
theorem dX7_draw_9 : decode cX7_draw 9 = .ok (.ireturn, 1) := by decide +kernel
theorem dX7_draw_10 : decode cX7_draw 10 = .ok (.iload_n 1, 1) := by decide +kernel
theorem dX7_draw_11 : decode cX7_draw 11 = .ok (.istore_n 3, 1) := by decide +kernel
theorem dX7_draw_12 : decode cX7_draw 12 = .ok (.iconst 0, 1) := by decide +kernel
theorem dX7_draw_13 : decode cX7_draw 13 = .ok (.istore 4, 2) := by decide +kernel
theorem dX7_draw_15 : decode cX7_draw 15 = .ok (.iconst 0, 1) := by decide +kernel
theorem dX7_draw_16 : decode cX7_draw 16 = .ok (.istore 5, 2) := by decide +kernel
theorem dX7_draw_18 : decode cX7_draw 18 = .ok (.iconst 0, 1) := by decide +kernel
theorem dX7_draw_19 : decode cX7_draw 19 = .ok (.istore 6, 2) := by decide +kernel
theorem dX7_draw_21 : decode cX7_draw 21 = .ok (.iload 6, 2) := by decide +kernel
theorem dX7_draw_23 : decode cX7_draw 23 = .ok (.aload_n 0, 1) := by decide +kernel
theorem dX7_draw_24 : decode cX7_draw 24 = .ok (.getfield 12, 3) := by decide +kernel
theorem dX7_draw_27 : decode cX7_draw 27 = .ok (.invokevirtual 208, 3) := by decide +kernel
theorem dX7_draw_30 : decode cX7_draw 30 = .ok (.if_icmp .ge 84, 3) := by decide +kernel
theorem dX7_draw_114 : decode cX7_draw 114 = .ok (.iload 5, 2) := by decide +kernel
theorem dX7_draw_116 : decode cX7_draw 116 = .ok (.ireturn, 1) := by decide +kernel
set_option maxRecDepth 20000 in
theorem ggX7_count_X2_size : GoodIn wsX7_count wsX2_size := goodIn_r _ [7, 8, 31, 32, 33] (by decide +kernel) (by decide +kernel)
set_option maxRecDepth 20000 in
theorem gX7_count_X2_size : GoodIn wsX7_count (wsV RX7 208 RX2 yX2_size wsX2_size) := goodIn_app (goodIn_of _ (by decide +kernel)) ggX7_count_X2_size
set_option maxRecDepth 20000 in
theorem ggX7_count_X2_arrows : GoodIn wsX7_count wsX2_arrows := goodIn_r _ [12, 8, 13, 14, 15, 16, 17, 18, 19, 20, 31, 32, 33] (by decide +kernel) (by decide +kernel)
set_option maxRecDepth 20000 in
theorem gX7_count_X2_arrows : GoodIn wsX7_count (wsV RX7 217 RX2 yX2_arrows wsX2_arrows) := goodIn_app (goodIn_of _ (by decide +kernel)) ggX7_count_X2_arrows
theorem dX7_count_0 : decode cX7_count 0 = .ok (.iload_n 1, 1) := by decide +kernel
theorem dX7_count_1 : decode cX7_count 1 = .ok (.tableswitch 48 0 2 #[27, 35, 43], 27) := by decide +kernel
theorem dX7_count_28 : decode cX7_count 28 = .ok (.aload_n 0, 1) := by decide +kernel
theorem dX7_count_29 : decode cX7_count 29 = .ok (.getfield 12, 3) := by decide +kernel
theorem dX7_count_32 : decode cX7_count 32 = .ok (.invokevirtual 208, 3) := by decide +kernel
theorem dX7_count_35 : decode cX7_count 35 = .ok (.ireturn, 1) := by decide +kernel
theorem dX7_count_36 : decode cX7_count 36 = .ok (.aload_n 0, 1) := by decide +kernel
theorem dX7_count_37 : decode cX7_count 37 = .ok (.getfield 12, 3) := by decide +kernel
theorem dX7_count_40 : decode cX7_count 40 = .ok (.invokevirtual 217, 3) := by decide +kernel
theorem dX7_count_43 : decode cX7_count 43 = .ok (.ireturn, 1) := by decide +kernel
theorem dX7_count_44 : decode cX7_count 44 = .ok (.aload_n 0, 1) := by decide +kernel
theorem dX7_count_45 : decode cX7_count 45 = .ok (.getfield 54, 3) := by decide +kernel
theorem dX7_count_48 : decode cX7_count 48 = .ok (.ireturn, 1) := by decide +kernel
theorem dX7_count_49 : decode cX7_count 49 = .ok (.iconst (-1), 1) := by decide +kernel
theorem dX7_count_50 : decode cX7_count 50 = .ok (.ireturn, 1) := by decide +kernel
set_option maxRecDepth 20000 in
theorem ggX7_hasRow_X2_has : GoodIn wsX7_hasRow wsX2_has := goodIn_r _ [6, 7, 35, 36, 37] (by decide +kernel) (by decide +kernel)
set_option maxRecDepth 20000 in
theorem gX7_hasRow_X2_has : GoodIn wsX7_hasRow (wsV RX7 77 RX2 yX2_has wsX2_has) := goodIn_app (goodIn_of _ (by decide +kernel)) ggX7_hasRow_X2_has
theorem dX7_hasRow_0 : decode cX7_hasRow 0 = .ok (.aload_n 0, 1) := by decide +kernel
theorem dX7_hasRow_1 : decode cX7_hasRow 1 = .ok (.getfield 12, 3) := by decide +kernel
theorem dX7_hasRow_4 : decode cX7_hasRow 4 = .ok (.iload_n 1, 1) := by decide +kernel
theorem dX7_hasRow_5 : decode cX7_hasRow 5 = .ok (.invokevirtual 77, 3) := by decide +kernel
theorem dX7_hasRow_8 : decode cX7_hasRow 8 = .ok (.ifCond .eq 26, 3) := by decide +kernel
theorem dX7_hasRow_34 : decode cX7_hasRow 34 = .ok (.iconst 0, 1) := by decide +kernel
theorem dX7_hasRow_35 : decode cX7_hasRow 35 = .ok (.ireturn, 1) := by decide +kernel
set_option maxRecDepth 20000 in
theorem ggX7_areTwo_X2_has : GoodIn wsX7_areTwo wsX2_has := goodIn_r _ [6, 7, 18, 19, 20] (by decide +kernel) (by decide +kernel)
set_option maxRecDepth 20000 in
theorem gX7_areTwo_X2_has : GoodIn wsX7_areTwo (wsV RX7 77 RX2 yX2_has wsX2_has) := goodIn_app (goodIn_of _ (by decide +kernel)) ggX7_areTwo_X2_has
theorem dX7_areTwo_0 : decode cX7_areTwo 0 = .ok (.aload_n 0, 1) := by decide +kernel
theorem dX7_areTwo_1 : decode cX7_areTwo 1 = .ok (.getfield 12, 3) := by decide +kernel
theorem dX7_areTwo_4 : decode cX7_areTwo 4 = .ok (.iload_n 1, 1) := by decide +kernel
theorem dX7_areTwo_5 : decode cX7_areTwo 5 = .ok (.invokevirtual 77, 3) := by decide +kernel
theorem dX7_areTwo_8 : decode cX7_areTwo 8 = .ok (.ifCond .eq 23, 3) := by decide +kernel
theorem dX7_areTwo_31 : decode cX7_areTwo 31 = .ok (.iconst 0, 1) := by decide +kernel
theorem dX7_areTwo_32 : decode cX7_areTwo 32 = .ok (.ireturn, 1) := by decide +kernel
set_option maxRecDepth 20000 in
theorem ggX7_isHeap_X2_everything : GoodIn wsX7_isHeap wsX2_everything := goodIn_r _ [6, 7, 18, 19, 20] (by decide +kernel) (by decide +kernel)
set_option maxRecDepth 20000 in
theorem gX7_isHeap_X2_everything : GoodIn wsX7_isHeap (wsV RX7 223 RX2 yX2_everything wsX2_everything) := goodIn_app (goodIn_of _ (by decide +kernel)) ggX7_isHeap_X2_everything
theorem dX7_isHeap_0 : decode cX7_isHeap 0 = .ok (.iload_n 1, 1) := by decide +kernel
theorem dX7_isHeap_1 : decode cX7_isHeap 1 = .ok (.aload_n 0, 1) := by decide +kernel
theorem dX7_isHeap_2 : decode cX7_isHeap 2 = .ok (.getfield 12, 3) := by decide +kernel
theorem dX7_isHeap_5 : decode cX7_isHeap 5 = .ok (.invokevirtual 223, 3) := by decide +kernel
theorem dX7_isHeap_8 : decode cX7_isHeap 8 = .ok (.iconst (-1), 1) := by decide +kernel
theorem dX7_isHeap_9 : decode cX7_isHeap 9 = .ok (.ixor, 1) := by decide +kernel
theorem dX7_isHeap_10 : decode cX7_isHeap 10 = .ok (.iand, 1) := by decide +kernel
theorem dX7_isHeap_11 : decode cX7_isHeap 11 = .ok (.ifCond .ne 7, 3) := by decide +kernel
theorem dX7_isHeap_14 : decode cX7_isHeap 14 = .ok (.iconst 1, 1) := by decide +kernel
theorem dX7_isHeap_15 : decode cX7_isHeap 15 = .ok (.goto 4, 3) := by decide +kernel
theorem dX7_isHeap_18 : decode cX7_isHeap 18 = .ok (.iconst 0, 1) := by decide +kernel
theorem dX7_isHeap_19 : decode cX7_isHeap 19 = .ok (.ireturn, 1) := by decide +kernel
set_option maxRecDepth 20000 in
theorem ggX7_isSetting_X7_heapOf : GoodIn wsX7_isSetting wsX7_heapOf := goodIn_r _ [4] (by decide +kernel) (by decide +kernel)
set_option maxRecDepth 20000 in
theorem gX7_isSetting_X7_heapOf : GoodIn wsX7_isSetting (va_wsS RX7 127 yX7_heapOf wsX7_heapOf) := goodIn_app (goodIn_of _ (by decide +kernel)) ggX7_isSetting_X7_heapOf
set_option maxRecDepth 20000 in
theorem ggX7_isSetting_X7_isHeap : GoodIn wsX7_isSetting wsX7_isHeap := goodIn_r _ [8, 9, 10, 11, 12, 13, 14, 15, 19, 20, 21, 22, 23, 24, 25, 26, 27, 28, 29, 30, 31] (by decide +kernel) (by decide +kernel)
set_option maxRecDepth 20000 in
theorem gX7_isSetting_X7_isHeap : GoodIn wsX7_isSetting (wsV RX7 144 RX7 yX7_isHeap wsX7_isHeap) := goodIn_app (goodIn_of _ (by decide +kernel)) ggX7_isSetting_X7_isHeap
set_option maxRecDepth 20000 in
theorem ggX7_isSetting_X7_onesOf : GoodIn wsX7_isSetting wsX7_onesOf := goodIn_r _ [18] (by decide +kernel) (by decide +kernel)
set_option maxRecDepth 20000 in
theorem gX7_isSetting_X7_onesOf : GoodIn wsX7_isSetting (va_wsS RX7 130 yX7_onesOf wsX7_onesOf) := goodIn_app (goodIn_of _ (by decide +kernel)) ggX7_isSetting_X7_onesOf
theorem dX7_isSetting_0 : decode cX7_isSetting 0 = .ok (.iload_n 1, 1) := by decide +kernel
theorem dX7_isSetting_1 : decode cX7_isSetting 1 = .ok (.bipush 16, 2) := by decide +kernel
theorem dX7_isSetting_3 : decode cX7_isSetting 3 = .ok (.iushr, 1) := by decide +kernel
theorem dX7_isSetting_4 : decode cX7_isSetting 4 = .ok (.ifCond .ne 32, 3) := by decide +kernel
theorem dX7_isSetting_7 : decode cX7_isSetting 7 = .ok (.aload_n 0, 1) := by decide +kernel
theorem dX7_isSetting_8 : decode cX7_isSetting 8 = .ok (.iload_n 1, 1) := by decide +kernel
theorem dX7_isSetting_9 : decode cX7_isSetting 9 = .ok (.invokestatic 127, 3) := by decide +kernel
theorem dX7_isSetting_12 : decode cX7_isSetting 12 = .ok (.invokevirtual 144, 3) := by decide +kernel
theorem dX7_isSetting_15 : decode cX7_isSetting 15 = .ok (.ifCond .eq 21, 3) := by decide +kernel
theorem dX7_isSetting_18 : decode cX7_isSetting 18 = .ok (.iload_n 1, 1) := by decide +kernel
theorem dX7_isSetting_19 : decode cX7_isSetting 19 = .ok (.invokestatic 130, 3) := by decide +kernel
theorem dX7_isSetting_22 : decode cX7_isSetting 22 = .ok (.iload_n 1, 1) := by decide +kernel
theorem dX7_isSetting_23 : decode cX7_isSetting 23 = .ok (.invokestatic 127, 3) := by decide +kernel
theorem dX7_isSetting_26 : decode cX7_isSetting 26 = .ok (.iconst (-1), 1) := by decide +kernel
theorem dX7_isSetting_27 : decode cX7_isSetting 27 = .ok (.ixor, 1) := by decide +kernel
theorem dX7_isSetting_28 : decode cX7_isSetting 28 = .ok (.iand, 1) := by decide +kernel
theorem dX7_isSetting_29 : decode cX7_isSetting 29 = .ok (.ifCond .ne 7, 3) := by decide +kernel
theorem dX7_isSetting_32 : decode cX7_isSetting 32 = .ok (.iconst 1, 1) := by decide +kernel
theorem dX7_isSetting_33 : decode cX7_isSetting 33 = .ok (.goto 4, 3) := by decide +kernel
theorem dX7_isSetting_36 : decode cX7_isSetting 36 = .ok (.iconst 0, 1) := by decide +kernel
theorem dX7_isSetting_37 : decode cX7_isSetting 37 = .ok (.ireturn, 1) := by decide +kernel
theorem dX7_bit_0 : decode cX7_bit 0 = .ok (.iconst 1, 1) := by decide +kernel
theorem dX7_bit_1 : decode cX7_bit 1 = .ok (.iload_n 0, 1) := by decide +kernel
theorem dX7_bit_2 : decode cX7_bit 2 = .ok (.ishl, 1) := by decide +kernel
theorem dX7_bit_3 : decode cX7_bit 3 = .ok (.ireturn, 1) := by decide +kernel
theorem dX7_inHeap_0 : decode cX7_inHeap 0 = .ok (.iload_n 0, 1) := by decide +kernel
theorem dX7_inHeap_1 : decode cX7_inHeap 1 = .ok (.iload_n 1, 1) := by decide +kernel
theorem dX7_inHeap_2 : decode cX7_inHeap 2 = .ok (.ishr, 1) := by decide +kernel
theorem dX7_inHeap_3 : decode cX7_inHeap 3 = .ok (.iconst 1, 1) := by decide +kernel
theorem dX7_inHeap_4 : decode cX7_inHeap 4 = .ok (.iand, 1) := by decide +kernel
theorem dX7_inHeap_5 : decode cX7_inHeap 5 = .ok (.iconst 1, 1) := by decide +kernel
theorem dX7_inHeap_6 : decode cX7_inHeap 6 = .ok (.if_icmp .ne 7, 3) := by decide +kernel
theorem dX7_inHeap_13 : decode cX7_inHeap 13 = .ok (.iconst 0, 1) := by decide +kernel
theorem dX7_inHeap_14 : decode cX7_inHeap 14 = .ok (.ireturn, 1) := by decide +kernel
theorem dX7_heapOf_0 : decode cX7_heapOf 0 = .ok (.iload_n 0, 1) := by decide +kernel
theorem dX7_heapOf_1 : decode cX7_heapOf 1 = .ok (.sipush 255, 3) := by decide +kernel
theorem dX7_heapOf_4 : decode cX7_heapOf 4 = .ok (.iand, 1) := by decide +kernel
theorem dX7_heapOf_5 : decode cX7_heapOf 5 = .ok (.ireturn, 1) := by decide +kernel
theorem dX7_onesOf_0 : decode cX7_onesOf 0 = .ok (.iload_n 0, 1) := by decide +kernel
theorem dX7_onesOf_1 : decode cX7_onesOf 1 = .ok (.bipush 8, 2) := by decide +kernel
theorem dX7_onesOf_3 : decode cX7_onesOf 3 = .ok (.ishr, 1) := by decide +kernel
theorem dX7_onesOf_4 : decode cX7_onesOf 4 = .ok (.sipush 255, 3) := by decide +kernel
theorem dX7_onesOf_7 : decode cX7_onesOf 7 = .ok (.iand, 1) := by decide +kernel
theorem dX7_onesOf_8 : decode cX7_onesOf 8 = .ok (.ireturn, 1) := by decide +kernel
set_option maxRecDepth 20000 in
theorem ggX7_clash_X7_heapOf : GoodIn wsX7_clash wsX7_heapOf := goodIn_r _ [4] (by decide +kernel) (by decide +kernel)
set_option maxRecDepth 20000 in
theorem gX7_clash_X7_heapOf : GoodIn wsX7_clash (va_wsS RX7 127 yX7_heapOf wsX7_heapOf) := goodIn_app (goodIn_of _ (by decide +kernel)) ggX7_clash_X7_heapOf
set_option maxRecDepth 20000 in
theorem ggX7_clash_X7_onesOf : GoodIn wsX7_clash wsX7_onesOf := goodIn_r _ [7] (by decide +kernel) (by decide +kernel)
set_option maxRecDepth 20000 in
theorem gX7_clash_X7_onesOf : GoodIn wsX7_clash (va_wsS RX7 130 yX7_onesOf wsX7_onesOf) := goodIn_app (goodIn_of _ (by decide +kernel)) ggX7_clash_X7_onesOf
theorem dX7_clash_0 : decode cX7_clash 0 = .ok (.iload_n 0, 1) := by decide +kernel
theorem dX7_clash_1 : decode cX7_clash 1 = .ok (.invokestatic 127, 3) := by decide +kernel
theorem dX7_clash_4 : decode cX7_clash 4 = .ok (.iload_n 1, 1) := by decide +kernel
theorem dX7_clash_5 : decode cX7_clash 5 = .ok (.invokestatic 127, 3) := by decide +kernel
theorem dX7_clash_8 : decode cX7_clash 8 = .ok (.iand, 1) := by decide +kernel
theorem dX7_clash_9 : decode cX7_clash 9 = .ok (.iload_n 0, 1) := by decide +kernel
theorem dX7_clash_10 : decode cX7_clash 10 = .ok (.invokestatic 130, 3) := by decide +kernel
theorem dX7_clash_13 : decode cX7_clash 13 = .ok (.iload_n 1, 1) := by decide +kernel
theorem dX7_clash_14 : decode cX7_clash 14 = .ok (.invokestatic 130, 3) := by decide +kernel
theorem dX7_clash_17 : decode cX7_clash 17 = .ok (.ixor, 1) := by decide +kernel
theorem dX7_clash_18 : decode cX7_clash 18 = .ok (.iand, 1) := by decide +kernel
theorem dX7_clash_19 : decode cX7_clash 19 = .ok (.ifCond .eq 7, 3) := by decide +kernel
theorem dX7_clash_26 : decode cX7_clash 26 = .ok (.iconst 0, 1) := by decide +kernel
theorem dX7_clash_27 : decode cX7_clash 27 = .ok (.ireturn, 1) := by decide +kernel
set_option maxRecDepth 20000 in
theorem ggX7_partsOf_J6_bitCount_0f7a4 : GoodIn wsX7_partsOf wsJ6_bitCount_0f7a4 := goodIn_r _ [4, 5, 6, 7] (by decide +kernel) (by decide +kernel)
set_option maxRecDepth 20000 in
theorem gX7_partsOf_J6_bitCount_0f7a4 : GoodIn wsX7_partsOf (va_wsS RX7 239 yJ6_bitCount_0f7a4 wsJ6_bitCount_0f7a4) := goodIn_app (goodIn_of _ (by decide +kernel)) ggX7_partsOf_J6_bitCount_0f7a4
theorem dX7_partsOf_0 : decode cX7_partsOf 0 = .ok (.iconst 1, 1) := by decide +kernel
theorem dX7_partsOf_1 : decode cX7_partsOf 1 = .ok (.iload_n 0, 1) := by decide +kernel
theorem dX7_partsOf_2 : decode cX7_partsOf 2 = .ok (.invokestatic 239, 3) := by decide +kernel
theorem dX7_partsOf_5 : decode cX7_partsOf 5 = .ok (.ishl, 1) := by decide +kernel
theorem dX7_partsOf_6 : decode cX7_partsOf 6 = .ok (.ireturn, 1) := by decide +kernel
theorem dX7_nextPart_0 : decode cX7_nextPart 0 = .ok (.iload_n 0, 1) := by decide +kernel
theorem dX7_nextPart_1 : decode cX7_nextPart 1 = .ok (.iload_n 1, 1) := by decide +kernel
theorem dX7_nextPart_2 : decode cX7_nextPart 2 = .ok (.isub, 1) := by decide +kernel
theorem dX7_nextPart_3 : decode cX7_nextPart 3 = .ok (.iload_n 1, 1) := by decide +kernel
theorem dX7_nextPart_4 : decode cX7_nextPart 4 = .ok (.iand, 1) := by decide +kernel
theorem dX7_nextPart_5 : decode cX7_nextPart 5 = .ok (.ireturn, 1) := by decide +kernel
theorem dX7_commonDivisor_0 : decode cX7_commonDivisor 0 = .ok (.lload_n 0, 1) := by decide +kernel
theorem dX7_commonDivisor_1 : decode cX7_commonDivisor 1 = .ok (.lstore 4, 2) := by decide +kernel
theorem dX7_commonDivisor_3 : decode cX7_commonDivisor 3 = .ok (.lload_n 2, 1) := by decide +kernel
theorem dX7_commonDivisor_4 : decode cX7_commonDivisor 4 = .ok (.lstore 6, 2) := by decide +kernel
theorem dX7_commonDivisor_6 : decode cX7_commonDivisor 6 = .ok (.iconst 0, 1) := by decide +kernel
theorem dX7_commonDivisor_7 : decode cX7_commonDivisor 7 = .ok (.istore 8, 2) := by decide +kernel
theorem dX7_commonDivisor_9 : decode cX7_commonDivisor 9 = .ok (.iload 8, 2) := by decide +kernel
theorem dX7_commonDivisor_11 : decode cX7_commonDivisor 11 = .ok (.bipush 100, 2) := by decide +kernel
theorem dX7_commonDivisor_13 : decode cX7_commonDivisor 13 = .ok (.if_icmp .ge 31, 3) := by decide +kernel
theorem dX7_commonDivisor_16 : decode cX7_commonDivisor 16 = .ok (.lload 6, 2) := by decide +kernel
theorem dX7_commonDivisor_18 : decode cX7_commonDivisor 18 = .ok (.lconst 0, 1) := by decide +kernel
theorem dX7_commonDivisor_19 : decode cX7_commonDivisor 19 = .ok (.lcmp, 1) := by decide +kernel
theorem dX7_commonDivisor_20 : decode cX7_commonDivisor 20 = .ok (.ifCond .eq 24, 3) := by decide +kernel
theorem dX7_commonDivisor_23 : decode cX7_commonDivisor 23 = .ok (.lload 4, 2) := by decide +kernel
theorem dX7_commonDivisor_25 : decode cX7_commonDivisor 25 = .ok (.lload 6, 2) := by decide +kernel
theorem dX7_commonDivisor_27 : decode cX7_commonDivisor 27 = .ok (.lrem, 1) := by decide +kernel
theorem dX7_commonDivisor_28 : decode cX7_commonDivisor 28 = .ok (.lstore 9, 2) := by decide +kernel
theorem dX7_commonDivisor_30 : decode cX7_commonDivisor 30 = .ok (.lload 6, 2) := by decide +kernel
theorem dX7_commonDivisor_32 : decode cX7_commonDivisor 32 = .ok (.lstore 4, 2) := by decide +kernel
theorem dX7_commonDivisor_34 : decode cX7_commonDivisor 34 = .ok (.lload 9, 2) := by decide +kernel
theorem dX7_commonDivisor_36 : decode cX7_commonDivisor 36 = .ok (.lstore 6, 2) := by decide +kernel
theorem dX7_commonDivisor_38 : decode cX7_commonDivisor 38 = .ok (.iinc 8 1, 3) := by decide +kernel
theorem dX7_commonDivisor_41 : decode cX7_commonDivisor 41 = .ok (.goto (-32), 3) := by decide +kernel
theorem dX7_commonDivisor_44 : decode cX7_commonDivisor 44 = .ok (.lconst 1, 1) := by decide +kernel
theorem dX7_commonDivisor_45 : decode cX7_commonDivisor 45 = .ok (.lload 4, 2) := by decide +kernel
theorem dX7_commonDivisor_47 : decode cX7_commonDivisor 47 = .ok (.invokestatic 199, 3) := by decide +kernel
theorem dX7_commonDivisor_50 : decode cX7_commonDivisor 50 = .ok (.lreturn, 1) := by decide +kernel
theorem dX8_init_0 : decode cX8_init 0 = .ok (.aload_n 0, 1) := by decide +kernel
theorem dX8_init_1 : decode cX8_init 1 = .ok (.invokespecial 3, 3) := by decide +kernel
theorem dX8_init_4 : decode cX8_init 4 = .ok (.aload_n 0, 1) := by decide +kernel
theorem dX8_init_5 : decode cX8_init 5 = .ok (.bipush 8, 2) := by decide +kernel
theorem dX8_init_7 : decode cX8_init 7 = .ok (.newarray .boolean, 2) := by decide +kernel
theorem dX8_init_9 : decode cX8_init 9 = .ok (.putfield 9, 3) := by decide +kernel
theorem dX8_init_12 : decode cX8_init 12 = .ok (.aload_n 0, 1) := by decide +kernel
theorem dX8_init_13 : decode cX8_init 13 = .ok (.bipush 8, 2) := by decide +kernel
theorem dX8_init_15 : decode cX8_init 15 = .ok (.newarray .int, 2) := by decide +kernel
theorem dX8_init_17 : decode cX8_init 17 = .ok (.putfield 13, 3) := by decide +kernel
theorem dX8_init_20 : decode cX8_init 20 = .ok (.aload_n 0, 1) := by decide +kernel
theorem dX8_init_21 : decode cX8_init 21 = .ok (.sipush 1024, 3) := by decide +kernel
theorem dX8_init_24 : decode cX8_init 24 = .ok (.newarray .int, 2) := by decide +kernel
theorem dX8_init_26 : decode cX8_init 26 = .ok (.putfield 17, 3) := by decide +kernel
theorem dX8_init_29 : decode cX8_init 29 = .ok (.aload_n 0, 1) := by decide +kernel
theorem dX8_init_30 : decode cX8_init 30 = .ok (.lconst 1, 1) := by decide +kernel
theorem dX8_init_31 : decode cX8_init 31 = .ok (.putfield 20, 3) := by decide +kernel
theorem dX8_init_34 : decode cX8_init 34 = .ok (.aload_n 0, 1) := by decide +kernel
theorem dX8_init_35 : decode cX8_init 35 = .ok (.bipush 8, 2) := by decide +kernel
theorem dX8_init_37 : decode cX8_init 37 = .ok (.newarray .int, 2) := by decide +kernel
theorem dX8_init_39 : decode cX8_init 39 = .ok (.putfield 24, 3) := by decide +kernel
theorem dX8_init_42 : decode cX8_init 42 = .ok (.aload_n 0, 1) := by decide +kernel
theorem dX8_init_43 : decode cX8_init 43 = .ok (.bipush 9, 2) := by decide +kernel
theorem dX8_init_45 : decode cX8_init 45 = .ok (.newarray .int, 2) := by decide +kernel
theorem dX8_init_47 : decode cX8_init 47 = .ok (.putfield 27, 3) := by decide +kernel
theorem dX8_init_50 : decode cX8_init 50 = .ok (.aload_n 0, 1) := by decide +kernel
theorem dX8_init_51 : decode cX8_init 51 = .ok (.sipush 256, 3) := by decide +kernel
theorem dX8_init_54 : decode cX8_init 54 = .ok (.newarray .boolean, 2) := by decide +kernel
theorem dX8_init_56 : decode cX8_init 56 = .ok (.putfield 30, 3) := by decide +kernel
theorem dX8_init_59 : decode cX8_init 59 = .ok (.aload_n 0, 1) := by decide +kernel
theorem dX8_init_60 : decode cX8_init 60 = .ok (.sipush 200, 3) := by decide +kernel
theorem dX8_init_63 : decode cX8_init 63 = .ok (.newarray .long, 2) := by decide +kernel
theorem dX8_init_65 : decode cX8_init 65 = .ok (.putfield 33, 3) := by decide +kernel
theorem dX8_init_68 : decode cX8_init 68 = .ok (.aload_n 0, 1) := by decide +kernel
theorem dX8_init_69 : decode cX8_init 69 = .ok (.sipush 200, 3) := by decide +kernel
theorem dX8_init_72 : decode cX8_init 72 = .ok (.newarray .long, 2) := by decide +kernel
theorem dX8_init_74 : decode cX8_init 74 = .ok (.putfield 37, 3) := by decide +kernel
theorem dX8_init_77 : decode cX8_init 77 = .ok (.aload_n 0, 1) := by decide +kernel
theorem dX8_init_78 : decode cX8_init 78 = .ok (.sipush 200, 3) := by decide +kernel
theorem dX8_init_81 : decode cX8_init 81 = .ok (.newarray .long, 2) := by decide +kernel
theorem dX8_init_83 : decode cX8_init 83 = .ok (.putfield 40, 3) := by decide +kernel
theorem dX8_init_86 : decode cX8_init 86 = .ok (.aload_n 0, 1) := by decide +kernel
theorem dX8_init_87 : decode cX8_init 87 = .ok (.bipush 8, 2) := by decide +kernel
theorem dX8_init_89 : decode cX8_init 89 = .ok (.newarray .int, 2) := by decide +kernel
theorem dX8_init_91 : decode cX8_init 91 = .ok (.putfield 43, 3) := by decide +kernel
theorem dX8_init_94 : decode cX8_init 94 = .ok (.aload_n 0, 1) := by decide +kernel
theorem dX8_init_95 : decode cX8_init 95 = .ok (.bipush 9, 2) := by decide +kernel
theorem dX8_init_97 : decode cX8_init 97 = .ok (.newarray .int, 2) := by decide +kernel
theorem dX8_init_99 : decode cX8_init 99 = .ok (.putfield 46, 3) := by decide +kernel
theorem dX8_init_102 : decode cX8_init 102 = .ok (.aload_n 0, 1) := by decide +kernel
theorem dX8_init_103 : decode cX8_init 103 = .ok (.bipush 8, 2) := by decide +kernel
theorem dX8_init_105 : decode cX8_init 105 = .ok (.newarray .int, 2) := by decide +kernel
theorem dX8_init_107 : decode cX8_init 107 = .ok (.putfield 49, 3) := by decide +kernel
theorem dX8_init_110 : decode cX8_init 110 = .ok (.aload_n 0, 1) := by decide +kernel
theorem dX8_init_111 : decode cX8_init 111 = .ok (.bipush 64, 2) := by decide +kernel
theorem dX8_init_113 : decode cX8_init 113 = .ok (.newarray .boolean, 2) := by decide +kernel
theorem dX8_init_115 : decode cX8_init 115 = .ok (.putfield 52, 3) := by decide +kernel
theorem dX8_init_118 : decode cX8_init 118 = .ok (.aload_n 0, 1) := by decide +kernel
theorem dX8_init_119 : decode cX8_init 119 = .ok (.bipush 8, 2) := by decide +kernel
theorem dX8_init_121 : decode cX8_init 121 = .ok (.newarray .int, 2) := by decide +kernel
theorem dX8_init_123 : decode cX8_init 123 = .ok (.putfield 55, 3) := by decide +kernel
theorem dX8_init_126 : decode cX8_init 126 = .ok (.return_, 1) := by decide +kernel
theorem dX8_isThing_0 : decode cX8_isThing 0 = .ok (.iload_n 1, 1) := by decide +kernel
theorem dX8_isThing_1 : decode cX8_isThing 1 = .ok (.ifCond .lt 15, 3) := by decide +kernel
theorem dX8_isThing_4 : decode cX8_isThing 4 = .ok (.iload_n 1, 1) := by decide +kernel
theorem dX8_isThing_5 : decode cX8_isThing 5 = .ok (.aload_n 0, 1) := by decide +kernel
theorem dX8_isThing_6 : decode cX8_isThing 6 = .ok (.getfield 58, 3) := by decide +kernel
theorem dX8_isThing_9 : decode cX8_isThing 9 = .ok (.if_icmp .ge 7, 3) := by decide +kernel
theorem dX8_isThing_16 : decode cX8_isThing 16 = .ok (.iconst 0, 1) := by decide +kernel
theorem dX8_isThing_17 : decode cX8_isThing 17 = .ok (.ireturn, 1) := by decide +kernel
theorem dX8_isHeap_0 : decode cX8_isHeap 0 = .ok (.iload_n 1, 1) := by decide +kernel
theorem dX8_isHeap_1 : decode cX8_isHeap 1 = .ok (.ifCond .lt 17, 3) := by decide +kernel
theorem dX8_isHeap_4 : decode cX8_isHeap 4 = .ok (.iload_n 1, 1) := by decide +kernel
theorem dX8_isHeap_5 : decode cX8_isHeap 5 = .ok (.iconst 1, 1) := by decide +kernel
theorem dX8_isHeap_6 : decode cX8_isHeap 6 = .ok (.aload_n 0, 1) := by decide +kernel
theorem dX8_isHeap_7 : decode cX8_isHeap 7 = .ok (.getfield 58, 3) := by decide +kernel
theorem dX8_isHeap_10 : decode cX8_isHeap 10 = .ok (.ishl, 1) := by decide +kernel
theorem dX8_isHeap_11 : decode cX8_isHeap 11 = .ok (.if_icmp .ge 7, 3) := by decide +kernel
theorem dX8_isHeap_14 : decode cX8_isHeap 14 = .ok (.iconst 1, 1) := by decide +kernel
theorem dX8_isHeap_15 : decode cX8_isHeap 15 = .ok (.goto 4, 3) := by decide +kernel
theorem dX8_isHeap_18 : decode cX8_isHeap 18 = .ok (.iconst 0, 1) := by decide +kernel
theorem dX8_isHeap_19 : decode cX8_isHeap 19 = .ok (.ireturn, 1) := by decide +kernel
set_option maxRecDepth 20000 in
theorem ggX8_isSetting_X8_isHeap : GoodIn wsX8_isSetting wsX8_isHeap := goodIn_r _ [6, 7, 8, 9, 10, 11, 12, 13, 14, 15, 16, 17, 18, 19, 20, 21, 22, 23, 24] (by decide +kernel) (by decide +kernel)
set_option maxRecDepth 20000 in
theorem gX8_isSetting_X8_isHeap : GoodIn wsX8_isSetting (wsV RX8 63 RX8 yX8_isHeap wsX8_isHeap) := goodIn_app (goodIn_of _ (by decide +kernel)) ggX8_isSetting_X8_isHeap
theorem dX8_isSetting_0 : decode cX8_isSetting 0 = .ok (.iload_n 1, 1) := by decide +kernel
theorem dX8_isSetting_1 : decode cX8_isSetting 1 = .ok (.ifCond .lt 40, 3) := by decide +kernel
theorem dX8_isSetting_4 : decode cX8_isSetting 4 = .ok (.iload_n 1, 1) := by decide +kernel
theorem dX8_isSetting_5 : decode cX8_isSetting 5 = .ok (.ldc 62, 2) := by decide +kernel
theorem dX8_isSetting_7 : decode cX8_isSetting 7 = .ok (.if_icmp .ge 34, 3) := by decide +kernel
theorem dX8_isSetting_10 : decode cX8_isSetting 10 = .ok (.aload_n 0, 1) := by decide +kernel
theorem dX8_isSetting_11 : decode cX8_isSetting 11 = .ok (.iload_n 1, 1) := by decide +kernel
theorem dX8_isSetting_12 : decode cX8_isSetting 12 = .ok (.sipush 255, 3) := by decide +kernel
theorem dX8_isSetting_15 : decode cX8_isSetting 15 = .ok (.iand, 1) := by decide +kernel
theorem dX8_isSetting_16 : decode cX8_isSetting 16 = .ok (.invokevirtual 63, 3) := by decide +kernel
theorem dX8_isSetting_19 : decode cX8_isSetting 19 = .ok (.ifCond .eq 22, 3) := by decide +kernel
theorem dX8_isSetting_22 : decode cX8_isSetting 22 = .ok (.iload_n 1, 1) := by decide +kernel
theorem dX8_isSetting_23 : decode cX8_isSetting 23 = .ok (.bipush 8, 2) := by decide +kernel
theorem dX8_isSetting_25 : decode cX8_isSetting 25 = .ok (.ishr, 1) := by decide +kernel
theorem dX8_isSetting_26 : decode cX8_isSetting 26 = .ok (.iload_n 1, 1) := by decide +kernel
theorem dX8_isSetting_27 : decode cX8_isSetting 27 = .ok (.sipush 255, 3) := by decide +kernel
theorem dX8_isSetting_30 : decode cX8_isSetting 30 = .ok (.iand, 1) := by decide +kernel
theorem dX8_isSetting_31 : decode cX8_isSetting 31 = .ok (.iconst (-1), 1) := by decide +kernel
theorem dX8_isSetting_32 : decode cX8_isSetting 32 = .ok (.ixor, 1) := by decide +kernel
theorem dX8_isSetting_33 : decode cX8_isSetting 33 = .ok (.iand, 1) := by decide +kernel
theorem dX8_isSetting_34 : decode cX8_isSetting 34 = .ok (.ifCond .ne 7, 3) := by decide +kernel
theorem dX8_isSetting_37 : decode cX8_isSetting 37 = .ok (.iconst 1, 1) := by decide +kernel
theorem dX8_isSetting_38 : decode cX8_isSetting 38 = .ok (.goto 4, 3) := by decide +kernel
theorem dX8_isSetting_41 : decode cX8_isSetting 41 = .ok (.iconst 0, 1) := by decide +kernel
theorem dX8_isSetting_42 : decode cX8_isSetting 42 = .ok (.ireturn, 1) := by decide +kernel
theorem dX8_fresh_0 : decode cX8_fresh 0 = .ok (.iconst 0, 1) := by decide +kernel
theorem dX8_fresh_1 : decode cX8_fresh 1 = .ok (.istore_n 2, 1) := by decide +kernel
theorem dX8_fresh_2 : decode cX8_fresh 2 = .ok (.iload_n 2, 1) := by decide +kernel
theorem dX8_fresh_3 : decode cX8_fresh 3 = .ok (.sipush 128, 3) := by decide +kernel
theorem dX8_fresh_6 : decode cX8_fresh 6 = .ok (.if_icmp .ge 23, 3) := by decide +kernel
theorem dX8_fresh_9 : decode cX8_fresh 9 = .ok (.aload_n 0, 1) := by decide +kernel
theorem dX8_fresh_10 : decode cX8_fresh 10 = .ok (.getfield 17, 3) := by decide +kernel
theorem dX8_fresh_13 : decode cX8_fresh 13 = .ok (.sipush 128, 3) := by decide +kernel
theorem dX8_fresh_16 : decode cX8_fresh 16 = .ok (.iload_n 1, 1) := by decide +kernel
theorem dX8_fresh_17 : decode cX8_fresh 17 = .ok (.imul, 1) := by decide +kernel
theorem dX8_fresh_18 : decode cX8_fresh 18 = .ok (.iload_n 2, 1) := by decide +kernel
theorem dX8_fresh_19 : decode cX8_fresh 19 = .ok (.iadd, 1) := by decide +kernel
theorem dX8_fresh_20 : decode cX8_fresh 20 = .ok (.bipush 50, 2) := by decide +kernel
theorem dX8_fresh_22 : decode cX8_fresh 22 = .ok (.iastore, 1) := by decide +kernel
theorem dX8_fresh_23 : decode cX8_fresh 23 = .ok (.iinc 2 1, 3) := by decide +kernel
theorem dX8_fresh_26 : decode cX8_fresh 26 = .ok (.goto (-24), 3) := by decide +kernel
theorem dX8_fresh_29 : decode cX8_fresh 29 = .ok (.return_, 1) := by decide +kernel
set_option maxRecDepth 20000 in
theorem ggX8_thing_X8_fresh : GoodIn wsX8_thing wsX8_fresh := goodIn_r _ [8, 9, 10, 11, 12, 13, 14, 15, 16, 17, 18, 19, 20, 21, 22, 23, 24, 25, 26] (by decide +kernel) (by decide +kernel)
set_option maxRecDepth 20000 in
theorem gX8_thing_X8_fresh : GoodIn wsX8_thing (wsV RX8 67 RX8 yX8_fresh wsX8_fresh) := goodIn_app (goodIn_of _ (by decide +kernel)) ggX8_thing_X8_fresh
theorem dX8_thing_0 : decode cX8_thing 0 = .ok (.aload_n 0, 1) := by decide +kernel
theorem dX8_thing_1 : decode cX8_thing 1 = .ok (.getfield 58, 3) := by decide +kernel
theorem dX8_thing_4 : decode cX8_thing 4 = .ok (.bipush 8, 2) := by decide +kernel
theorem dX8_thing_6 : decode cX8_thing 6 = .ok (.if_icmp .ne 5, 3) := by decide +kernel
theorem dX8_thing_11 : decode cX8_thing 11 = .ok (.aload_n 0, 1) := by decide +kernel
theorem dX8_thing_12 : decode cX8_thing 12 = .ok (.getfield 9, 3) := by decide +kernel
theorem dX8_thing_15 : decode cX8_thing 15 = .ok (.aload_n 0, 1) := by decide +kernel
theorem dX8_thing_16 : decode cX8_thing 16 = .ok (.getfield 58, 3) := by decide +kernel
theorem dX8_thing_19 : decode cX8_thing 19 = .ok (.iload_n 1, 1) := by decide +kernel
theorem dX8_thing_20 : decode cX8_thing 20 = .ok (.bastore, 1) := by decide +kernel
theorem dX8_thing_21 : decode cX8_thing 21 = .ok (.aload_n 0, 1) := by decide +kernel
theorem dX8_thing_22 : decode cX8_thing 22 = .ok (.getfield 13, 3) := by decide +kernel
theorem dX8_thing_25 : decode cX8_thing 25 = .ok (.aload_n 0, 1) := by decide +kernel
theorem dX8_thing_26 : decode cX8_thing 26 = .ok (.getfield 58, 3) := by decide +kernel
theorem dX8_thing_29 : decode cX8_thing 29 = .ok (.iconst 0, 1) := by decide +kernel
theorem dX8_thing_30 : decode cX8_thing 30 = .ok (.iastore, 1) := by decide +kernel
theorem dX8_thing_31 : decode cX8_thing 31 = .ok (.aload_n 0, 1) := by decide +kernel
theorem dX8_thing_32 : decode cX8_thing 32 = .ok (.aload_n 0, 1) := by decide +kernel
theorem dX8_thing_33 : decode cX8_thing 33 = .ok (.getfield 58, 3) := by decide +kernel
theorem dX8_thing_36 : decode cX8_thing 36 = .ok (.invokevirtual 67, 3) := by decide +kernel
theorem dX8_thing_39 : decode cX8_thing 39 = .ok (.aload_n 0, 1) := by decide +kernel
theorem dX8_thing_40 : decode cX8_thing 40 = .ok (.dup, 1) := by decide +kernel
theorem dX8_thing_41 : decode cX8_thing 41 = .ok (.getfield 58, 3) := by decide +kernel
theorem dX8_thing_44 : decode cX8_thing 44 = .ok (.iconst 1, 1) := by decide +kernel
theorem dX8_thing_45 : decode cX8_thing 45 = .ok (.iadd, 1) := by decide +kernel
theorem dX8_thing_46 : decode cX8_thing 46 = .ok (.putfield 58, 3) := by decide +kernel
theorem dX8_thing_49 : decode cX8_thing 49 = .ok (.aload_n 0, 1) := by decide +kernel
theorem dX8_thing_50 : decode cX8_thing 50 = .ok (.getfield 58, 3) := by decide +kernel
theorem dX8_thing_53 : decode cX8_thing 53 = .ok (.iconst 1, 1) := by decide +kernel
theorem dX8_thing_54 : decode cX8_thing 54 = .ok (.isub, 1) := by decide +kernel
theorem dX8_thing_55 : decode cX8_thing 55 = .ok (.ireturn, 1) := by decide +kernel
set_option maxRecDepth 20000 in
theorem ggX8_has_X8_isThing : GoodIn wsX8_has wsX8_isThing := goodIn_r _ [6, 7, 8, 9, 10, 11, 12, 13, 14, 15, 16, 17, 18, 19, 20, 21, 22, 23, 24] (by decide +kernel) (by decide +kernel)
set_option maxRecDepth 20000 in
theorem gX8_has_X8_isThing : GoodIn wsX8_has (wsV RX8 71 RX8 yX8_isThing wsX8_isThing) := goodIn_app (goodIn_of _ (by decide +kernel)) ggX8_has_X8_isThing
theorem dX8_has_0 : decode cX8_has 0 = .ok (.aload_n 0, 1) := by decide +kernel
theorem dX8_has_1 : decode cX8_has 1 = .ok (.iload_n 1, 1) := by decide +kernel
theorem dX8_has_2 : decode cX8_has 2 = .ok (.invokevirtual 71, 3) := by decide +kernel
theorem dX8_has_5 : decode cX8_has 5 = .ok (.ifCond .eq 29, 3) := by decide +kernel
theorem dX8_has_34 : decode cX8_has 34 = .ok (.iconst 0, 1) := by decide +kernel
theorem dX8_has_35 : decode cX8_has 35 = .ok (.ireturn, 1) := by decide +kernel
set_option maxRecDepth 20000 in
theorem ggX8_arrow_X8_isThing : GoodIn wsX8_arrow wsX8_isThing := goodIn_r _ [6, 7, 25, 26, 27, 28, 29, 30, 31, 32, 33, 34, 35, 36, 37, 38, 39, 40, 41] (by decide +kernel) (by decide +kernel)
set_option maxRecDepth 20000 in
theorem gX8_arrow_X8_isThing : GoodIn wsX8_arrow (wsV RX8 71 RX8 yX8_isThing wsX8_isThing) := goodIn_app (goodIn_of _ (by decide +kernel)) ggX8_arrow_X8_isThing
theorem dX8_arrow_0 : decode cX8_arrow 0 = .ok (.aload_n 0, 1) := by decide +kernel
theorem dX8_arrow_1 : decode cX8_arrow 1 = .ok (.iload_n 1, 1) := by decide +kernel
theorem dX8_arrow_2 : decode cX8_arrow 2 = .ok (.invokevirtual 71, 3) := by decide +kernel
theorem dX8_arrow_5 : decode cX8_arrow 5 = .ok (.ifCond .eq 48, 3) := by decide +kernel
theorem dX8_arrow_53 : decode cX8_arrow 53 = .ok (.iconst 0, 1) := by decide +kernel
theorem dX8_arrow_54 : decode cX8_arrow 54 = .ok (.ireturn, 1) := by decide +kernel
set_option maxRecDepth 20000 in
theorem ggX8_cut_X8_has : GoodIn wsX8_cut wsX8_has := goodIn_r _ [6, 1, 7, 8, 9, 5, 10, 11, 17, 18, 19, 20, 21, 22, 23, 24, 25, 26, 27, 28, 29, 30, 31, 32, 33] (by decide +kernel) (by decide +kernel)
set_option maxRecDepth 20000 in
theorem gX8_cut_X8_has : GoodIn wsX8_cut (wsV RX8 78 RX8 yX8_has wsX8_has) := goodIn_app (goodIn_of _ (by decide +kernel)) ggX8_cut_X8_has
theorem dX8_cut_0 : decode cX8_cut 0 = .ok (.aload_n 0, 1) := by decide +kernel
theorem dX8_cut_1 : decode cX8_cut 1 = .ok (.iload_n 1, 1) := by decide +kernel
theorem dX8_cut_2 : decode cX8_cut 2 = .ok (.iload_n 2, 1) := by decide +kernel
theorem dX8_cut_3 : decode cX8_cut 3 = .ok (.invokevirtual 78, 3) := by decide +kernel
theorem dX8_cut_6 : decode cX8_cut 6 = .ok (.ifCond .ne 5, 3) := by decide +kernel
theorem dX8_cut_9 : decode cX8_cut 9 = .ok (.iconst 0, 1) := by decide +kernel
theorem dX8_cut_10 : decode cX8_cut 10 = .ok (.ireturn, 1) := by decide +kernel
set_option maxRecDepth 20000 in
theorem ggX8_turn_X8_has : GoodIn wsX8_turn wsX8_has := goodIn_r _ [6, 1, 7, 8, 9, 5, 10, 11, 25, 26, 27, 28, 29, 30, 31, 32, 33, 34, 35, 36, 37, 38, 39, 40, 41] (by decide +kernel) (by decide +kernel)
set_option maxRecDepth 20000 in
theorem gX8_turn_X8_has : GoodIn wsX8_turn (wsV RX8 78 RX8 yX8_has wsX8_has) := goodIn_app (goodIn_of _ (by decide +kernel)) ggX8_turn_X8_has
theorem dX8_turn_0 : decode cX8_turn 0 = .ok (.aload_n 0, 1) := by decide +kernel
theorem dX8_turn_1 : decode cX8_turn 1 = .ok (.iload_n 1, 1) := by decide +kernel
theorem dX8_turn_2 : decode cX8_turn 2 = .ok (.iload_n 2, 1) := by decide +kernel
theorem dX8_turn_3 : decode cX8_turn 3 = .ok (.invokevirtual 78, 3) := by decide +kernel
theorem dX8_turn_6 : decode cX8_turn 6 = .ok (.ifCond .ne 5, 3) := by decide +kernel
theorem dX8_turn_9 : decode cX8_turn 9 = .ok (.iconst 0, 1) := by decide +kernel
theorem dX8_turn_10 : decode cX8_turn 10 = .ok (.ireturn, 1) := by decide +kernel
set_option maxRecDepth 20000 in
theorem ggX8_isRow_X8_isThing : GoodIn wsX8_isRow wsX8_isThing := goodIn_r _ [6, 7, 11, 12, 13, 14, 15, 16, 17, 18, 19, 20, 21, 22, 23, 24, 25, 26, 27] (by decide +kernel) (by decide +kernel)
set_option maxRecDepth 20000 in
theorem gX8_isRow_X8_isThing : GoodIn wsX8_isRow (wsV RX8 71 RX8 yX8_isThing wsX8_isThing) := goodIn_app (goodIn_of _ (by decide +kernel)) ggX8_isRow_X8_isThing
theorem dX8_isRow_0 : decode cX8_isRow 0 = .ok (.aload_n 0, 1) := by decide +kernel
theorem dX8_isRow_1 : decode cX8_isRow 1 = .ok (.iload_n 1, 1) := by decide +kernel
theorem dX8_isRow_2 : decode cX8_isRow 2 = .ok (.invokevirtual 71, 3) := by decide +kernel
theorem dX8_isRow_5 : decode cX8_isRow 5 = .ok (.ifCond .eq 26, 3) := by decide +kernel
theorem dX8_isRow_31 : decode cX8_isRow 31 = .ok (.iconst 0, 1) := by decide +kernel
theorem dX8_isRow_32 : decode cX8_isRow 32 = .ok (.ireturn, 1) := by decide +kernel
set_option maxRecDepth 20000 in
theorem ggX8_book_X8_isRow : GoodIn wsX8_book wsX8_isRow := goodIn_r _ [6, 7, 8, 9, 10, 5, 11, 12, 13, 14, 15, 16, 17, 18, 19, 20, 21, 22, 23, 24, 25, 26, 27, 28, 29, 30, 31, 32] (by decide +kernel) (by decide +kernel)
set_option maxRecDepth 20000 in
theorem gX8_book_X8_isRow : GoodIn wsX8_book (wsV RX8 90 RX8 yX8_isRow wsX8_isRow) := goodIn_app (goodIn_of _ (by decide +kernel)) ggX8_book_X8_isRow
theorem dX8_book_0 : decode cX8_book 0 = .ok (.aload_n 0, 1) := by decide +kernel
theorem dX8_book_1 : decode cX8_book 1 = .ok (.iload_n 1, 1) := by decide +kernel
theorem dX8_book_2 : decode cX8_book 2 = .ok (.iload_n 2, 1) := by decide +kernel
theorem dX8_book_3 : decode cX8_book 3 = .ok (.invokevirtual 90, 3) := by decide +kernel
theorem dX8_book_6 : decode cX8_book 6 = .ok (.ifCond .eq 13, 3) := by decide +kernel
theorem dX8_book_19 : decode cX8_book 19 = .ok (.iconst 0, 1) := by decide +kernel
theorem dX8_book_20 : decode cX8_book 20 = .ok (.ireturn, 1) := by decide +kernel
set_option maxRecDepth 20000 in
theorem ggX8_booked_X8_isRow : GoodIn wsX8_booked wsX8_isRow := goodIn_r _ [6, 7, 8, 9, 10, 5, 11, 12, 13, 14, 15, 16, 17, 18, 19, 20, 21, 22, 23, 24, 25, 26, 27, 28, 29, 30, 31, 32] (by decide +kernel) (by decide +kernel)
set_option maxRecDepth 20000 in
theorem gX8_booked_X8_isRow : GoodIn wsX8_booked (wsV RX8 90 RX8 yX8_isRow wsX8_isRow) := goodIn_app (goodIn_of _ (by decide +kernel)) ggX8_booked_X8_isRow
theorem dX8_booked_0 : decode cX8_booked 0 = .ok (.aload_n 0, 1) := by decide +kernel
theorem dX8_booked_1 : decode cX8_booked 1 = .ok (.iload_n 1, 1) := by decide +kernel
theorem dX8_booked_2 : decode cX8_booked 2 = .ok (.iload_n 2, 1) := by decide +kernel
theorem dX8_booked_3 : decode cX8_booked 3 = .ok (.invokevirtual 90, 3) := by decide +kernel
theorem dX8_booked_6 : decode cX8_booked 6 = .ok (.ifCond .eq 18, 3) := by decide +kernel
theorem dX8_booked_24 : decode cX8_booked 24 = .ok (.iconst (-1), 1) := by decide +kernel
theorem dX8_booked_25 : decode cX8_booked 25 = .ok (.ireturn, 1) := by decide +kernel
set_option maxRecDepth 20000 in
theorem ggX8_told_X8_isThing : GoodIn wsX8_told wsX8_isThing := goodIn_r _ [8, 3, 21, 22, 23, 24, 25, 26, 27, 28, 29, 30, 31, 32, 33, 34, 35, 36, 37] (by decide +kernel) (by decide +kernel)
set_option maxRecDepth 20000 in
theorem gX8_told_X8_isThing : GoodIn wsX8_told (wsV RX8 71 RX8 yX8_isThing wsX8_isThing) := goodIn_app (goodIn_of _ (by decide +kernel)) ggX8_told_X8_isThing
theorem dX8_told_0 : decode cX8_told 0 = .ok (.aload_n 0, 1) := by decide +kernel
theorem dX8_told_1 : decode cX8_told 1 = .ok (.iload_n 1, 1) := by decide +kernel
theorem dX8_told_2 : decode cX8_told 2 = .ok (.invokevirtual 71, 3) := by decide +kernel
theorem dX8_told_5 : decode cX8_told 5 = .ok (.ifCond .ne 5, 3) := by decide +kernel
theorem dX8_told_8 : decode cX8_told 8 = .ok (.iconst (-1), 1) := by decide +kernel
theorem dX8_told_9 : decode cX8_told 9 = .ok (.ireturn, 1) := by decide +kernel
theorem dX8_weightOf_0 : decode cX8_weightOf 0 = .ok (.iload_n 1, 1) := by decide +kernel
theorem dX8_weightOf_1 : decode cX8_weightOf 1 = .ok (.iload_n 2, 1) := by decide +kernel
theorem dX8_weightOf_2 : decode cX8_weightOf 2 = .ok (.bipush 8, 2) := by decide +kernel
theorem dX8_weightOf_4 : decode cX8_weightOf 4 = .ok (.ishr, 1) := by decide +kernel
theorem dX8_weightOf_5 : decode cX8_weightOf 5 = .ok (.ixor, 1) := by decide +kernel
theorem dX8_weightOf_6 : decode cX8_weightOf 6 = .ok (.iload_n 2, 1) := by decide +kernel
theorem dX8_weightOf_7 : decode cX8_weightOf 7 = .ok (.iand, 1) := by decide +kernel
theorem dX8_weightOf_8 : decode cX8_weightOf 8 = .ok (.sipush 255, 3) := by decide +kernel
theorem dX8_weightOf_11 : decode cX8_weightOf 11 = .ok (.iand, 1) := by decide +kernel
theorem dX8_weightOf_12 : decode cX8_weightOf 12 = .ok (.ifCond .eq 5, 3) := by decide +kernel
theorem dX8_weightOf_17 : decode cX8_weightOf 17 = .ok (.lconst 1, 1) := by decide +kernel
theorem dX8_weightOf_18 : decode cX8_weightOf 18 = .ok (.lstore_n 3, 1) := by decide +kernel
theorem dX8_weightOf_19 : decode cX8_weightOf 19 = .ok (.iconst 0, 1) := by decide +kernel
theorem dX8_weightOf_20 : decode cX8_weightOf 20 = .ok (.istore 5, 2) := by decide +kernel
theorem dX8_weightOf_22 : decode cX8_weightOf 22 = .ok (.iload 5, 2) := by decide +kernel
theorem dX8_weightOf_24 : decode cX8_weightOf 24 = .ok (.aload_n 0, 1) := by decide +kernel
theorem dX8_weightOf_25 : decode cX8_weightOf 25 = .ok (.getfield 58, 3) := by decide +kernel
theorem dX8_weightOf_28 : decode cX8_weightOf 28 = .ok (.if_icmp .ge 59, 3) := by decide +kernel
theorem dX8_weightOf_87 : decode cX8_weightOf 87 = .ok (.lload_n 3, 1) := by decide +kernel
theorem dX8_weightOf_88 : decode cX8_weightOf 88 = .ok (.lreturn, 1) := by decide +kernel
set_option maxRecDepth 20000 in
theorem ggX8_sum_X8_weightOf : GoodIn wsX8_sum wsX8_weightOf := goodIn_r _ [6, 1, 7, 8, 9, 10, 5, 11, 12, 13, 14, 15, 16, 17, 18, 19, 20, 21, 22, 23, 24, 25, 26, 27, 28, 29, 30] (by decide +kernel) (by decide +kernel)
set_option maxRecDepth 20000 in
theorem gX8_sum_X8_weightOf : GoodIn wsX8_sum (wsV RX8 98 RX8 yX8_weightOf wsX8_weightOf) := goodIn_app (goodIn_of _ (by decide +kernel)) ggX8_sum_X8_weightOf
theorem dX8_sum_0 : decode cX8_sum 0 = .ok (.lconst 0, 1) := by decide +kernel
theorem dX8_sum_1 : decode cX8_sum 1 = .ok (.lstore_n 3, 1) := by decide +kernel
theorem dX8_sum_2 : decode cX8_sum 2 = .ok (.iconst 0, 1) := by decide +kernel
theorem dX8_sum_3 : decode cX8_sum 3 = .ok (.istore 5, 2) := by decide +kernel
theorem dX8_sum_5 : decode cX8_sum 5 = .ok (.iload 5, 2) := by decide +kernel
theorem dX8_sum_7 : decode cX8_sum 7 = .ok (.iconst 1, 1) := by decide +kernel
theorem dX8_sum_8 : decode cX8_sum 8 = .ok (.aload_n 0, 1) := by decide +kernel
theorem dX8_sum_9 : decode cX8_sum 9 = .ok (.getfield 58, 3) := by decide +kernel
theorem dX8_sum_12 : decode cX8_sum 12 = .ok (.ishl, 1) := by decide +kernel
theorem dX8_sum_13 : decode cX8_sum 13 = .ok (.if_icmp .ge 35, 3) := by decide +kernel
theorem dX8_sum_16 : decode cX8_sum 16 = .ok (.iload 5, 2) := by decide +kernel
theorem dX8_sum_18 : decode cX8_sum 18 = .ok (.iload_n 1, 1) := by decide +kernel
theorem dX8_sum_19 : decode cX8_sum 19 = .ok (.bipush 8, 2) := by decide +kernel
theorem dX8_sum_21 : decode cX8_sum 21 = .ok (.ishr, 1) := by decide +kernel
theorem dX8_sum_22 : decode cX8_sum 22 = .ok (.ixor, 1) := by decide +kernel
theorem dX8_sum_23 : decode cX8_sum 23 = .ok (.iload_n 1, 1) := by decide +kernel
theorem dX8_sum_24 : decode cX8_sum 24 = .ok (.iand, 1) := by decide +kernel
theorem dX8_sum_25 : decode cX8_sum 25 = .ok (.sipush 255, 3) := by decide +kernel
theorem dX8_sum_28 : decode cX8_sum 28 = .ok (.iand, 1) := by decide +kernel
theorem dX8_sum_29 : decode cX8_sum 29 = .ok (.ifCond .ne 13, 3) := by decide +kernel
theorem dX8_sum_32 : decode cX8_sum 32 = .ok (.lload_n 3, 1) := by decide +kernel
theorem dX8_sum_33 : decode cX8_sum 33 = .ok (.aload_n 0, 1) := by decide +kernel
theorem dX8_sum_34 : decode cX8_sum 34 = .ok (.iload 5, 2) := by decide +kernel
theorem dX8_sum_36 : decode cX8_sum 36 = .ok (.iload_n 2, 1) := by decide +kernel
theorem dX8_sum_37 : decode cX8_sum 37 = .ok (.invokevirtual 98, 3) := by decide +kernel
theorem dX8_sum_40 : decode cX8_sum 40 = .ok (.ladd, 1) := by decide +kernel
theorem dX8_sum_41 : decode cX8_sum 41 = .ok (.lstore_n 3, 1) := by decide +kernel
theorem dX8_sum_42 : decode cX8_sum 42 = .ok (.iinc 5 1, 3) := by decide +kernel
theorem dX8_sum_45 : decode cX8_sum 45 = .ok (.goto (-40), 3) := by decide +kernel
theorem dX8_sum_48 : decode cX8_sum 48 = .ok (.lload_n 3, 1) := by decide +kernel
theorem dX8_sum_49 : decode cX8_sum 49 = .ok (.lreturn, 1) := by decide +kernel
set_option maxRecDepth 20000 in
theorem ggX8_weight_X8_isSetting : GoodIn wsX8_weight wsX8_isSetting := goodIn_r _ [6, 7, 8, 9, 10, 5, 11, 12, 28, 29, 30, 31, 32, 33, 34, 35, 36, 37, 38, 39, 40, 41, 42, 43, 44] (by decide +kernel) (by decide +kernel)
set_option maxRecDepth 20000 in
theorem gX8_weight_X8_isSetting : GoodIn wsX8_weight (wsV RX8 102 RX8 yX8_isSetting wsX8_isSetting) := goodIn_app (goodIn_of _ (by decide +kernel)) ggX8_weight_X8_isSetting
set_option maxRecDepth 20000 in
theorem ggX8_weight_X8_sum : GoodIn wsX8_weight wsX8_sum := goodIn_r _ [16, 12, 17, 18, 19, 5, 20, 21, 22, 23, 24, 25, 26, 27, 28, 29, 30, 31, 32, 33, 34, 35, 36, 37, 38, 39, 40, 41, 42, 43, 44] (by decide +kernel) (by decide +kernel)
set_option maxRecDepth 20000 in
theorem gX8_weight_X8_sum : GoodIn wsX8_weight (wsV RX8 105 RX8 yX8_sum wsX8_sum) := goodIn_app (goodIn_of _ (by decide +kernel)) ggX8_weight_X8_sum
theorem dX8_weight_0 : decode cX8_weight 0 = .ok (.aload_n 0, 1) := by decide +kernel
theorem dX8_weight_1 : decode cX8_weight 1 = .ok (.iload_n 1, 1) := by decide +kernel
theorem dX8_weight_2 : decode cX8_weight 2 = .ok (.invokevirtual 102, 3) := by decide +kernel
theorem dX8_weight_5 : decode cX8_weight 5 = .ok (.ifCond .eq 20, 3) := by decide +kernel
theorem dX8_weight_8 : decode cX8_weight 8 = .ok (.aload_n 0, 1) := by decide +kernel
theorem dX8_weight_9 : decode cX8_weight 9 = .ok (.iload_n 2, 1) := by decide +kernel
theorem dX8_weight_10 : decode cX8_weight 10 = .ok (.invokevirtual 102, 3) := by decide +kernel
theorem dX8_weight_13 : decode cX8_weight 13 = .ok (.ifCond .eq 12, 3) := by decide +kernel
theorem dX8_weight_16 : decode cX8_weight 16 = .ok (.aload_n 0, 1) := by decide +kernel
theorem dX8_weight_17 : decode cX8_weight 17 = .ok (.iload_n 1, 1) := by decide +kernel
theorem dX8_weight_18 : decode cX8_weight 18 = .ok (.iload_n 2, 1) := by decide +kernel
theorem dX8_weight_19 : decode cX8_weight 19 = .ok (.invokevirtual 105, 3) := by decide +kernel
theorem dX8_weight_22 : decode cX8_weight 22 = .ok (.goto 6, 3) := by decide +kernel
theorem dX8_weight_25 : decode cX8_weight 25 = .ok (.ldc2_w 108, 3) := by decide +kernel
theorem dX8_weight_28 : decode cX8_weight 28 = .ok (.lreturn, 1) := by decide +kernel
theorem dX8_shared_0 : decode cX8_shared 0 = .ok (.lload_n 0, 1) := by decide +kernel
theorem dX8_shared_1 : decode cX8_shared 1 = .ok (.lstore 4, 2) := by decide +kernel
theorem dX8_shared_3 : decode cX8_shared 3 = .ok (.lload_n 2, 1) := by decide +kernel
theorem dX8_shared_4 : decode cX8_shared 4 = .ok (.lstore 6, 2) := by decide +kernel
theorem dX8_shared_6 : decode cX8_shared 6 = .ok (.lload 6, 2) := by decide +kernel
theorem dX8_shared_8 : decode cX8_shared 8 = .ok (.lconst 0, 1) := by decide +kernel
theorem dX8_shared_9 : decode cX8_shared 9 = .ok (.lcmp, 1) := by decide +kernel
theorem dX8_shared_10 : decode cX8_shared 10 = .ok (.ifCond .eq 21, 3) := by decide +kernel
theorem dX8_shared_13 : decode cX8_shared 13 = .ok (.lload 4, 2) := by decide +kernel
theorem dX8_shared_15 : decode cX8_shared 15 = .ok (.lload 6, 2) := by decide +kernel
theorem dX8_shared_17 : decode cX8_shared 17 = .ok (.lrem, 1) := by decide +kernel
theorem dX8_shared_18 : decode cX8_shared 18 = .ok (.lstore 8, 2) := by decide +kernel
theorem dX8_shared_20 : decode cX8_shared 20 = .ok (.lload 6, 2) := by decide +kernel
theorem dX8_shared_22 : decode cX8_shared 22 = .ok (.lstore 4, 2) := by decide +kernel
theorem dX8_shared_24 : decode cX8_shared 24 = .ok (.lload 8, 2) := by decide +kernel
theorem dX8_shared_26 : decode cX8_shared 26 = .ok (.lstore 6, 2) := by decide +kernel
theorem dX8_shared_28 : decode cX8_shared 28 = .ok (.goto (-22), 3) := by decide +kernel
theorem dX8_shared_31 : decode cX8_shared 31 = .ok (.lload 4, 2) := by decide +kernel
theorem dX8_shared_33 : decode cX8_shared 33 = .ok (.lreturn, 1) := by decide +kernel
set_option maxRecDepth 20000 in
theorem ggX8_chance_X8_isSetting : GoodIn wsX8_chance wsX8_isSetting := goodIn_r _ [8, 9, 10, 11, 12, 7, 13, 3, 32, 33, 34, 35, 36, 37, 38, 39, 40, 41, 42, 43, 44, 45, 46, 47, 48] (by decide +kernel) (by decide +kernel)
set_option maxRecDepth 20000 in
theorem gX8_chance_X8_isSetting : GoodIn wsX8_chance (wsV RX8 102 RX8 yX8_isSetting wsX8_isSetting) := goodIn_app (goodIn_of _ (by decide +kernel)) ggX8_chance_X8_isSetting
set_option maxRecDepth 20000 in
theorem ggX8_chance_X8_sum : GoodIn wsX8_chance wsX8_sum := goodIn_r _ [17, 3, 18, 19, 20, 7, 21, 22, 23, 24, 25, 26, 27, 28, 32, 33, 34, 35, 36, 37, 38, 39, 40, 41, 42, 43, 44, 45, 46, 47, 48] (by decide +kernel) (by decide +kernel)
set_option maxRecDepth 20000 in
theorem gX8_chance_X8_sum : GoodIn wsX8_chance (wsV RX8 105 RX8 yX8_sum wsX8_sum) := goodIn_app (goodIn_of _ (by decide +kernel)) ggX8_chance_X8_sum
set_option maxRecDepth 20000 in
theorem ggX8_chance_X8_weightOf : GoodIn wsX8_chance wsX8_weightOf := goodIn_r _ [21, 3, 22, 23, 24, 25, 7, 26, 27, 28, 32, 33, 34, 35, 36, 37, 38, 39, 40, 41, 42, 43, 44, 45, 46, 47, 48] (by decide +kernel) (by decide +kernel)
set_option maxRecDepth 20000 in
theorem gX8_chance_X8_weightOf : GoodIn wsX8_chance (wsV RX8 98 RX8 yX8_weightOf wsX8_weightOf) := goodIn_app (goodIn_of _ (by decide +kernel)) ggX8_chance_X8_weightOf
set_option maxRecDepth 20000 in
theorem ggX8_chance_X8_shared : GoodIn wsX8_chance wsX8_shared := goodIn_r _ [31] (by decide +kernel) (by decide +kernel)
set_option maxRecDepth 20000 in
theorem gX8_chance_X8_shared : GoodIn wsX8_chance (va_wsS RX8 113 yX8_shared wsX8_shared) := goodIn_app (goodIn_of _ (by decide +kernel)) ggX8_chance_X8_shared
theorem dX8_chance_0 : decode cX8_chance 0 = .ok (.aload_n 0, 1) := by decide +kernel
theorem dX8_chance_1 : decode cX8_chance 1 = .ok (.lconst 0, 1) := by decide +kernel
theorem dX8_chance_2 : decode cX8_chance 2 = .ok (.putfield 110, 3) := by decide +kernel
theorem dX8_chance_5 : decode cX8_chance 5 = .ok (.aload_n 0, 1) := by decide +kernel
theorem dX8_chance_6 : decode cX8_chance 6 = .ok (.lconst 1, 1) := by decide +kernel
theorem dX8_chance_7 : decode cX8_chance 7 = .ok (.putfield 20, 3) := by decide +kernel
theorem dX8_chance_10 : decode cX8_chance 10 = .ok (.aload_n 0, 1) := by decide +kernel
theorem dX8_chance_11 : decode cX8_chance 11 = .ok (.iload_n 1, 1) := by decide +kernel
theorem dX8_chance_12 : decode cX8_chance 12 = .ok (.invokevirtual 102, 3) := by decide +kernel
theorem dX8_chance_15 : decode cX8_chance 15 = .ok (.ifCond .eq 19, 3) := by decide +kernel
theorem dX8_chance_18 : decode cX8_chance 18 = .ok (.aload_n 0, 1) := by decide +kernel
theorem dX8_chance_19 : decode cX8_chance 19 = .ok (.iload_n 2, 1) := by decide +kernel
theorem dX8_chance_20 : decode cX8_chance 20 = .ok (.invokevirtual 102, 3) := by decide +kernel
theorem dX8_chance_23 : decode cX8_chance 23 = .ok (.ifCond .eq 11, 3) := by decide +kernel
theorem dX8_chance_26 : decode cX8_chance 26 = .ok (.aload_n 0, 1) := by decide +kernel
theorem dX8_chance_27 : decode cX8_chance 27 = .ok (.iload_n 3, 1) := by decide +kernel
theorem dX8_chance_28 : decode cX8_chance 28 = .ok (.invokevirtual 102, 3) := by decide +kernel
theorem dX8_chance_31 : decode cX8_chance 31 = .ok (.ifCond .ne 5, 3) := by decide +kernel
theorem dX8_chance_34 : decode cX8_chance 34 = .ok (.iconst (-1), 1) := by decide +kernel
theorem dX8_chance_35 : decode cX8_chance 35 = .ok (.ireturn, 1) := by decide +kernel
theorem dX8_chance_36 : decode cX8_chance 36 = .ok (.aload_n 0, 1) := by decide +kernel
theorem dX8_chance_37 : decode cX8_chance 37 = .ok (.iload_n 2, 1) := by decide +kernel
theorem dX8_chance_38 : decode cX8_chance 38 = .ok (.iload_n 3, 1) := by decide +kernel
theorem dX8_chance_39 : decode cX8_chance 39 = .ok (.invokevirtual 105, 3) := by decide +kernel
theorem dX8_chance_42 : decode cX8_chance 42 = .ok (.lstore 4, 2) := by decide +kernel
theorem dX8_chance_44 : decode cX8_chance 44 = .ok (.lload 4, 2) := by decide +kernel
theorem dX8_chance_46 : decode cX8_chance 46 = .ok (.lconst 0, 1) := by decide +kernel
theorem dX8_chance_47 : decode cX8_chance 47 = .ok (.lcmp, 1) := by decide +kernel
theorem dX8_chance_48 : decode cX8_chance 48 = .ok (.ifCond .ne 5, 3) := by decide +kernel
theorem dX8_chance_53 : decode cX8_chance 53 = .ok (.lconst 0, 1) := by decide +kernel
theorem dX8_chance_54 : decode cX8_chance 54 = .ok (.lstore 6, 2) := by decide +kernel
theorem dX8_chance_56 : decode cX8_chance 56 = .ok (.iconst 0, 1) := by decide +kernel
theorem dX8_chance_57 : decode cX8_chance 57 = .ok (.istore 8, 2) := by decide +kernel
theorem dX8_chance_59 : decode cX8_chance 59 = .ok (.iload 8, 2) := by decide +kernel
theorem dX8_chance_61 : decode cX8_chance 61 = .ok (.iconst 1, 1) := by decide +kernel
theorem dX8_chance_62 : decode cX8_chance 62 = .ok (.aload_n 0, 1) := by decide +kernel
theorem dX8_chance_63 : decode cX8_chance 63 = .ok (.getfield 58, 3) := by decide +kernel
theorem dX8_chance_66 : decode cX8_chance 66 = .ok (.ishl, 1) := by decide +kernel
theorem dX8_chance_67 : decode cX8_chance 67 = .ok (.if_icmp .ge 65, 3) := by decide +kernel
theorem dX8_chance_70 : decode cX8_chance 70 = .ok (.iload 8, 2) := by decide +kernel
theorem dX8_chance_72 : decode cX8_chance 72 = .ok (.iload_n 1, 1) := by decide +kernel
theorem dX8_chance_73 : decode cX8_chance 73 = .ok (.bipush 8, 2) := by decide +kernel
theorem dX8_chance_75 : decode cX8_chance 75 = .ok (.ishr, 1) := by decide +kernel
theorem dX8_chance_76 : decode cX8_chance 76 = .ok (.ixor, 1) := by decide +kernel
theorem dX8_chance_77 : decode cX8_chance 77 = .ok (.iload_n 1, 1) := by decide +kernel
theorem dX8_chance_78 : decode cX8_chance 78 = .ok (.iand, 1) := by decide +kernel
theorem dX8_chance_79 : decode cX8_chance 79 = .ok (.sipush 255, 3) := by decide +kernel
theorem dX8_chance_82 : decode cX8_chance 82 = .ok (.iand, 1) := by decide +kernel
theorem dX8_chance_83 : decode cX8_chance 83 = .ok (.ifCond .ne 23, 3) := by decide +kernel
theorem dX8_chance_86 : decode cX8_chance 86 = .ok (.iload 8, 2) := by decide +kernel
theorem dX8_chance_88 : decode cX8_chance 88 = .ok (.iload_n 2, 1) := by decide +kernel
theorem dX8_chance_89 : decode cX8_chance 89 = .ok (.bipush 8, 2) := by decide +kernel
theorem dX8_chance_91 : decode cX8_chance 91 = .ok (.ishr, 1) := by decide +kernel
theorem dX8_chance_92 : decode cX8_chance 92 = .ok (.ixor, 1) := by decide +kernel
theorem dX8_chance_93 : decode cX8_chance 93 = .ok (.iload_n 2, 1) := by decide +kernel
theorem dX8_chance_94 : decode cX8_chance 94 = .ok (.iand, 1) := by decide +kernel
theorem dX8_chance_95 : decode cX8_chance 95 = .ok (.sipush 255, 3) := by decide +kernel
theorem dX8_chance_98 : decode cX8_chance 98 = .ok (.iand, 1) := by decide +kernel
theorem dX8_chance_99 : decode cX8_chance 99 = .ok (.ifCond .ne 7, 3) := by decide +kernel
theorem dX8_chance_102 : decode cX8_chance 102 = .ok (.iconst 1, 1) := by decide +kernel
theorem dX8_chance_103 : decode cX8_chance 103 = .ok (.goto 4, 3) := by decide +kernel
theorem dX8_chance_107 : decode cX8_chance 107 = .ok (.istore 9, 2) := by decide +kernel
theorem dX8_chance_109 : decode cX8_chance 109 = .ok (.iload 9, 2) := by decide +kernel
theorem dX8_chance_111 : decode cX8_chance 111 = .ok (.ifCond .eq 15, 3) := by decide +kernel
theorem dX8_chance_114 : decode cX8_chance 114 = .ok (.lload 6, 2) := by decide +kernel
theorem dX8_chance_116 : decode cX8_chance 116 = .ok (.aload_n 0, 1) := by decide +kernel
theorem dX8_chance_117 : decode cX8_chance 117 = .ok (.iload 8, 2) := by decide +kernel
theorem dX8_chance_119 : decode cX8_chance 119 = .ok (.iload_n 3, 1) := by decide +kernel
theorem dX8_chance_120 : decode cX8_chance 120 = .ok (.invokevirtual 98, 3) := by decide +kernel
theorem dX8_chance_123 : decode cX8_chance 123 = .ok (.ladd, 1) := by decide +kernel
theorem dX8_chance_124 : decode cX8_chance 124 = .ok (.lstore 6, 2) := by decide +kernel
theorem dX8_chance_126 : decode cX8_chance 126 = .ok (.iinc 8 1, 3) := by decide +kernel
theorem dX8_chance_129 : decode cX8_chance 129 = .ok (.goto (-70), 3) := by decide +kernel
theorem dX8_chance_132 : decode cX8_chance 132 = .ok (.lload 6, 2) := by decide +kernel
theorem dX8_chance_134 : decode cX8_chance 134 = .ok (.lload 4, 2) := by decide +kernel
theorem dX8_chance_136 : decode cX8_chance 136 = .ok (.invokestatic 113, 3) := by decide +kernel
theorem dX8_chance_139 : decode cX8_chance 139 = .ok (.lstore 8, 2) := by decide +kernel
theorem dX8_chance_141 : decode cX8_chance 141 = .ok (.aload_n 0, 1) := by decide +kernel
theorem dX8_chance_142 : decode cX8_chance 142 = .ok (.lload 6, 2) := by decide +kernel
theorem dX8_chance_144 : decode cX8_chance 144 = .ok (.lload 8, 2) := by decide +kernel
theorem dX8_chance_146 : decode cX8_chance 146 = .ok (.ldiv, 1) := by decide +kernel
theorem dX8_chance_147 : decode cX8_chance 147 = .ok (.putfield 110, 3) := by decide +kernel
theorem dX8_chance_150 : decode cX8_chance 150 = .ok (.aload_n 0, 1) := by decide +kernel
theorem dX8_chance_151 : decode cX8_chance 151 = .ok (.lload 4, 2) := by decide +kernel
theorem dX8_chance_153 : decode cX8_chance 153 = .ok (.lload 8, 2) := by decide +kernel
theorem dX8_chance_155 : decode cX8_chance 155 = .ok (.ldiv, 1) := by decide +kernel
theorem dX8_chance_156 : decode cX8_chance 156 = .ok (.putfield 20, 3) := by decide +kernel
theorem dX8_chance_159 : decode cX8_chance 159 = .ok (.iconst 1, 1) := by decide +kernel
theorem dX8_chance_160 : decode cX8_chance 160 = .ok (.ireturn, 1) := by decide +kernel
theorem dX8_above_0 : decode cX8_above 0 = .ok (.aload_n 0, 1) := by decide +kernel
theorem dX8_above_1 : decode cX8_above 1 = .ok (.getfield 110, 3) := by decide +kernel
theorem dX8_above_4 : decode cX8_above 4 = .ok (.lreturn, 1) := by decide +kernel
theorem dX8_below_0 : decode cX8_below 0 = .ok (.aload_n 0, 1) := by decide +kernel
theorem dX8_below_1 : decode cX8_below 1 = .ok (.getfield 20, 3) := by decide +kernel
theorem dX8_below_4 : decode cX8_below 4 = .ok (.lreturn, 1) := by decide +kernel
theorem dX8_barred_0 : decode cX8_barred 0 = .ok (.iconst 0, 1) := by decide +kernel
theorem dX8_barred_1 : decode cX8_barred 1 = .ok (.istore 6, 2) := by decide +kernel
theorem dX8_barred_3 : decode cX8_barred 3 = .ok (.iload 6, 2) := by decide +kernel
theorem dX8_barred_5 : decode cX8_barred 5 = .ok (.aload_n 0, 1) := by decide +kernel
theorem dX8_barred_6 : decode cX8_barred 6 = .ok (.getfield 58, 3) := by decide +kernel
theorem dX8_barred_9 : decode cX8_barred 9 = .ok (.if_icmp .ge 65, 3) := by decide +kernel
theorem dX8_barred_74 : decode cX8_barred 74 = .ok (.iconst 1, 1) := by decide +kernel
theorem dX8_barred_75 : decode cX8_barred 75 = .ok (.ireturn, 1) := by decide +kernel
set_option maxRecDepth 20000 in
theorem ggX8_bars_X8_isHeap : GoodIn wsX8_bars wsX8_isHeap := goodIn_r _ [5, 6, 34, 35, 36, 37, 38, 39, 40, 41, 42, 43, 44, 45, 46, 47, 48, 49, 50] (by decide +kernel) (by decide +kernel)
set_option maxRecDepth 20000 in
theorem gX8_bars_X8_isHeap : GoodIn wsX8_bars (wsV RX8 63 RX8 yX8_isHeap wsX8_isHeap) := goodIn_app (goodIn_of _ (by decide +kernel)) ggX8_bars_X8_isHeap
set_option maxRecDepth 20000 in
theorem ggX8_bars_X8_barred : GoodIn wsX8_bars wsX8_barred := goodIn_r _ [10, 6, 11, 12, 13, 4, 14, 15, 16, 17, 18, 19, 20, 21, 22, 23, 24, 25, 26, 27, 28, 29, 30, 31, 32, 33, 34, 35, 36, 37, 38, 39, 40, 41, 42, 43, 44, 45, 46, 47, 48, 49, 50] (by decide +kernel) (by decide +kernel)
set_option maxRecDepth 20000 in
theorem gX8_bars_X8_barred : GoodIn wsX8_bars (wsV RX8 131 RX8 yX8_barred wsX8_barred) := goodIn_app (goodIn_of _ (by decide +kernel)) ggX8_bars_X8_barred
theorem dX8_bars_0 : decode cX8_bars 0 = .ok (.aload_n 0, 1) := by decide +kernel
theorem dX8_bars_1 : decode cX8_bars 1 = .ok (.iload_n 1, 1) := by decide +kernel
theorem dX8_bars_2 : decode cX8_bars 2 = .ok (.invokevirtual 63, 3) := by decide +kernel
theorem dX8_bars_5 : decode cX8_bars 5 = .ok (.ifCond .eq 37, 3) := by decide +kernel
theorem dX8_bars_8 : decode cX8_bars 8 = .ok (.aload_n 0, 1) := by decide +kernel
theorem dX8_bars_9 : decode cX8_bars 9 = .ok (.iload_n 2, 1) := by decide +kernel
theorem dX8_bars_10 : decode cX8_bars 10 = .ok (.invokevirtual 63, 3) := by decide +kernel
theorem dX8_bars_13 : decode cX8_bars 13 = .ok (.ifCond .eq 29, 3) := by decide +kernel
theorem dX8_bars_16 : decode cX8_bars 16 = .ok (.aload_n 0, 1) := by decide +kernel
theorem dX8_bars_17 : decode cX8_bars 17 = .ok (.iload_n 3, 1) := by decide +kernel
theorem dX8_bars_18 : decode cX8_bars 18 = .ok (.invokevirtual 63, 3) := by decide +kernel
theorem dX8_bars_21 : decode cX8_bars 21 = .ok (.ifCond .eq 21, 3) := by decide +kernel
theorem dX8_bars_24 : decode cX8_bars 24 = .ok (.iload_n 1, 1) := by decide +kernel
theorem dX8_bars_25 : decode cX8_bars 25 = .ok (.iload_n 2, 1) := by decide +kernel
theorem dX8_bars_26 : decode cX8_bars 26 = .ok (.iand, 1) := by decide +kernel
theorem dX8_bars_27 : decode cX8_bars 27 = .ok (.ifCond .ne 15, 3) := by decide +kernel
theorem dX8_bars_30 : decode cX8_bars 30 = .ok (.iload_n 1, 1) := by decide +kernel
theorem dX8_bars_31 : decode cX8_bars 31 = .ok (.iload_n 3, 1) := by decide +kernel
theorem dX8_bars_32 : decode cX8_bars 32 = .ok (.iand, 1) := by decide +kernel
theorem dX8_bars_33 : decode cX8_bars 33 = .ok (.ifCond .ne 9, 3) := by decide +kernel
theorem dX8_bars_36 : decode cX8_bars 36 = .ok (.iload_n 2, 1) := by decide +kernel
theorem dX8_bars_37 : decode cX8_bars 37 = .ok (.iload_n 3, 1) := by decide +kernel
theorem dX8_bars_38 : decode cX8_bars 38 = .ok (.iand, 1) := by decide +kernel
theorem dX8_bars_39 : decode cX8_bars 39 = .ok (.ifCond .eq 5, 3) := by decide +kernel
theorem dX8_bars_42 : decode cX8_bars 42 = .ok (.iconst 0, 1) := by decide +kernel
theorem dX8_bars_43 : decode cX8_bars 43 = .ok (.ireturn, 1) := by decide +kernel
theorem dX8_bars_44 : decode cX8_bars 44 = .ok (.aload_n 0, 1) := by decide +kernel
theorem dX8_bars_45 : decode cX8_bars 45 = .ok (.iload_n 1, 1) := by decide +kernel
theorem dX8_bars_46 : decode cX8_bars 46 = .ok (.iload_n 2, 1) := by decide +kernel
theorem dX8_bars_47 : decode cX8_bars 47 = .ok (.iload_n 3, 1) := by decide +kernel
theorem dX8_bars_48 : decode cX8_bars 48 = .ok (.iconst 0, 1) := by decide +kernel
theorem dX8_bars_49 : decode cX8_bars 49 = .ok (.iconst 0, 1) := by decide +kernel
theorem dX8_bars_50 : decode cX8_bars 50 = .ok (.invokevirtual 131, 3) := by decide +kernel
theorem dX8_bars_53 : decode cX8_bars 53 = .ok (.ireturn, 1) := by decide +kernel
theorem dX8_seen_0 : decode cX8_seen 0 = .ok (.iconst 0, 1) := by decide +kernel
theorem dX8_seen_1 : decode cX8_seen 1 = .ok (.istore_n 1, 1) := by decide +kernel
theorem dX8_seen_2 : decode cX8_seen 2 = .ok (.iconst 0, 1) := by decide +kernel
theorem dX8_seen_3 : decode cX8_seen 3 = .ok (.istore_n 2, 1) := by decide +kernel
theorem dX8_seen_4 : decode cX8_seen 4 = .ok (.iload_n 2, 1) := by decide +kernel
theorem dX8_seen_5 : decode cX8_seen 5 = .ok (.aload_n 0, 1) := by decide +kernel
theorem dX8_seen_6 : decode cX8_seen 6 = .ok (.getfield 58, 3) := by decide +kernel
theorem dX8_seen_9 : decode cX8_seen 9 = .ok (.if_icmp .ge 28, 3) := by decide +kernel
theorem dX8_seen_37 : decode cX8_seen 37 = .ok (.iload_n 1, 1) := by decide +kernel
theorem dX8_seen_38 : decode cX8_seen 38 = .ok (.ireturn, 1) := by decide +kernel
set_option maxRecDepth 20000 in
theorem ggX8_works_X8_isThing : GoodIn wsX8_works wsX8_isThing := goodIn_r _ [6, 7, 40, 41, 42, 43, 44, 45, 46, 47, 48, 49, 50, 51, 52, 53, 54, 55, 56] (by decide +kernel) (by decide +kernel)
set_option maxRecDepth 20000 in
theorem gX8_works_X8_isThing : GoodIn wsX8_works (wsV RX8 71 RX8 yX8_isThing wsX8_isThing) := goodIn_app (goodIn_of _ (by decide +kernel)) ggX8_works_X8_isThing
theorem dX8_works_0 : decode cX8_works 0 = .ok (.aload_n 0, 1) := by decide +kernel
theorem dX8_works_1 : decode cX8_works 1 = .ok (.iload_n 1, 1) := by decide +kernel
theorem dX8_works_2 : decode cX8_works 2 = .ok (.invokevirtual 71, 3) := by decide +kernel
theorem dX8_works_5 : decode cX8_works 5 = .ok (.ifCond .eq 16, 3) := by decide +kernel
theorem dX8_works_21 : decode cX8_works 21 = .ok (.iconst 0, 1) := by decide +kernel
theorem dX8_works_22 : decode cX8_works 22 = .ok (.ireturn, 1) := by decide +kernel
set_option maxRecDepth 20000 in
theorem ggX8_least_X8_works : GoodIn wsX8_least wsX8_works := goodIn_r _ [5, 6, 7, 8, 9, 4, 10, 11, 12, 13, 14, 15, 16, 17, 18, 19, 20, 21, 22, 23, 24, 25, 26, 27, 28, 29, 30, 31, 32, 33, 34, 35, 36, 37, 38, 39, 40, 41, 42, 43, 48, 49, 50, 51, 52, 53, 54, 55, 56, 57, 58, 59, 60, 61, 62, 63, 64] (by decide +kernel) (by decide +kernel)
set_option maxRecDepth 20000 in
theorem gX8_least_X8_works : GoodIn wsX8_least (wsV RX8 138 RX8 yX8_works wsX8_works) := goodIn_app (goodIn_of _ (by decide +kernel)) ggX8_least_X8_works
theorem dX8_least_0 : decode cX8_least 0 = .ok (.aload_n 0, 1) := by decide +kernel
theorem dX8_least_1 : decode cX8_least 1 = .ok (.iload_n 1, 1) := by decide +kernel
theorem dX8_least_2 : decode cX8_least 2 = .ok (.iload_n 2, 1) := by decide +kernel
theorem dX8_least_3 : decode cX8_least 3 = .ok (.invokevirtual 138, 3) := by decide +kernel
theorem dX8_least_6 : decode cX8_least 6 = .ok (.ifCond .ne 5, 3) := by decide +kernel
theorem dX8_least_9 : decode cX8_least 9 = .ok (.iconst (-1), 1) := by decide +kernel
theorem dX8_least_10 : decode cX8_least 10 = .ok (.ireturn, 1) := by decide +kernel
set_option maxRecDepth 20000 in
theorem ggX8_leastAt_X8_works : GoodIn wsX8_leastAt wsX8_works := goodIn_r _ [5, 6, 7, 8, 9, 4, 10, 11, 12, 13, 14, 15, 16, 17, 18, 19, 20, 21, 22, 23, 24, 25, 26, 27, 28, 29, 30, 31, 32, 33, 34, 35, 36, 37, 38, 39, 40, 41, 42, 43, 48, 49, 50, 51, 52, 53, 54, 55, 56, 57, 58, 59, 60, 61, 62, 63, 64] (by decide +kernel) (by decide +kernel)
set_option maxRecDepth 20000 in
theorem gX8_leastAt_X8_works : GoodIn wsX8_leastAt (wsV RX8 138 RX8 yX8_works wsX8_works) := goodIn_app (goodIn_of _ (by decide +kernel)) ggX8_leastAt_X8_works
theorem dX8_leastAt_0 : decode cX8_leastAt 0 = .ok (.iload_n 3, 1) := by decide +kernel
theorem dX8_leastAt_1 : decode cX8_leastAt 1 = .ok (.ifCond .lt 12, 3) := by decide +kernel
theorem dX8_leastAt_4 : decode cX8_leastAt 4 = .ok (.aload_n 0, 1) := by decide +kernel
theorem dX8_leastAt_5 : decode cX8_leastAt 5 = .ok (.iload_n 1, 1) := by decide +kernel
theorem dX8_leastAt_6 : decode cX8_leastAt 6 = .ok (.iload_n 2, 1) := by decide +kernel
theorem dX8_leastAt_7 : decode cX8_leastAt 7 = .ok (.invokevirtual 138, 3) := by decide +kernel
theorem dX8_leastAt_10 : decode cX8_leastAt 10 = .ok (.ifCond .ne 5, 3) := by decide +kernel
theorem dX8_leastAt_13 : decode cX8_leastAt 13 = .ok (.iconst (-1), 1) := by decide +kernel
theorem dX8_leastAt_14 : decode cX8_leastAt 14 = .ok (.ireturn, 1) := by decide +kernel
set_option maxRecDepth 20000 in
theorem ggX8_fit_X8_isThing : GoodIn wsX8_fit wsX8_isThing := goodIn_r _ [6, 1, 47, 48, 49, 50, 51, 52, 53, 54, 55, 56, 57, 58, 59, 60, 61, 62, 63] (by decide +kernel) (by decide +kernel)
set_option maxRecDepth 20000 in
theorem gX8_fit_X8_isThing : GoodIn wsX8_fit (wsV RX8 71 RX8 yX8_isThing wsX8_isThing) := goodIn_app (goodIn_of _ (by decide +kernel)) ggX8_fit_X8_isThing
theorem dX8_fit_0 : decode cX8_fit 0 = .ok (.aload_n 0, 1) := by decide +kernel
theorem dX8_fit_1 : decode cX8_fit 1 = .ok (.iload_n 1, 1) := by decide +kernel
theorem dX8_fit_2 : decode cX8_fit 2 = .ok (.invokevirtual 71, 3) := by decide +kernel
theorem dX8_fit_5 : decode cX8_fit 5 = .ok (.ifCond .eq 53, 3) := by decide +kernel
theorem dX8_fit_58 : decode cX8_fit 58 = .ok (.iconst 0, 1) := by decide +kernel
theorem dX8_fit_59 : decode cX8_fit 59 = .ok (.ireturn, 1) := by decide +kernel
set_option maxRecDepth 20000 in
theorem ggX8_agrees_X8_isThing : GoodIn wsX8_agrees wsX8_isThing := goodIn_r _ [10, 11, 46, 47, 48, 49, 50, 51, 52, 53, 54, 55, 56, 57, 58, 59, 60, 61, 62] (by decide +kernel) (by decide +kernel)
set_option maxRecDepth 20000 in
theorem gX8_agrees_X8_isThing : GoodIn wsX8_agrees (wsV RX8 71 RX8 yX8_isThing wsX8_isThing) := goodIn_app (goodIn_of _ (by decide +kernel)) ggX8_agrees_X8_isThing
theorem dX8_agrees_0 : decode cX8_agrees 0 = .ok (.aload_n 0, 1) := by decide +kernel
theorem dX8_agrees_1 : decode cX8_agrees 1 = .ok (.iload_n 1, 1) := by decide +kernel
theorem dX8_agrees_2 : decode cX8_agrees 2 = .ok (.invokevirtual 71, 3) := by decide +kernel
theorem dX8_agrees_5 : decode cX8_agrees 5 = .ok (.ifCond .eq 64, 3) := by decide +kernel
theorem dX8_agrees_69 : decode cX8_agrees 69 = .ok (.iconst (-1), 1) := by decide +kernel
theorem dX8_agrees_70 : decode cX8_agrees 70 = .ok (.ireturn, 1) := by decide +kernel
theorem dX8_drawings_0 : decode cX8_drawings 0 = .ok (.iconst 0, 1) := by decide +kernel
theorem dX8_drawings_1 : decode cX8_drawings 1 = .ok (.istore_n 1, 1) := by decide +kernel
theorem dX8_drawings_2 : decode cX8_drawings 2 = .ok (.iload_n 1, 1) := by decide +kernel
theorem dX8_drawings_3 : decode cX8_drawings 3 = .ok (.aload_n 0, 1) := by decide +kernel
theorem dX8_drawings_4 : decode cX8_drawings 4 = .ok (.getfield 58, 3) := by decide +kernel
theorem dX8_drawings_7 : decode cX8_drawings 7 = .ok (.if_icmp .ge 62, 3) := by decide +kernel
theorem dX8_drawings_69 : decode cX8_drawings 69 = .ok (.iconst 0, 1) := by decide +kernel
theorem dX8_drawings_70 : decode cX8_drawings 70 = .ok (.istore_n 1, 1) := by decide +kernel
theorem dX8_drawings_71 : decode cX8_drawings 71 = .ok (.iload_n 1, 1) := by decide +kernel
theorem dX8_drawings_72 : decode cX8_drawings 72 = .ok (.bipush 64, 2) := by decide +kernel
theorem dX8_drawings_74 : decode cX8_drawings 74 = .ok (.if_icmp .ge 16, 3) := by decide +kernel
theorem dX8_drawings_77 : decode cX8_drawings 77 = .ok (.aload_n 0, 1) := by decide +kernel
theorem dX8_drawings_78 : decode cX8_drawings 78 = .ok (.getfield 52, 3) := by decide +kernel
theorem dX8_drawings_81 : decode cX8_drawings 81 = .ok (.iload_n 1, 1) := by decide +kernel
theorem dX8_drawings_82 : decode cX8_drawings 82 = .ok (.iconst 1, 1) := by decide +kernel
theorem dX8_drawings_83 : decode cX8_drawings 83 = .ok (.bastore, 1) := by decide +kernel
theorem dX8_drawings_84 : decode cX8_drawings 84 = .ok (.iinc 1 1, 3) := by decide +kernel
theorem dX8_drawings_87 : decode cX8_drawings 87 = .ok (.goto (-16), 3) := by decide +kernel
theorem dX8_drawings_90 : decode cX8_drawings 90 = .ok (.iconst 0, 1) := by decide +kernel
theorem dX8_drawings_91 : decode cX8_drawings 91 = .ok (.istore_n 1, 1) := by decide +kernel
theorem dX8_drawings_92 : decode cX8_drawings 92 = .ok (.iconst 0, 1) := by decide +kernel
theorem dX8_drawings_93 : decode cX8_drawings 93 = .ok (.istore_n 2, 1) := by decide +kernel
theorem dX8_drawings_94 : decode cX8_drawings 94 = .ok (.iconst 0, 1) := by decide +kernel
theorem dX8_drawings_95 : decode cX8_drawings 95 = .ok (.istore_n 3, 1) := by decide +kernel
theorem dX8_drawings_96 : decode cX8_drawings 96 = .ok (.aload_n 0, 1) := by decide +kernel
theorem dX8_drawings_97 : decode cX8_drawings 97 = .ok (.getfield 46, 3) := by decide +kernel
theorem dX8_drawings_100 : decode cX8_drawings 100 = .ok (.iconst 0, 1) := by decide +kernel
theorem dX8_drawings_101 : decode cX8_drawings 101 = .ok (.iconst 0, 1) := by decide +kernel
theorem dX8_drawings_102 : decode cX8_drawings 102 = .ok (.iastore, 1) := by decide +kernel
theorem dX8_drawings_103 : decode cX8_drawings 103 = .ok (.iload_n 2, 1) := by decide +kernel
theorem dX8_drawings_104 : decode cX8_drawings 104 = .ok (.ifCond .lt 247, 3) := by decide +kernel
theorem dX8_drawings_107 : decode cX8_drawings 107 = .ok (.iload_n 2, 1) := by decide +kernel
theorem dX8_drawings_108 : decode cX8_drawings 108 = .ok (.aload_n 0, 1) := by decide +kernel
theorem dX8_drawings_109 : decode cX8_drawings 109 = .ok (.getfield 58, 3) := by decide +kernel
theorem dX8_drawings_112 : decode cX8_drawings 112 = .ok (.if_icmp .ne 92, 3) := by decide +kernel
theorem dX8_drawings_115 : decode cX8_drawings 115 = .ok (.iinc 1 1, 3) := by decide +kernel
theorem dX8_drawings_118 : decode cX8_drawings 118 = .ok (.iconst 0, 1) := by decide +kernel
theorem dX8_drawings_119 : decode cX8_drawings 119 = .ok (.istore 4, 2) := by decide +kernel
theorem dX8_drawings_121 : decode cX8_drawings 121 = .ok (.iload 4, 2) := by decide +kernel
theorem dX8_drawings_123 : decode cX8_drawings 123 = .ok (.aload_n 0, 1) := by decide +kernel
theorem dX8_drawings_124 : decode cX8_drawings 124 = .ok (.getfield 58, 3) := by decide +kernel
theorem dX8_drawings_127 : decode cX8_drawings 127 = .ok (.if_icmp .ge 77, 3) := by decide +kernel
theorem dX8_drawings_204 : decode cX8_drawings 204 = .ok (.iload_n 2, 1) := by decide +kernel
theorem dX8_drawings_205 : decode cX8_drawings 205 = .ok (.aload_n 0, 1) := by decide +kernel
theorem dX8_drawings_206 : decode cX8_drawings 206 = .ok (.getfield 58, 3) := by decide +kernel
theorem dX8_drawings_209 : decode cX8_drawings 209 = .ok (.if_icmp .ne 10, 3) := by decide +kernel
theorem dX8_drawings_212 : decode cX8_drawings 212 = .ok (.aload_n 0, 1) := by decide +kernel
theorem dX8_drawings_213 : decode cX8_drawings 213 = .ok (.getfield 58, 3) := by decide +kernel
theorem dX8_drawings_216 : decode cX8_drawings 216 = .ok (.goto 9, 3) := by decide +kernel
theorem dX8_drawings_225 : decode cX8_drawings 225 = .ok (.istore 4, 2) := by decide +kernel
theorem dX8_drawings_227 : decode cX8_drawings 227 = .ok (.iload 4, 2) := by decide +kernel
theorem dX8_drawings_229 : decode cX8_drawings 229 = .ok (.aload_n 0, 1) := by decide +kernel
theorem dX8_drawings_230 : decode cX8_drawings 230 = .ok (.getfield 58, 3) := by decide +kernel
theorem dX8_drawings_233 : decode cX8_drawings 233 = .ok (.if_icmp .ne 26, 3) := by decide +kernel
theorem dX8_drawings_236 : decode cX8_drawings 236 = .ok (.iinc 2 (-1), 3) := by decide +kernel
theorem dX8_drawings_239 : decode cX8_drawings 239 = .ok (.iload_n 2, 1) := by decide +kernel
theorem dX8_drawings_240 : decode cX8_drawings 240 = .ok (.ifCond .lt (-137), 3) := by decide +kernel
theorem dX8_drawings_351 : decode cX8_drawings 351 = .ok (.iload_n 1, 1) := by decide +kernel
theorem dX8_drawings_352 : decode cX8_drawings 352 = .ok (.ireturn, 1) := by decide +kernel
set_option maxRecDepth 20000 in
theorem ggX8_alike_X8_drawings : GoodIn wsX8_alike wsX8_drawings := goodIn_r _ [5, 6, 7, 8, 9, 10, 11, 12, 13, 14, 15, 4, 16, 17, 18, 19, 20, 21, 22, 23, 24, 25, 26, 27, 28, 29, 30, 31, 32, 33, 34, 35, 36, 37, 38, 39, 40, 41, 42, 43, 44, 45] (by decide +kernel) (by decide +kernel)
set_option maxRecDepth 20000 in
theorem gX8_alike_X8_drawings : GoodIn wsX8_alike (wsV RX8 167 RX8 yX8_drawings wsX8_drawings) := goodIn_app (goodIn_of _ (by decide +kernel)) ggX8_alike_X8_drawings
theorem dX8_alike_0 : decode cX8_alike 0 = .ok (.aload_n 0, 1) := by decide +kernel
theorem dX8_alike_1 : decode cX8_alike 1 = .ok (.invokevirtual 167, 3) := by decide +kernel
theorem dX8_alike_4 : decode cX8_alike 4 = .ok (.ireturn, 1) := by decide +kernel
set_option maxRecDepth 20000 in
theorem ggX8_fixed_X8_has : GoodIn wsX8_fixed wsX8_has := goodIn_r _ [6, 7, 8, 9, 10, 5, 11, 12, 29, 30, 31, 32, 33, 34, 35, 36, 37, 38, 39, 40, 41, 42, 43, 44, 45] (by decide +kernel) (by decide +kernel)
set_option maxRecDepth 20000 in
theorem gX8_fixed_X8_has : GoodIn wsX8_fixed (wsV RX8 78 RX8 yX8_has wsX8_has) := goodIn_app (goodIn_of _ (by decide +kernel)) ggX8_fixed_X8_has
theorem dX8_fixed_0 : decode cX8_fixed 0 = .ok (.aload_n 0, 1) := by decide +kernel
theorem dX8_fixed_1 : decode cX8_fixed 1 = .ok (.iload_n 1, 1) := by decide +kernel
theorem dX8_fixed_2 : decode cX8_fixed 2 = .ok (.iload_n 2, 1) := by decide +kernel
theorem dX8_fixed_3 : decode cX8_fixed 3 = .ok (.invokevirtual 78, 3) := by decide +kernel
theorem dX8_fixed_6 : decode cX8_fixed 6 = .ok (.ifCond .ne 5, 3) := by decide +kernel
theorem dX8_fixed_9 : decode cX8_fixed 9 = .ok (.iconst 0, 1) := by decide +kernel
theorem dX8_fixed_10 : decode cX8_fixed 10 = .ok (.ireturn, 1) := by decide +kernel
set_option maxRecDepth 20000 in
theorem ggX8_otherwise_X8_isThing : GoodIn wsX8_otherwise wsX8_isThing := goodIn_r _ [8, 2, 32, 33, 34, 35, 36, 37, 38, 39, 40, 41, 42, 43, 44, 45, 46, 47, 48] (by decide +kernel) (by decide +kernel)
set_option maxRecDepth 20000 in
theorem gX8_otherwise_X8_isThing : GoodIn wsX8_otherwise (wsV RX8 71 RX8 yX8_isThing wsX8_isThing) := goodIn_app (goodIn_of _ (by decide +kernel)) ggX8_otherwise_X8_isThing
theorem dX8_otherwise_0 : decode cX8_otherwise 0 = .ok (.aload_n 0, 1) := by decide +kernel
theorem dX8_otherwise_1 : decode cX8_otherwise 1 = .ok (.iload_n 1, 1) := by decide +kernel
theorem dX8_otherwise_2 : decode cX8_otherwise 2 = .ok (.invokevirtual 71, 3) := by decide +kernel
theorem dX8_otherwise_5 : decode cX8_otherwise 5 = .ok (.ifCond .eq 25, 3) := by decide +kernel
theorem dX8_otherwise_30 : decode cX8_otherwise 30 = .ok (.ldc2_w 108, 3) := by decide +kernel
theorem dX8_otherwise_33 : decode cX8_otherwise 33 = .ok (.lreturn, 1) := by decide +kernel
set_option maxRecDepth 20000 in
theorem ggX8_draw_X8_isSetting : GoodIn wsX8_draw wsX8_isSetting := goodIn_r _ [8, 9, 10, 11, 12, 7, 13, 1, 19, 20, 21, 22, 23, 24, 25, 26, 27, 28, 29, 30, 31, 32, 33, 34, 35] (by decide +kernel) (by decide +kernel)
set_option maxRecDepth 20000 in
theorem gX8_draw_X8_isSetting : GoodIn wsX8_draw (wsV RX8 102 RX8 yX8_isSetting wsX8_isSetting) := goodIn_app (goodIn_of _ (by decide +kernel)) ggX8_draw_X8_isSetting
theorem dX8_draw_0 : decode cX8_draw 0 = .ok (.aload_n 0, 1) := by decide +kernel
theorem dX8_draw_1 : decode cX8_draw 1 = .ok (.iload_n 2, 1) := by decide +kernel
theorem dX8_draw_2 : decode cX8_draw 2 = .ok (.invokevirtual 102, 3) := by decide +kernel
theorem dX8_draw_5 : decode cX8_draw 5 = .ok (.ifCond .ne 5, 3) := by decide +kernel
theorem dX8_draw_8 : decode cX8_draw 8 = .ok (.iconst (-1), 1) := by decide +kernel
theorem dX8_draw_9 : decode cX8_draw 9 = .ok (.ireturn, 1) := by decide +kernel
theorem dX8_draw_10 : decode cX8_draw 10 = .ok (.iload_n 1, 1) := by decide +kernel
theorem dX8_draw_11 : decode cX8_draw 11 = .ok (.istore_n 3, 1) := by decide +kernel
theorem dX8_draw_12 : decode cX8_draw 12 = .ok (.iconst 0, 1) := by decide +kernel
theorem dX8_draw_13 : decode cX8_draw 13 = .ok (.istore 4, 2) := by decide +kernel
theorem dX8_draw_15 : decode cX8_draw 15 = .ok (.iconst 0, 1) := by decide +kernel
theorem dX8_draw_16 : decode cX8_draw 16 = .ok (.istore 5, 2) := by decide +kernel
theorem dX8_draw_18 : decode cX8_draw 18 = .ok (.iconst 0, 1) := by decide +kernel
theorem dX8_draw_19 : decode cX8_draw 19 = .ok (.istore 6, 2) := by decide +kernel
theorem dX8_draw_21 : decode cX8_draw 21 = .ok (.iload 6, 2) := by decide +kernel
theorem dX8_draw_23 : decode cX8_draw 23 = .ok (.aload_n 0, 1) := by decide +kernel
theorem dX8_draw_24 : decode cX8_draw 24 = .ok (.getfield 58, 3) := by decide +kernel
theorem dX8_draw_27 : decode cX8_draw 27 = .ok (.if_icmp .ge 135, 3) := by decide +kernel
theorem dX8_draw_162 : decode cX8_draw 162 = .ok (.iload 5, 2) := by decide +kernel
theorem dX8_draw_164 : decode cX8_draw 164 = .ok (.ireturn, 1) := by decide +kernel
set_option maxRecDepth 20000 in
theorem ggX8_count_X8_seen : GoodIn wsX8_count wsX8_seen := goodIn_r _ [10, 1, 11, 12, 13, 14, 15, 16, 17, 18, 19, 20, 21, 22, 23, 24, 25, 26, 27, 28] (by decide +kernel) (by decide +kernel)
set_option maxRecDepth 20000 in
theorem gX8_count_X8_seen : GoodIn wsX8_count (wsV RX8 134 RX8 yX8_seen wsX8_seen) := goodIn_app (goodIn_of _ (by decide +kernel)) ggX8_count_X8_seen
theorem dX8_count_0 : decode cX8_count 0 = .ok (.iconst 0, 1) := by decide +kernel
theorem dX8_count_1 : decode cX8_count 1 = .ok (.istore_n 2, 1) := by decide +kernel
theorem dX8_count_2 : decode cX8_count 2 = .ok (.iload_n 1, 1) := by decide +kernel
theorem dX8_count_3 : decode cX8_count 3 = .ok (.tableswitch 65 0 2 #[25, 30, 60], 25) := by decide +kernel
theorem dX8_count_28 : decode cX8_count 28 = .ok (.aload_n 0, 1) := by decide +kernel
theorem dX8_count_29 : decode cX8_count 29 = .ok (.getfield 58, 3) := by decide +kernel
theorem dX8_count_32 : decode cX8_count 32 = .ok (.ireturn, 1) := by decide +kernel
theorem dX8_count_33 : decode cX8_count 33 = .ok (.iconst 0, 1) := by decide +kernel
theorem dX8_count_34 : decode cX8_count 34 = .ok (.istore_n 3, 1) := by decide +kernel
theorem dX8_count_35 : decode cX8_count 35 = .ok (.iload_n 3, 1) := by decide +kernel
theorem dX8_count_36 : decode cX8_count 36 = .ok (.aload_n 0, 1) := by decide +kernel
theorem dX8_count_37 : decode cX8_count 37 = .ok (.getfield 58, 3) := by decide +kernel
theorem dX8_count_40 : decode cX8_count 40 = .ok (.if_icmp .ge 21, 3) := by decide +kernel
theorem dX8_count_61 : decode cX8_count 61 = .ok (.iload_n 2, 1) := by decide +kernel
theorem dX8_count_62 : decode cX8_count 62 = .ok (.ireturn, 1) := by decide +kernel
theorem dX8_count_63 : decode cX8_count 63 = .ok (.aload_n 0, 1) := by decide +kernel
theorem dX8_count_64 : decode cX8_count 64 = .ok (.invokevirtual 134, 3) := by decide +kernel
theorem dX8_count_67 : decode cX8_count 67 = .ok (.ireturn, 1) := by decide +kernel
theorem dX8_count_68 : decode cX8_count 68 = .ok (.iconst (-1), 1) := by decide +kernel
theorem dX8_count_69 : decode cX8_count 69 = .ok (.ireturn, 1) := by decide +kernel
theorem dJ6_bitCount_0f7a4_0 : decode cJ6_bitCount_0f7a4 0 = .ok (.iload_n 0, 1) := by decide +kernel
theorem dJ6_bitCount_0f7a4_1 : decode cJ6_bitCount_0f7a4 1 = .ok (.iload_n 0, 1) := by decide +kernel
theorem dJ6_bitCount_0f7a4_2 : decode cJ6_bitCount_0f7a4 2 = .ok (.iconst 1, 1) := by decide +kernel
theorem dJ6_bitCount_0f7a4_3 : decode cJ6_bitCount_0f7a4 3 = .ok (.iushr, 1) := by decide +kernel
theorem dJ6_bitCount_0f7a4_4 : decode cJ6_bitCount_0f7a4 4 = .ok (.ldc_w 265, 3) := by decide +kernel
theorem dJ6_bitCount_0f7a4_7 : decode cJ6_bitCount_0f7a4 7 = .ok (.iand, 1) := by decide +kernel
theorem dJ6_bitCount_0f7a4_8 : decode cJ6_bitCount_0f7a4 8 = .ok (.isub, 1) := by decide +kernel
theorem dJ6_bitCount_0f7a4_9 : decode cJ6_bitCount_0f7a4 9 = .ok (.istore_n 0, 1) := by decide +kernel
theorem dJ6_bitCount_0f7a4_10 : decode cJ6_bitCount_0f7a4 10 = .ok (.iload_n 0, 1) := by decide +kernel
theorem dJ6_bitCount_0f7a4_11 : decode cJ6_bitCount_0f7a4 11 = .ok (.ldc_w 266, 3) := by decide +kernel
theorem dJ6_bitCount_0f7a4_14 : decode cJ6_bitCount_0f7a4 14 = .ok (.iand, 1) := by decide +kernel
theorem dJ6_bitCount_0f7a4_15 : decode cJ6_bitCount_0f7a4 15 = .ok (.iload_n 0, 1) := by decide +kernel
theorem dJ6_bitCount_0f7a4_16 : decode cJ6_bitCount_0f7a4 16 = .ok (.iconst 2, 1) := by decide +kernel
theorem dJ6_bitCount_0f7a4_17 : decode cJ6_bitCount_0f7a4 17 = .ok (.iushr, 1) := by decide +kernel
theorem dJ6_bitCount_0f7a4_18 : decode cJ6_bitCount_0f7a4 18 = .ok (.ldc_w 266, 3) := by decide +kernel
theorem dJ6_bitCount_0f7a4_21 : decode cJ6_bitCount_0f7a4 21 = .ok (.iand, 1) := by decide +kernel
theorem dJ6_bitCount_0f7a4_22 : decode cJ6_bitCount_0f7a4 22 = .ok (.iadd, 1) := by decide +kernel
theorem dJ6_bitCount_0f7a4_23 : decode cJ6_bitCount_0f7a4 23 = .ok (.istore_n 0, 1) := by decide +kernel
theorem dJ6_bitCount_0f7a4_24 : decode cJ6_bitCount_0f7a4 24 = .ok (.iload_n 0, 1) := by decide +kernel
theorem dJ6_bitCount_0f7a4_25 : decode cJ6_bitCount_0f7a4 25 = .ok (.iload_n 0, 1) := by decide +kernel
theorem dJ6_bitCount_0f7a4_26 : decode cJ6_bitCount_0f7a4 26 = .ok (.iconst 4, 1) := by decide +kernel
theorem dJ6_bitCount_0f7a4_27 : decode cJ6_bitCount_0f7a4 27 = .ok (.iushr, 1) := by decide +kernel
theorem dJ6_bitCount_0f7a4_28 : decode cJ6_bitCount_0f7a4 28 = .ok (.iadd, 1) := by decide +kernel
theorem dJ6_bitCount_0f7a4_29 : decode cJ6_bitCount_0f7a4 29 = .ok (.ldc_w 267, 3) := by decide +kernel
theorem dJ6_bitCount_0f7a4_32 : decode cJ6_bitCount_0f7a4 32 = .ok (.iand, 1) := by decide +kernel
theorem dJ6_bitCount_0f7a4_33 : decode cJ6_bitCount_0f7a4 33 = .ok (.istore_n 0, 1) := by decide +kernel
theorem dJ6_bitCount_0f7a4_34 : decode cJ6_bitCount_0f7a4 34 = .ok (.iload_n 0, 1) := by decide +kernel
theorem dJ6_bitCount_0f7a4_35 : decode cJ6_bitCount_0f7a4 35 = .ok (.iload_n 0, 1) := by decide +kernel
theorem dJ6_bitCount_0f7a4_36 : decode cJ6_bitCount_0f7a4 36 = .ok (.bipush 8, 2) := by decide +kernel
theorem dJ6_bitCount_0f7a4_38 : decode cJ6_bitCount_0f7a4 38 = .ok (.iushr, 1) := by decide +kernel
theorem dJ6_bitCount_0f7a4_39 : decode cJ6_bitCount_0f7a4 39 = .ok (.iadd, 1) := by decide +kernel
theorem dJ6_bitCount_0f7a4_40 : decode cJ6_bitCount_0f7a4 40 = .ok (.istore_n 0, 1) := by decide +kernel
theorem dJ6_bitCount_0f7a4_41 : decode cJ6_bitCount_0f7a4 41 = .ok (.iload_n 0, 1) := by decide +kernel
theorem dJ6_bitCount_0f7a4_42 : decode cJ6_bitCount_0f7a4 42 = .ok (.iload_n 0, 1) := by decide +kernel
theorem dJ6_bitCount_0f7a4_43 : decode cJ6_bitCount_0f7a4 43 = .ok (.bipush 16, 2) := by decide +kernel
theorem dJ6_bitCount_0f7a4_45 : decode cJ6_bitCount_0f7a4 45 = .ok (.iushr, 1) := by decide +kernel
theorem dJ6_bitCount_0f7a4_46 : decode cJ6_bitCount_0f7a4 46 = .ok (.iadd, 1) := by decide +kernel
theorem dJ6_bitCount_0f7a4_47 : decode cJ6_bitCount_0f7a4 47 = .ok (.istore_n 0, 1) := by decide +kernel
theorem dJ6_bitCount_0f7a4_48 : decode cJ6_bitCount_0f7a4 48 = .ok (.iload_n 0, 1) := by decide +kernel
theorem dJ6_bitCount_0f7a4_49 : decode cJ6_bitCount_0f7a4 49 = .ok (.bipush 63, 2) := by decide +kernel
theorem dJ6_bitCount_0f7a4_51 : decode cJ6_bitCount_0f7a4 51 = .ok (.iand, 1) := by decide +kernel
theorem dJ6_bitCount_0f7a4_52 : decode cJ6_bitCount_0f7a4 52 = .ok (.ireturn, 1) := by decide +kernel
end
section
/-! the constructors -/
set_option maxHeartbeats 1000000 in
set_option maxRecDepth 100000 in
theorem mz_Big_init (l : Launch) (dC : Nat → ClassId) (dI : Nat → Nat → Nat) (cI cJ cZ : ClassId) (h0 : Nat) (sz : Nat)  : Met l yX0_init wsX0_init ({ frames := 1, cells := 1, slots := 128, locals := 12 }) (va_Pc [.ref h0] (fun U => U.heap.size = sz ∧ va_P (dC, dI) vwCl [(h0, .inr (0, [.null, .int 0]))] U.heap ∧ va_K (dC, dI) vwCl [(cI, FieldType.int), (cJ, FieldType.long), (cZ, FieldType.boolean)] U ∧ va_D (fun _ => True) [(h0, .inr (0, [.null, .int 0]))] ∧ mz_N U)) (va_Qv (fun (_ : Unit) => True) (fun _ t => ∃ (a0 : Nat), va_P (dC, dI) vwCl [(h0, .inr (0, [.ref a0, .int 0])), (a0, .inl (cJ, 128, .inr (.inl (fun _ => 0))))] t.heap ∧ va_D (va_A [(h0, .inr (0, [.null, .int 0]))] sz) [(h0, .inr (0, [.ref a0, .int 0])), (a0, .inl (cJ, 128, .inr (.inl (fun _ => 0))))]) (va_A [(h0, .inr (0, [.null, .int 0]))] sz)) 1 128 (va_A [(h0, .inr (0, [.null, .int 0]))] sz) := by
  refine Met.ofW (cc := cX0_init) (maxL := 1) (ret := none) (by decide) rfl ?_
  intro p e s m args below meth c s₁ B hml hv
  obtain ⟨rfl, hsz, hP, hK, hD0, hN⟩ := hv
  subst hsz
  have hx := B.exec
  have hb := B.bytes
  have hr := B.returns
  have hts := atoms_spec (ws := wsX0_init) B.pre
  have hown : s.vm.findClass RX0 = some m.cls := findClass_of_methodNamed B.named
  have hlocks := B.notSynchronized
  have hin : meth.name = "<init>" := (name_of_methodNamed B.named B.method).1
  have hD := hD0.self (sz := s.heap.size)
  generalize hAe : va_A [(h0, .inr (0, [.null, .int 0]))] s.heap.size = A at hD ⊢
  have hA : ∀ q : Nat, s.heap.size ≤ q → A q := fun q h => by rw [← hAe]; exact Or.inr h
  have hS : va_S A s.heap s.heap [] := va_S.rf
  have hiX0 : ∀ w ∈ u_ws RX0 TX0 2, w ∈ wsX0_init := by decide +kernel
  have hl := lv_entry ([.ref h0]) (n := 1) (Nat.le_of_ble_eq_true rfl)
  rw [lg_entry_eq]
  generalize (lg_sl ([.ref h0]) ++ List.replicate (1 - (lg_sl ([.ref h0])).length) Slot.unset).toArray = ls at hl ⊢
  have hl : lv_has ls 1 [(0, .ref h0)] := hl
  refine lv_aload_n hx hb dX0_init_0 rfl (lv_at hl 0 rfl) ?_
  refine W.objInit hx hb hown (hts (.methodLink RX0 3 objectInit) (by decide +kernel)) (hts (.instanceMethod objectInit) (by decide +kernel)) (hts (.code objectInit ⟨#[0xb1]⟩ 1 none) (by decide +kernel)) rfl (by rw [hml]; exact hl.1) rfl dX0_init_1 (Nat.le_of_ble_eq_true rfl) (Nat.le_of_ble_eq_true rfl) ?_
  refine W.eq (g2 := F0 m 4 ls []) rfl ?_
  refine lv_aload_n hx hb dX0_init_4 rfl (lv_at hl 0 rfl) ?_
  refine lv_sipush (v := 128) hx hb dX0_init_5 (by decide +kernel) ?_
  refine mz_newa 1 (atype := .long) (N' := 128) (hprim := fun _ _ h h2 => Option.some.inj (h.symm.trans h2)) hx hb (hts (.arrayClass .long) (by decide +kernel)) (ty := .long) rfl hK hP hD hS hA rfl (a0 := (128, .inr (.inl (fun _ => 0)))) (fun _ => rfl) (by decide +kernel) (by decide +kernel) (by decide +kernel) (Nat.le_of_ble_eq_true rfl) (Nat.le_of_ble_eq_true rfl) dX0_init_8 (fun q1 H hP hD hS => ?_)
  refine W.widen (k := 1) (n := 128) (Nat.le_of_ble_eq_true rfl) (Nat.le_of_ble_eq_true rfl) ?_
  have hP : va_P (dC, dI) vwCl [(h0, .inr (0, [.null, .int 0])), (q1, .inl (cJ, 128, .inr (.inl (fun _ => 0))))] H := hP
  have hD : va_D A [(h0, .inr (0, [.null, .int 0])), (q1, .inl (cJ, 128, .inr (.inl (fun _ => 0))))] := hD
  refine va_putF (D := (dC, dI)) (ci := 0) (v := .ref q1) (ty := .array .long) (C := RX0) (T := TX0) (N := 2) hx hb hts hiX0 tyX0 tyX0_ok nmX0 hown hK hP hD hS 0 rfl rfl 0 (by decide) (hts (.fieldLink RX0 9 "MadeItSo$Big" "limbs" "[J") (by decide +kernel)) (fun _ h9 => h9) rfl hin rfl (by decide +kernel) rfl rfl (Nat.le_of_ble_eq_true rfl) dX0_init_10 (fun H locs hP hD hS => ?_)
  have hP : va_P (dC, dI) vwCl [(h0, .inr (0, [.ref q1, .int 0])), (q1, .inl (cJ, 128, .inr (.inl (fun _ => 0))))] H := hP
  have hD : va_D A [(h0, .inr (0, [.ref q1, .int 0])), (q1, .inl (cJ, 128, .inr (.inl (fun _ => 0))))] := hD
  refine lv_aload_n hx hb dX0_init_13 rfl (lv_at hl 0 rfl) ?_
  refine lv_iconst (v := 0) hx hb dX0_init_14 (by decide +kernel) ?_
  refine va_put (D := (dC, dI)) (ci := 0) (v := .int 0) (ty := .int) (C := RX0) (T := TX0) (N := 2) hx hb hts hiX0 tyX0 tyX0_ok nmX0 hown hK hP hD hS 0 rfl rfl 1 (by decide) (hts (.fieldLink RX0 13 "MadeItSo$Big" "used" "I") (by decide +kernel)) (fun _ h9 => h9) rfl (by decide +kernel) rfl rfl (Nat.le_of_ble_eq_true rfl) dX0_init_15 (fun H locs hP hD hS => ?_)
  have hP : va_P (dC, dI) vwCl [(h0, .inr (0, [.ref q1, .int 0])), (q1, .inl (cJ, 128, .inr (.inl (fun _ => 0))))] H := hP
  have hD : va_D A [(h0, .inr (0, [.ref q1, .int 0])), (q1, .inl (cJ, 128, .inr (.inl (fun _ => 0))))] := hD
  have hP9 := hP.sub (ws' := [(h0, .inr (0, [.ref q1, .int 0])), (q1, .inl (cJ, 128, .inr (.inl (fun _ => 0))))]) [0, 1] rfl
  have hD9 := hD.sub (ws' := [(h0, .inr (0, [.ref q1, .int 0])), (q1, .inl (cJ, 128, .inr (.inl (fun _ => 0))))]) [0, 1] (by decide) rfl
  refine W.widen (k := 1) (n := 128) (Nat.le_of_ble_eq_true rfl) (Nat.le_of_ble_eq_true rfl) ?_
  exact W.vret hx hb hr (fun t ht hW => ⟨⟨(), rfl, trivial, q1, by rw [ht]; exact hP9, hD9⟩, hS.F ht⟩) hS.2.2 dX0_init_18
set_option maxHeartbeats 1000000 in
set_option maxRecDepth 100000 in
theorem mz_Drawing_init (l : Launch) (dC : Nat → ClassId) (dI : Nat → Nat → Nat) (cI cJ cZ : ClassId) (h0 : Nat) (sz : Nat)  : Met l yX2_init wsX2_init ({ frames := 1, cells := 2, slots := 16, locals := 12 }) (va_Pc [.ref h0] (fun U => U.heap.size = sz ∧ va_P (dC, dI) vwCl [(h0, .inr (2, [.null, .null, .int 0]))] U.heap ∧ va_K (dC, dI) vwCl [(cI, FieldType.int), (cJ, FieldType.long), (cZ, FieldType.boolean)] U ∧ va_D (fun _ => True) [(h0, .inr (2, [.null, .null, .int 0]))] ∧ mz_N U)) (va_Qv (fun (_ : Unit) => True) (fun _ t => ∃ (a0 : Nat), ∃ (a1 : Nat), va_P (dC, dI) vwCl [(h0, .inr (2, [.ref a0, .ref a1, .int 0])), (a0, .inl (cI, 8, .inl (fun _ => 0))), (a1, .inl (cI, 8, .inl (fun _ => 0)))] t.heap ∧ va_D (va_A [(h0, .inr (2, [.null, .null, .int 0]))] sz) [(h0, .inr (2, [.ref a0, .ref a1, .int 0])), (a0, .inl (cI, 8, .inl (fun _ => 0))), (a1, .inl (cI, 8, .inl (fun _ => 0)))]) (va_A [(h0, .inr (2, [.null, .null, .int 0]))] sz)) 2 16 (va_A [(h0, .inr (2, [.null, .null, .int 0]))] sz) := by
  refine Met.ofW (cc := cX2_init) (maxL := 1) (ret := none) (by decide) rfl ?_
  intro p e s m args below meth c s₁ B hml hv
  obtain ⟨rfl, hsz, hP, hK, hD0, hN⟩ := hv
  subst hsz
  have hx := B.exec
  have hb := B.bytes
  have hr := B.returns
  have hts := atoms_spec (ws := wsX2_init) B.pre
  have hown : s.vm.findClass RX2 = some m.cls := findClass_of_methodNamed B.named
  have hlocks := B.notSynchronized
  have hin : meth.name = "<init>" := (name_of_methodNamed B.named B.method).1
  have hD := hD0.self (sz := s.heap.size)
  generalize hAe : va_A [(h0, .inr (2, [.null, .null, .int 0]))] s.heap.size = A at hD ⊢
  have hA : ∀ q : Nat, s.heap.size ≤ q → A q := fun q h => by rw [← hAe]; exact Or.inr h
  have hS : va_S A s.heap s.heap [] := va_S.rf
  have hiX2 : ∀ w ∈ u_ws RX2 TX2 3, w ∈ wsX2_init := by decide +kernel
  have hl := lv_entry ([.ref h0]) (n := 1) (Nat.le_of_ble_eq_true rfl)
  rw [lg_entry_eq]
  generalize (lg_sl ([.ref h0]) ++ List.replicate (1 - (lg_sl ([.ref h0])).length) Slot.unset).toArray = ls at hl ⊢
  have hl : lv_has ls 1 [(0, .ref h0)] := hl
  refine lv_aload_n hx hb dX2_init_0 rfl (lv_at hl 0 rfl) ?_
  refine W.objInit hx hb hown (hts (.methodLink RX2 3 objectInit) (by decide +kernel)) (hts (.instanceMethod objectInit) (by decide +kernel)) (hts (.code objectInit ⟨#[0xb1]⟩ 1 none) (by decide +kernel)) rfl (by rw [hml]; exact hl.1) rfl dX2_init_1 (Nat.le_of_ble_eq_true rfl) (Nat.le_of_ble_eq_true rfl) ?_
  refine W.eq (g2 := F0 m 4 ls []) rfl ?_
  refine lv_aload_n hx hb dX2_init_4 rfl (lv_at hl 0 rfl) ?_
  refine lv_bipush (v := 8) hx hb dX2_init_5 (by decide +kernel) ?_
  refine mz_newa 0 (atype := .int) (N' := 8) (hprim := fun _ _ h h2 => Option.some.inj (h.symm.trans h2)) hx hb (hts (.arrayClass .int) (by decide +kernel)) (ty := .int) rfl hK hP hD hS hA rfl (a0 := (8, .inl (fun _ => 0))) (fun _ => rfl) (by decide +kernel) (by decide +kernel) (by decide +kernel) (Nat.le_of_ble_eq_true rfl) (Nat.le_of_ble_eq_true rfl) dX2_init_7 (fun q1 H hP hD hS => ?_)
  refine W.widen (k := 1) (n := 8) (Nat.le_of_ble_eq_true rfl) (Nat.le_of_ble_eq_true rfl) ?_
  have hP : va_P (dC, dI) vwCl [(h0, .inr (2, [.null, .null, .int 0])), (q1, .inl (cI, 8, .inl (fun _ => 0)))] H := hP
  have hD : va_D A [(h0, .inr (2, [.null, .null, .int 0])), (q1, .inl (cI, 8, .inl (fun _ => 0)))] := hD
  refine va_putF (D := (dC, dI)) (ci := 2) (v := .ref q1) (ty := .array .int) (C := RX2) (T := TX2) (N := 3) hx hb hts hiX2 tyX2 tyX2_ok nmX2 hown hK hP hD hS 0 rfl rfl 0 (by decide) (hts (.fieldLink RX2 9 "MadeItSo$Drawing" "parents" "[I") (by decide +kernel)) (fun _ h9 => h9) rfl hin rfl (by decide +kernel) rfl rfl (Nat.le_of_ble_eq_true rfl) dX2_init_9 (fun H locs hP hD hS => ?_)
  have hP : va_P (dC, dI) vwCl [(h0, .inr (2, [.ref q1, .null, .int 0])), (q1, .inl (cI, 8, .inl (fun _ => 0)))] H := hP
  have hD : va_D A [(h0, .inr (2, [.ref q1, .null, .int 0])), (q1, .inl (cI, 8, .inl (fun _ => 0)))] := hD
  refine lv_aload_n hx hb dX2_init_12 rfl (lv_at hl 0 rfl) ?_
  refine lv_bipush (v := 8) hx hb dX2_init_13 (by decide +kernel) ?_
  refine mz_newa 0 (atype := .int) (N' := 8) (hprim := fun _ _ h h2 => Option.some.inj (h.symm.trans h2)) hx hb (hts (.arrayClass .int) (by decide +kernel)) (ty := .int) rfl hK hP hD hS hA rfl (a0 := (8, .inl (fun _ => 0))) (fun _ => rfl) (by decide +kernel) (by decide +kernel) (by decide +kernel) (Nat.le_of_ble_eq_true rfl) (Nat.le_of_ble_eq_true rfl) dX2_init_15 (fun q2 H hP hD hS => ?_)
  refine W.widen (k := 2) (n := 16) (Nat.le_of_ble_eq_true rfl) (Nat.le_of_ble_eq_true rfl) ?_
  have hP : va_P (dC, dI) vwCl [(h0, .inr (2, [.ref q1, .null, .int 0])), (q1, .inl (cI, 8, .inl (fun _ => 0))), (q2, .inl (cI, 8, .inl (fun _ => 0)))] H := hP
  have hD : va_D A [(h0, .inr (2, [.ref q1, .null, .int 0])), (q1, .inl (cI, 8, .inl (fun _ => 0))), (q2, .inl (cI, 8, .inl (fun _ => 0)))] := hD
  refine va_putF (D := (dC, dI)) (ci := 2) (v := .ref q2) (ty := .array .int) (C := RX2) (T := TX2) (N := 3) hx hb hts hiX2 tyX2 tyX2_ok nmX2 hown hK hP hD hS 0 rfl rfl 1 (by decide) (hts (.fieldLink RX2 15 "MadeItSo$Drawing" "children" "[I") (by decide +kernel)) (fun _ h9 => h9) rfl hin rfl (by decide +kernel) rfl rfl (Nat.le_of_ble_eq_true rfl) dX2_init_17 (fun H locs hP hD hS => ?_)
  have hP : va_P (dC, dI) vwCl [(h0, .inr (2, [.ref q1, .ref q2, .int 0])), (q1, .inl (cI, 8, .inl (fun _ => 0))), (q2, .inl (cI, 8, .inl (fun _ => 0)))] H := hP
  have hD : va_D A [(h0, .inr (2, [.ref q1, .ref q2, .int 0])), (q1, .inl (cI, 8, .inl (fun _ => 0))), (q2, .inl (cI, 8, .inl (fun _ => 0)))] := hD
  refine lv_aload_n hx hb dX2_init_20 rfl (lv_at hl 0 rfl) ?_
  refine lv_iconst (v := 0) hx hb dX2_init_21 (by decide +kernel) ?_
  refine va_put (D := (dC, dI)) (ci := 2) (v := .int 0) (ty := .int) (C := RX2) (T := TX2) (N := 3) hx hb hts hiX2 tyX2 tyX2_ok nmX2 hown hK hP hD hS 0 rfl rfl 2 (by decide) (hts (.fieldLink RX2 18 "MadeItSo$Drawing" "things" "I") (by decide +kernel)) (fun _ h9 => h9) rfl (by decide +kernel) rfl rfl (Nat.le_of_ble_eq_true rfl) dX2_init_22 (fun H locs hP hD hS => ?_)
  have hP : va_P (dC, dI) vwCl [(h0, .inr (2, [.ref q1, .ref q2, .int 0])), (q1, .inl (cI, 8, .inl (fun _ => 0))), (q2, .inl (cI, 8, .inl (fun _ => 0)))] H := hP
  have hD : va_D A [(h0, .inr (2, [.ref q1, .ref q2, .int 0])), (q1, .inl (cI, 8, .inl (fun _ => 0))), (q2, .inl (cI, 8, .inl (fun _ => 0)))] := hD
  have hP9 := hP.sub (ws' := [(h0, .inr (2, [.ref q1, .ref q2, .int 0])), (q1, .inl (cI, 8, .inl (fun _ => 0))), (q2, .inl (cI, 8, .inl (fun _ => 0)))]) [0, 1, 2] rfl
  have hD9 := hD.sub (ws' := [(h0, .inr (2, [.ref q1, .ref q2, .int 0])), (q1, .inl (cI, 8, .inl (fun _ => 0))), (q2, .inl (cI, 8, .inl (fun _ => 0)))]) [0, 1, 2] (by decide) rfl
  refine W.widen (k := 2) (n := 16) (Nat.le_of_ble_eq_true rfl) (Nat.le_of_ble_eq_true rfl) ?_
  exact W.vret hx hb hr (fun t ht hW => ⟨⟨(), rfl, trivial, q1, q2, by rw [ht]; exact hP9, hD9⟩, hS.F ht⟩) hS.2.2 dX2_init_25
set_option maxHeartbeats 1000000 in
set_option maxRecDepth 100000 in
theorem mz_Books_init (l : Launch) (dC : Nat → ClassId) (dI : Nat → Nat → Nat) (cI cJ cZ : ClassId) (h0 : Nat) (sz : Nat)  : Met l yX1_init wsX1_init ({ frames := 1, cells := 1, slots := 1024, locals := 12 }) (va_Pc [.ref h0] (fun U => U.heap.size = sz ∧ va_P (dC, dI) vwCl [(h0, .inr (1, [.null]))] U.heap ∧ va_K (dC, dI) vwCl [(cI, FieldType.int), (cJ, FieldType.long), (cZ, FieldType.boolean)] U ∧ va_D (fun _ => True) [(h0, .inr (1, [.null]))] ∧ mz_N U)) (va_Qv (fun (_ : Unit) => True) (fun _ t => ∃ (a0 : Nat), va_P (dC, dI) vwCl [(h0, .inr (1, [.ref a0])), (a0, .inl (cI, 1024, .inl (fun _ => 0)))] t.heap ∧ va_D (va_A [(h0, .inr (1, [.null]))] sz) [(h0, .inr (1, [.ref a0])), (a0, .inl (cI, 1024, .inl (fun _ => 0)))]) (va_A [(h0, .inr (1, [.null]))] sz)) 1 1024 (va_A [(h0, .inr (1, [.null]))] sz) := by
  refine Met.ofW (cc := cX1_init) (maxL := 1) (ret := none) (by decide) rfl ?_
  intro p e s m args below meth c s₁ B hml hv
  obtain ⟨rfl, hsz, hP, hK, hD0, hN⟩ := hv
  subst hsz
  have hx := B.exec
  have hb := B.bytes
  have hr := B.returns
  have hts := atoms_spec (ws := wsX1_init) B.pre
  have hown : s.vm.findClass RX1 = some m.cls := findClass_of_methodNamed B.named
  have hlocks := B.notSynchronized
  have hin : meth.name = "<init>" := (name_of_methodNamed B.named B.method).1
  have hD := hD0.self (sz := s.heap.size)
  generalize hAe : va_A [(h0, .inr (1, [.null]))] s.heap.size = A at hD ⊢
  have hA : ∀ q : Nat, s.heap.size ≤ q → A q := fun q h => by rw [← hAe]; exact Or.inr h
  have hS : va_S A s.heap s.heap [] := va_S.rf
  have hiX1 : ∀ w ∈ u_ws RX1 TX1 1, w ∈ wsX1_init := by decide +kernel
  have hl := lv_entry ([.ref h0]) (n := 1) (Nat.le_of_ble_eq_true rfl)
  rw [lg_entry_eq]
  generalize (lg_sl ([.ref h0]) ++ List.replicate (1 - (lg_sl ([.ref h0])).length) Slot.unset).toArray = ls at hl ⊢
  have hl : lv_has ls 1 [(0, .ref h0)] := hl
  refine lv_aload_n hx hb dX1_init_0 rfl (lv_at hl 0 rfl) ?_
  refine W.objInit hx hb hown (hts (.methodLink RX1 3 objectInit) (by decide +kernel)) (hts (.instanceMethod objectInit) (by decide +kernel)) (hts (.code objectInit ⟨#[0xb1]⟩ 1 none) (by decide +kernel)) rfl (by rw [hml]; exact hl.1) rfl dX1_init_1 (Nat.le_of_ble_eq_true rfl) (Nat.le_of_ble_eq_true rfl) ?_
  refine W.eq (g2 := F0 m 4 ls []) rfl ?_
  refine lv_aload_n hx hb dX1_init_4 rfl (lv_at hl 0 rfl) ?_
  refine lv_sipush (v := 1024) hx hb dX1_init_5 (by decide +kernel) ?_
  refine mz_newa 0 (atype := .int) (N' := 1024) (hprim := fun _ _ h h2 => Option.some.inj (h.symm.trans h2)) hx hb (hts (.arrayClass .int) (by decide +kernel)) (ty := .int) rfl hK hP hD hS hA rfl (a0 := (1024, .inl (fun _ => 0))) (fun _ => rfl) (by decide +kernel) (by decide +kernel) (by decide +kernel) (Nat.le_of_ble_eq_true rfl) (Nat.le_of_ble_eq_true rfl) dX1_init_8 (fun q1 H hP hD hS => ?_)
  refine W.widen (k := 1) (n := 1024) (Nat.le_of_ble_eq_true rfl) (Nat.le_of_ble_eq_true rfl) ?_
  have hP : va_P (dC, dI) vwCl [(h0, .inr (1, [.null])), (q1, .inl (cI, 1024, .inl (fun _ => 0)))] H := hP
  have hD : va_D A [(h0, .inr (1, [.null])), (q1, .inl (cI, 1024, .inl (fun _ => 0)))] := hD
  refine va_putF (D := (dC, dI)) (ci := 1) (v := .ref q1) (ty := .array .int) (C := RX1) (T := TX1) (N := 1) hx hb hts hiX1 tyX1 tyX1_ok nmX1 hown hK hP hD hS 0 rfl rfl 0 (by decide) (hts (.fieldLink RX1 9 "MadeItSo$Books" "parts" "[I") (by decide +kernel)) (fun _ h9 => h9) rfl hin rfl (by decide +kernel) rfl rfl (Nat.le_of_ble_eq_true rfl) dX1_init_10 (fun H locs hP hD hS => ?_)
  have hP : va_P (dC, dI) vwCl [(h0, .inr (1, [.ref q1])), (q1, .inl (cI, 1024, .inl (fun _ => 0)))] H := hP
  have hD : va_D A [(h0, .inr (1, [.ref q1])), (q1, .inl (cI, 1024, .inl (fun _ => 0)))] := hD
  have hP9 := hP.sub (ws' := [(h0, .inr (1, [.ref q1])), (q1, .inl (cI, 1024, .inl (fun _ => 0)))]) [0, 1] rfl
  have hD9 := hD.sub (ws' := [(h0, .inr (1, [.ref q1])), (q1, .inl (cI, 1024, .inl (fun _ => 0)))]) [0, 1] (by decide) rfl
  refine W.widen (k := 1) (n := 1024) (Nat.le_of_ble_eq_true rfl) (Nat.le_of_ble_eq_true rfl) ?_
  exact W.vret hx hb hr (fun t ht hW => ⟨⟨(), rfl, trivial, q1, by rw [ht]; exact hP9, hD9⟩, hS.F ht⟩) hS.2.2 dX1_init_13
set_option maxHeartbeats 1000000 in
set_option maxRecDepth 100000 in
theorem mz_Weights_init (l : Launch) (dC : Nat → ClassId) (dI : Nat → Nat → Nat) (cI cJ cZ : ClassId) (h0 : Nat) (sz : Nat)  : Met l yX6_init wsX6_init ({ frames := 1, cells := 1, slots := 256, locals := 12 }) (va_Pc [.ref h0] (fun U => U.heap.size = sz ∧ va_P (dC, dI) vwCl [(h0, .inr (6, [.null, .int 0]))] U.heap ∧ va_K (dC, dI) vwCl [(cI, FieldType.int), (cJ, FieldType.long), (cZ, FieldType.boolean)] U ∧ va_D (fun _ => True) [(h0, .inr (6, [.null, .int 0]))] ∧ mz_N U)) (va_Qv (fun (_ : Unit) => True) (fun _ t => ∃ (a0 : Nat), va_P (dC, dI) vwCl [(h0, .inr (6, [.ref a0, .int 0])), (a0, .inl (cJ, 256, .inr (.inl (fun _ => 0))))] t.heap ∧ va_D (va_A [(h0, .inr (6, [.null, .int 0]))] sz) [(h0, .inr (6, [.ref a0, .int 0])), (a0, .inl (cJ, 256, .inr (.inl (fun _ => 0))))]) (va_A [(h0, .inr (6, [.null, .int 0]))] sz)) 1 256 (va_A [(h0, .inr (6, [.null, .int 0]))] sz) := by
  refine Met.ofW (cc := cX6_init) (maxL := 1) (ret := none) (by decide) rfl ?_
  intro p e s m args below meth c s₁ B hml hv
  obtain ⟨rfl, hsz, hP, hK, hD0, hN⟩ := hv
  subst hsz
  have hx := B.exec
  have hb := B.bytes
  have hr := B.returns
  have hts := atoms_spec (ws := wsX6_init) B.pre
  have hown : s.vm.findClass RX6 = some m.cls := findClass_of_methodNamed B.named
  have hlocks := B.notSynchronized
  have hin : meth.name = "<init>" := (name_of_methodNamed B.named B.method).1
  have hD := hD0.self (sz := s.heap.size)
  generalize hAe : va_A [(h0, .inr (6, [.null, .int 0]))] s.heap.size = A at hD ⊢
  have hA : ∀ q : Nat, s.heap.size ≤ q → A q := fun q h => by rw [← hAe]; exact Or.inr h
  have hS : va_S A s.heap s.heap [] := va_S.rf
  have hiX6 : ∀ w ∈ u_ws RX6 TX6 2, w ∈ wsX6_init := by decide +kernel
  have hl := lv_entry ([.ref h0]) (n := 1) (Nat.le_of_ble_eq_true rfl)
  rw [lg_entry_eq]
  generalize (lg_sl ([.ref h0]) ++ List.replicate (1 - (lg_sl ([.ref h0])).length) Slot.unset).toArray = ls at hl ⊢
  have hl : lv_has ls 1 [(0, .ref h0)] := hl
  refine lv_aload_n hx hb dX6_init_0 rfl (lv_at hl 0 rfl) ?_
  refine W.objInit hx hb hown (hts (.methodLink RX6 3 objectInit) (by decide +kernel)) (hts (.instanceMethod objectInit) (by decide +kernel)) (hts (.code objectInit ⟨#[0xb1]⟩ 1 none) (by decide +kernel)) rfl (by rw [hml]; exact hl.1) rfl dX6_init_1 (Nat.le_of_ble_eq_true rfl) (Nat.le_of_ble_eq_true rfl) ?_
  refine W.eq (g2 := F0 m 4 ls []) rfl ?_
  refine lv_aload_n hx hb dX6_init_4 rfl (lv_at hl 0 rfl) ?_
  refine lv_sipush (v := 256) hx hb dX6_init_5 (by decide +kernel) ?_
  refine mz_newa 1 (atype := .long) (N' := 256) (hprim := fun _ _ h h2 => Option.some.inj (h.symm.trans h2)) hx hb (hts (.arrayClass .long) (by decide +kernel)) (ty := .long) rfl hK hP hD hS hA rfl (a0 := (256, .inr (.inl (fun _ => 0)))) (fun _ => rfl) (by decide +kernel) (by decide +kernel) (by decide +kernel) (Nat.le_of_ble_eq_true rfl) (Nat.le_of_ble_eq_true rfl) dX6_init_8 (fun q1 H hP hD hS => ?_)
  refine W.widen (k := 1) (n := 256) (Nat.le_of_ble_eq_true rfl) (Nat.le_of_ble_eq_true rfl) ?_
  have hP : va_P (dC, dI) vwCl [(h0, .inr (6, [.null, .int 0])), (q1, .inl (cJ, 256, .inr (.inl (fun _ => 0))))] H := hP
  have hD : va_D A [(h0, .inr (6, [.null, .int 0])), (q1, .inl (cJ, 256, .inr (.inl (fun _ => 0))))] := hD
  refine va_putF (D := (dC, dI)) (ci := 6) (v := .ref q1) (ty := .array .long) (C := RX6) (T := TX6) (N := 2) hx hb hts hiX6 tyX6 tyX6_ok nmX6 hown hK hP hD hS 0 rfl rfl 0 (by decide) (hts (.fieldLink RX6 9 "MadeItSo$Weights" "ofCase" "[J") (by decide +kernel)) (fun _ h9 => h9) rfl hin rfl (by decide +kernel) rfl rfl (Nat.le_of_ble_eq_true rfl) dX6_init_10 (fun H locs hP hD hS => ?_)
  have hP : va_P (dC, dI) vwCl [(h0, .inr (6, [.ref q1, .int 0])), (q1, .inl (cJ, 256, .inr (.inl (fun _ => 0))))] H := hP
  have hD : va_D A [(h0, .inr (6, [.ref q1, .int 0])), (q1, .inl (cJ, 256, .inr (.inl (fun _ => 0))))] := hD
  refine lv_aload_n hx hb dX6_init_13 rfl (lv_at hl 0 rfl) ?_
  refine lv_iconst (v := 0) hx hb dX6_init_14 (by decide +kernel) ?_
  refine va_put (D := (dC, dI)) (ci := 6) (v := .int 0) (ty := .int) (C := RX6) (T := TX6) (N := 2) hx hb hts hiX6 tyX6 tyX6_ok nmX6 hown hK hP hD hS 0 rfl rfl 1 (by decide) (hts (.fieldLink RX6 15 "MadeItSo$Weights" "everything" "I") (by decide +kernel)) (fun _ h9 => h9) rfl (by decide +kernel) rfl rfl (Nat.le_of_ble_eq_true rfl) dX6_init_15 (fun H locs hP hD hS => ?_)
  have hP : va_P (dC, dI) vwCl [(h0, .inr (6, [.ref q1, .int 0])), (q1, .inl (cJ, 256, .inr (.inl (fun _ => 0))))] H := hP
  have hD : va_D A [(h0, .inr (6, [.ref q1, .int 0])), (q1, .inl (cJ, 256, .inr (.inl (fun _ => 0))))] := hD
  have hP9 := hP.sub (ws' := [(h0, .inr (6, [.ref q1, .int 0])), (q1, .inl (cJ, 256, .inr (.inl (fun _ => 0))))]) [0, 1] rfl
  have hD9 := hD.sub (ws' := [(h0, .inr (6, [.ref q1, .int 0])), (q1, .inl (cJ, 256, .inr (.inl (fun _ => 0))))]) [0, 1] (by decide) rfl
  refine W.widen (k := 1) (n := 256) (Nat.le_of_ble_eq_true rfl) (Nat.le_of_ble_eq_true rfl) ?_
  exact W.vret hx hb hr (fun t ht hW => ⟨⟨(), rfl, trivial, q1, by rw [ht]; exact hP9, hD9⟩, hS.F ht⟩) hS.2.2 dX6_init_18
set_option maxHeartbeats 1000000 in
set_option maxRecDepth 100000 in
theorem mz_LeastHeaps_init (l : Launch) (dC : Nat → ClassId) (dI : Nat → Nat → Nat) (cI cJ cZ : ClassId) (h0 : Nat) (sz : Nat)  : Met l yX3_init wsX3_init ({ frames := 1, cells := 1, slots := 64, locals := 12 }) (va_Pc [.ref h0] (fun U => U.heap.size = sz ∧ va_P (dC, dI) vwCl [(h0, .inr (3, [.null, .int 0]))] U.heap ∧ va_K (dC, dI) vwCl [(cI, FieldType.int), (cJ, FieldType.long), (cZ, FieldType.boolean)] U ∧ va_D (fun _ => True) [(h0, .inr (3, [.null, .int 0]))] ∧ mz_N U)) (va_Qv (fun (_ : Unit) => True) (fun _ t => ∃ (a0 : Nat), va_P (dC, dI) vwCl [(h0, .inr (3, [.ref a0, .int 0])), (a0, .inl (cI, 64, .inl (fun _ => 0)))] t.heap ∧ va_D (va_A [(h0, .inr (3, [.null, .int 0]))] sz) [(h0, .inr (3, [.ref a0, .int 0])), (a0, .inl (cI, 64, .inl (fun _ => 0)))]) (va_A [(h0, .inr (3, [.null, .int 0]))] sz)) 1 64 (va_A [(h0, .inr (3, [.null, .int 0]))] sz) := by
  refine Met.ofW (cc := cX3_init) (maxL := 1) (ret := none) (by decide) rfl ?_
  intro p e s m args below meth c s₁ B hml hv
  obtain ⟨rfl, hsz, hP, hK, hD0, hN⟩ := hv
  subst hsz
  have hx := B.exec
  have hb := B.bytes
  have hr := B.returns
  have hts := atoms_spec (ws := wsX3_init) B.pre
  have hown : s.vm.findClass RX3 = some m.cls := findClass_of_methodNamed B.named
  have hlocks := B.notSynchronized
  have hin : meth.name = "<init>" := (name_of_methodNamed B.named B.method).1
  have hD := hD0.self (sz := s.heap.size)
  generalize hAe : va_A [(h0, .inr (3, [.null, .int 0]))] s.heap.size = A at hD ⊢
  have hA : ∀ q : Nat, s.heap.size ≤ q → A q := fun q h => by rw [← hAe]; exact Or.inr h
  have hS : va_S A s.heap s.heap [] := va_S.rf
  have hiX3 : ∀ w ∈ u_ws RX3 TX3 2, w ∈ wsX3_init := by decide +kernel
  have hl := lv_entry ([.ref h0]) (n := 1) (Nat.le_of_ble_eq_true rfl)
  rw [lg_entry_eq]
  generalize (lg_sl ([.ref h0]) ++ List.replicate (1 - (lg_sl ([.ref h0])).length) Slot.unset).toArray = ls at hl ⊢
  have hl : lv_has ls 1 [(0, .ref h0)] := hl
  refine lv_aload_n hx hb dX3_init_0 rfl (lv_at hl 0 rfl) ?_
  refine W.objInit hx hb hown (hts (.methodLink RX3 3 objectInit) (by decide +kernel)) (hts (.instanceMethod objectInit) (by decide +kernel)) (hts (.code objectInit ⟨#[0xb1]⟩ 1 none) (by decide +kernel)) rfl (by rw [hml]; exact hl.1) rfl dX3_init_1 (Nat.le_of_ble_eq_true rfl) (Nat.le_of_ble_eq_true rfl) ?_
  refine W.eq (g2 := F0 m 4 ls []) rfl ?_
  refine lv_aload_n hx hb dX3_init_4 rfl (lv_at hl 0 rfl) ?_
  refine lv_bipush (v := 64) hx hb dX3_init_5 (by decide +kernel) ?_
  refine mz_newa 0 (atype := .int) (N' := 64) (hprim := fun _ _ h h2 => Option.some.inj (h.symm.trans h2)) hx hb (hts (.arrayClass .int) (by decide +kernel)) (ty := .int) rfl hK hP hD hS hA rfl (a0 := (64, .inl (fun _ => 0))) (fun _ => rfl) (by decide +kernel) (by decide +kernel) (by decide +kernel) (Nat.le_of_ble_eq_true rfl) (Nat.le_of_ble_eq_true rfl) dX3_init_7 (fun q1 H hP hD hS => ?_)
  refine W.widen (k := 1) (n := 64) (Nat.le_of_ble_eq_true rfl) (Nat.le_of_ble_eq_true rfl) ?_
  have hP : va_P (dC, dI) vwCl [(h0, .inr (3, [.null, .int 0])), (q1, .inl (cI, 64, .inl (fun _ => 0)))] H := hP
  have hD : va_D A [(h0, .inr (3, [.null, .int 0])), (q1, .inl (cI, 64, .inl (fun _ => 0)))] := hD
  refine va_putF (D := (dC, dI)) (ci := 3) (v := .ref q1) (ty := .array .int) (C := RX3) (T := TX3) (N := 2) hx hb hts hiX3 tyX3 tyX3_ok nmX3 hown hK hP hD hS 0 rfl rfl 0 (by decide) (hts (.fieldLink RX3 9 "MadeItSo$LeastHeaps" "found" "[I") (by decide +kernel)) (fun _ h9 => h9) rfl hin rfl (by decide +kernel) rfl rfl (Nat.le_of_ble_eq_true rfl) dX3_init_9 (fun H locs hP hD hS => ?_)
  have hP : va_P (dC, dI) vwCl [(h0, .inr (3, [.ref q1, .int 0])), (q1, .inl (cI, 64, .inl (fun _ => 0)))] H := hP
  have hD : va_D A [(h0, .inr (3, [.ref q1, .int 0])), (q1, .inl (cI, 64, .inl (fun _ => 0)))] := hD
  refine lv_aload_n hx hb dX3_init_12 rfl (lv_at hl 0 rfl) ?_
  refine lv_iconst (v := 0) hx hb dX3_init_13 (by decide +kernel) ?_
  refine va_put (D := (dC, dI)) (ci := 3) (v := .int 0) (ty := .int) (C := RX3) (T := TX3) (N := 2) hx hb hts hiX3 tyX3 tyX3_ok nmX3 hown hK hP hD hS 0 rfl rfl 1 (by decide) (hts (.fieldLink RX3 15 "MadeItSo$LeastHeaps" "many" "I") (by decide +kernel)) (fun _ h9 => h9) rfl (by decide +kernel) rfl rfl (Nat.le_of_ble_eq_true rfl) dX3_init_14 (fun H locs hP hD hS => ?_)
  have hP : va_P (dC, dI) vwCl [(h0, .inr (3, [.ref q1, .int 0])), (q1, .inl (cI, 64, .inl (fun _ => 0)))] H := hP
  have hD : va_D A [(h0, .inr (3, [.ref q1, .int 0])), (q1, .inl (cI, 64, .inl (fun _ => 0)))] := hD
  have hP9 := hP.sub (ws' := [(h0, .inr (3, [.ref q1, .int 0])), (q1, .inl (cI, 64, .inl (fun _ => 0)))]) [0, 1] rfl
  have hD9 := hD.sub (ws' := [(h0, .inr (3, [.ref q1, .int 0])), (q1, .inl (cI, 64, .inl (fun _ => 0)))]) [0, 1] (by decide) rfl
  refine W.widen (k := 1) (n := 64) (Nat.le_of_ble_eq_true rfl) (Nat.le_of_ble_eq_true rfl) ?_
  exact W.vret hx hb hr (fun t ht hW => ⟨⟨(), rfl, trivial, q1, by rw [ht]; exact hP9, hD9⟩, hS.F ht⟩) hS.2.2 dX3_init_17
set_option maxHeartbeats 1000000 in
set_option maxRecDepth 100000 in
theorem mz_Lookalikes_init (l : Launch) (dC : Nat → ClassId) (dI : Nat → Nat → Nat) (cI cJ cZ : ClassId) (h0 : Nat) (sz : Nat)  : Met l yX4_init wsX4_init ({ frames := 1, cells := 1, slots := 256, locals := 12 }) (va_Pc [.ref h0] (fun U => U.heap.size = sz ∧ va_P (dC, dI) vwCl [(h0, .inr (4, [.null]))] U.heap ∧ va_K (dC, dI) vwCl [(cI, FieldType.int), (cJ, FieldType.long), (cZ, FieldType.boolean)] U ∧ va_D (fun _ => True) [(h0, .inr (4, [.null]))] ∧ mz_N U)) (va_Qv (fun (_ : Unit) => True) (fun _ t => ∃ (a0 : Nat), va_P (dC, dI) vwCl [(h0, .inr (4, [.ref a0])), (a0, .inl (cI, 256, .inl (fun _ => 0)))] t.heap ∧ va_D (va_A [(h0, .inr (4, [.null]))] sz) [(h0, .inr (4, [.ref a0])), (a0, .inl (cI, 256, .inl (fun _ => 0)))]) (va_A [(h0, .inr (4, [.null]))] sz)) 1 256 (va_A [(h0, .inr (4, [.null]))] sz) := by
  refine Met.ofW (cc := cX4_init) (maxL := 1) (ret := none) (by decide) rfl ?_
  intro p e s m args below meth c s₁ B hml hv
  obtain ⟨rfl, hsz, hP, hK, hD0, hN⟩ := hv
  subst hsz
  have hx := B.exec
  have hb := B.bytes
  have hr := B.returns
  have hts := atoms_spec (ws := wsX4_init) B.pre
  have hown : s.vm.findClass RX4 = some m.cls := findClass_of_methodNamed B.named
  have hlocks := B.notSynchronized
  have hin : meth.name = "<init>" := (name_of_methodNamed B.named B.method).1
  have hD := hD0.self (sz := s.heap.size)
  generalize hAe : va_A [(h0, .inr (4, [.null]))] s.heap.size = A at hD ⊢
  have hA : ∀ q : Nat, s.heap.size ≤ q → A q := fun q h => by rw [← hAe]; exact Or.inr h
  have hS : va_S A s.heap s.heap [] := va_S.rf
  have hiX4 : ∀ w ∈ u_ws RX4 TX4 1, w ∈ wsX4_init := by decide +kernel
  have hl := lv_entry ([.ref h0]) (n := 1) (Nat.le_of_ble_eq_true rfl)
  rw [lg_entry_eq]
  generalize (lg_sl ([.ref h0]) ++ List.replicate (1 - (lg_sl ([.ref h0])).length) Slot.unset).toArray = ls at hl ⊢
  have hl : lv_has ls 1 [(0, .ref h0)] := hl
  refine lv_aload_n hx hb dX4_init_0 rfl (lv_at hl 0 rfl) ?_
  refine W.objInit hx hb hown (hts (.methodLink RX4 3 objectInit) (by decide +kernel)) (hts (.instanceMethod objectInit) (by decide +kernel)) (hts (.code objectInit ⟨#[0xb1]⟩ 1 none) (by decide +kernel)) rfl (by rw [hml]; exact hl.1) rfl dX4_init_1 (Nat.le_of_ble_eq_true rfl) (Nat.le_of_ble_eq_true rfl) ?_
  refine W.eq (g2 := F0 m 4 ls []) rfl ?_
  refine lv_aload_n hx hb dX4_init_4 rfl (lv_at hl 0 rfl) ?_
  refine lv_sipush (v := 256) hx hb dX4_init_5 (by decide +kernel) ?_
  refine mz_newa 0 (atype := .int) (N' := 256) (hprim := fun _ _ h h2 => Option.some.inj (h.symm.trans h2)) hx hb (hts (.arrayClass .int) (by decide +kernel)) (ty := .int) rfl hK hP hD hS hA rfl (a0 := (256, .inl (fun _ => 0))) (fun _ => rfl) (by decide +kernel) (by decide +kernel) (by decide +kernel) (Nat.le_of_ble_eq_true rfl) (Nat.le_of_ble_eq_true rfl) dX4_init_8 (fun q1 H hP hD hS => ?_)
  refine W.widen (k := 1) (n := 256) (Nat.le_of_ble_eq_true rfl) (Nat.le_of_ble_eq_true rfl) ?_
  have hP : va_P (dC, dI) vwCl [(h0, .inr (4, [.null])), (q1, .inl (cI, 256, .inl (fun _ => 0)))] H := hP
  have hD : va_D A [(h0, .inr (4, [.null])), (q1, .inl (cI, 256, .inl (fun _ => 0)))] := hD
  refine va_putF (D := (dC, dI)) (ci := 4) (v := .ref q1) (ty := .array .int) (C := RX4) (T := TX4) (N := 1) hx hb hts hiX4 tyX4 tyX4_ok nmX4 hown hK hP hD hS 0 rfl rfl 0 (by decide) (hts (.fieldLink RX4 9 "MadeItSo$Lookalikes" "waysOf" "[I") (by decide +kernel)) (fun _ h9 => h9) rfl hin rfl (by decide +kernel) rfl rfl (Nat.le_of_ble_eq_true rfl) dX4_init_10 (fun H locs hP hD hS => ?_)
  have hP : va_P (dC, dI) vwCl [(h0, .inr (4, [.ref q1])), (q1, .inl (cI, 256, .inl (fun _ => 0)))] H := hP
  have hD : va_D A [(h0, .inr (4, [.ref q1])), (q1, .inl (cI, 256, .inl (fun _ => 0)))] := hD
  have hP9 := hP.sub (ws' := [(h0, .inr (4, [.ref q1])), (q1, .inl (cI, 256, .inl (fun _ => 0)))]) [0, 1] rfl
  have hD9 := hD.sub (ws' := [(h0, .inr (4, [.ref q1])), (q1, .inl (cI, 256, .inl (fun _ => 0)))]) [0, 1] (by decide) rfl
  refine W.widen (k := 1) (n := 256) (Nat.le_of_ble_eq_true rfl) (Nat.le_of_ble_eq_true rfl) ?_
  exact W.vret hx hb hr (fun t ht hW => ⟨⟨(), rfl, trivial, q1, by rw [ht]; exact hP9, hD9⟩, hS.F ht⟩) hS.2.2 dX4_init_13
set_option maxHeartbeats 1000000 in
set_option maxRecDepth 100000 in
theorem mz_Model_init (l : Launch) (dC : Nat → ClassId) (dI : Nat → Nat → Nat) (cI cJ cZ : ClassId) (h0 : Nat) (sz : Nat)  : Met l yX8_init wsX8_init ({ frames := 1, cells := 14, slots := 2010, locals := 12 }) (va_Pc [.ref h0] (fun U => U.heap.size = sz ∧ va_P (dC, dI) vwCl [(h0, .inr (8, [.int 0, .null, .null, .null, .long 0, .long 0, .null, .null, .null, .null, .null, .null, .null, .null, .null, .null, .null]))] U.heap ∧ va_K (dC, dI) vwCl [(cI, FieldType.int), (cJ, FieldType.long), (cZ, FieldType.boolean)] U ∧ va_D (fun _ => True) [(h0, .inr (8, [.int 0, .null, .null, .null, .long 0, .long 0, .null, .null, .null, .null, .null, .null, .null, .null, .null, .null, .null]))] ∧ mz_N U)) (va_Qv (fun (_ : Unit) => True) (fun _ t => ∃ (a0 : Nat), ∃ (a1 : Nat), ∃ (a2 : Nat), ∃ (a3 : Nat), ∃ (a4 : Nat), ∃ (a5 : Nat), ∃ (a6 : Nat), ∃ (a7 : Nat), ∃ (a8 : Nat), ∃ (a9 : Nat), ∃ (a10 : Nat), ∃ (a11 : Nat), ∃ (a12 : Nat), ∃ (a13 : Nat), va_P (dC, dI) vwCl [(h0, .inr (8, [.int 0, .ref a0, .ref a1, .ref a2, .long 0, .long 1, .ref a3, .ref a4, .ref a5, .ref a6, .ref a7, .ref a8, .ref a9, .ref a10, .ref a11, .ref a12, .ref a13])), (a0, .inl (cZ, 8, .inl (fun _ => 0))), (a1, .inl (cI, 8, .inl (fun _ => 0))), (a2, .inl (cI, 1024, .inl (fun _ => 0))), (a3, .inl (cI, 8, .inl (fun _ => 0))), (a4, .inl (cI, 9, .inl (fun _ => 0))), (a5, .inl (cZ, 256, .inl (fun _ => 0))), (a6, .inl (cJ, 200, .inr (.inl (fun _ => 0)))), (a7, .inl (cJ, 200, .inr (.inl (fun _ => 0)))), (a8, .inl (cJ, 200, .inr (.inl (fun _ => 0)))), (a9, .inl (cI, 8, .inl (fun _ => 0))), (a10, .inl (cI, 9, .inl (fun _ => 0))), (a11, .inl (cI, 8, .inl (fun _ => 0))), (a12, .inl (cZ, 64, .inl (fun _ => 0))), (a13, .inl (cI, 8, .inl (fun _ => 0)))] t.heap ∧ va_D (va_A [(h0, .inr (8, [.int 0, .null, .null, .null, .long 0, .long 0, .null, .null, .null, .null, .null, .null, .null, .null, .null, .null, .null]))] sz) [(h0, .inr (8, [.int 0, .ref a0, .ref a1, .ref a2, .long 0, .long 1, .ref a3, .ref a4, .ref a5, .ref a6, .ref a7, .ref a8, .ref a9, .ref a10, .ref a11, .ref a12, .ref a13])), (a0, .inl (cZ, 8, .inl (fun _ => 0))), (a1, .inl (cI, 8, .inl (fun _ => 0))), (a2, .inl (cI, 1024, .inl (fun _ => 0))), (a3, .inl (cI, 8, .inl (fun _ => 0))), (a4, .inl (cI, 9, .inl (fun _ => 0))), (a5, .inl (cZ, 256, .inl (fun _ => 0))), (a6, .inl (cJ, 200, .inr (.inl (fun _ => 0)))), (a7, .inl (cJ, 200, .inr (.inl (fun _ => 0)))), (a8, .inl (cJ, 200, .inr (.inl (fun _ => 0)))), (a9, .inl (cI, 8, .inl (fun _ => 0))), (a10, .inl (cI, 9, .inl (fun _ => 0))), (a11, .inl (cI, 8, .inl (fun _ => 0))), (a12, .inl (cZ, 64, .inl (fun _ => 0))), (a13, .inl (cI, 8, .inl (fun _ => 0)))]) (va_A [(h0, .inr (8, [.int 0, .null, .null, .null, .long 0, .long 0, .null, .null, .null, .null, .null, .null, .null, .null, .null, .null, .null]))] sz)) 14 2010 (va_A [(h0, .inr (8, [.int 0, .null, .null, .null, .long 0, .long 0, .null, .null, .null, .null, .null, .null, .null, .null, .null, .null, .null]))] sz) := by
  refine Met.ofW (cc := cX8_init) (maxL := 1) (ret := none) (by decide) rfl ?_
  intro p e s m args below meth c s₁ B hml hv
  obtain ⟨rfl, hsz, hP, hK, hD0, hN⟩ := hv
  subst hsz
  have hx := B.exec
  have hb := B.bytes
  have hr := B.returns
  have hts := atoms_spec (ws := wsX8_init) B.pre
  have hown : s.vm.findClass RX8 = some m.cls := findClass_of_methodNamed B.named
  have hlocks := B.notSynchronized
  have hin : meth.name = "<init>" := (name_of_methodNamed B.named B.method).1
  have hD := hD0.self (sz := s.heap.size)
  generalize hAe : va_A [(h0, .inr (8, [.int 0, .null, .null, .null, .long 0, .long 0, .null, .null, .null, .null, .null, .null, .null, .null, .null, .null, .null]))] s.heap.size = A at hD ⊢
  have hA : ∀ q : Nat, s.heap.size ≤ q → A q := fun q h => by rw [← hAe]; exact Or.inr h
  have hS : va_S A s.heap s.heap [] := va_S.rf
  have hiX8 : ∀ w ∈ u_ws RX8 TX8 17, w ∈ wsX8_init := by decide +kernel
  have hl := lv_entry ([.ref h0]) (n := 1) (Nat.le_of_ble_eq_true rfl)
  rw [lg_entry_eq]
  generalize (lg_sl ([.ref h0]) ++ List.replicate (1 - (lg_sl ([.ref h0])).length) Slot.unset).toArray = ls at hl ⊢
  have hl : lv_has ls 1 [(0, .ref h0)] := hl
  refine lv_aload_n hx hb dX8_init_0 rfl (lv_at hl 0 rfl) ?_
  refine W.objInit hx hb hown (hts (.methodLink RX8 3 objectInit) (by decide +kernel)) (hts (.instanceMethod objectInit) (by decide +kernel)) (hts (.code objectInit ⟨#[0xb1]⟩ 1 none) (by decide +kernel)) rfl (by rw [hml]; exact hl.1) rfl dX8_init_1 (Nat.le_of_ble_eq_true rfl) (Nat.le_of_ble_eq_true rfl) ?_
  refine W.eq (g2 := F0 m 4 ls []) rfl ?_
  refine lv_aload_n hx hb dX8_init_4 rfl (lv_at hl 0 rfl) ?_
  refine lv_bipush (v := 8) hx hb dX8_init_5 (by decide +kernel) ?_
  refine mz_newa 2 (atype := .boolean) (N' := 8) (hprim := fun _ _ h h2 => Option.some.inj (h.symm.trans h2)) hx hb (hts (.arrayClass .boolean) (by decide +kernel)) (ty := .boolean) rfl hK hP hD hS hA rfl (a0 := (8, .inl (fun _ => 0))) (fun _ => rfl) (by decide +kernel) (by decide +kernel) (by decide +kernel) (Nat.le_of_ble_eq_true rfl) (Nat.le_of_ble_eq_true rfl) dX8_init_7 (fun q1 H hP hD hS => ?_)
  refine W.widen (k := 1) (n := 8) (Nat.le_of_ble_eq_true rfl) (Nat.le_of_ble_eq_true rfl) ?_
  have hP : va_P (dC, dI) vwCl [(h0, .inr (8, [.int 0, .null, .null, .null, .long 0, .long 0, .null, .null, .null, .null, .null, .null, .null, .null, .null, .null, .null])), (q1, .inl (cZ, 8, .inl (fun _ => 0)))] H := hP
  have hD : va_D A [(h0, .inr (8, [.int 0, .null, .null, .null, .long 0, .long 0, .null, .null, .null, .null, .null, .null, .null, .null, .null, .null, .null])), (q1, .inl (cZ, 8, .inl (fun _ => 0)))] := hD
  refine va_putF (D := (dC, dI)) (ci := 8) (v := .ref q1) (ty := .array .boolean) (C := RX8) (T := TX8) (N := 17) hx hb hts hiX8 tyX8 tyX8_ok nmX8 hown hK hP hD hS 0 rfl rfl 1 (by decide) (hts (.fieldLink RX8 9 "MadeItSoModel" "isSeen" "[Z") (by decide +kernel)) (fun _ h9 => h9) rfl hin rfl (by decide +kernel) rfl rfl (Nat.le_of_ble_eq_true rfl) dX8_init_9 (fun H locs hP hD hS => ?_)
  have hP : va_P (dC, dI) vwCl [(h0, .inr (8, [.int 0, .ref q1, .null, .null, .long 0, .long 0, .null, .null, .null, .null, .null, .null, .null, .null, .null, .null, .null])), (q1, .inl (cZ, 8, .inl (fun _ => 0)))] H := hP
  have hD : va_D A [(h0, .inr (8, [.int 0, .ref q1, .null, .null, .long 0, .long 0, .null, .null, .null, .null, .null, .null, .null, .null, .null, .null, .null])), (q1, .inl (cZ, 8, .inl (fun _ => 0)))] := hD
  refine lv_aload_n hx hb dX8_init_12 rfl (lv_at hl 0 rfl) ?_
  refine lv_bipush (v := 8) hx hb dX8_init_13 (by decide +kernel) ?_
  refine mz_newa 0 (atype := .int) (N' := 8) (hprim := fun _ _ h h2 => Option.some.inj (h.symm.trans h2)) hx hb (hts (.arrayClass .int) (by decide +kernel)) (ty := .int) rfl hK hP hD hS hA rfl (a0 := (8, .inl (fun _ => 0))) (fun _ => rfl) (by decide +kernel) (by decide +kernel) (by decide +kernel) (Nat.le_of_ble_eq_true rfl) (Nat.le_of_ble_eq_true rfl) dX8_init_15 (fun q2 H hP hD hS => ?_)
  refine W.widen (k := 2) (n := 16) (Nat.le_of_ble_eq_true rfl) (Nat.le_of_ble_eq_true rfl) ?_
  have hP : va_P (dC, dI) vwCl [(h0, .inr (8, [.int 0, .ref q1, .null, .null, .long 0, .long 0, .null, .null, .null, .null, .null, .null, .null, .null, .null, .null, .null])), (q1, .inl (cZ, 8, .inl (fun _ => 0))), (q2, .inl (cI, 8, .inl (fun _ => 0)))] H := hP
  have hD : va_D A [(h0, .inr (8, [.int 0, .ref q1, .null, .null, .long 0, .long 0, .null, .null, .null, .null, .null, .null, .null, .null, .null, .null, .null])), (q1, .inl (cZ, 8, .inl (fun _ => 0))), (q2, .inl (cI, 8, .inl (fun _ => 0)))] := hD
  refine va_putF (D := (dC, dI)) (ci := 8) (v := .ref q2) (ty := .array .int) (C := RX8) (T := TX8) (N := 17) hx hb hts hiX8 tyX8 tyX8_ok nmX8 hown hK hP hD hS 0 rfl rfl 2 (by decide) (hts (.fieldLink RX8 13 "MadeItSoModel" "parents" "[I") (by decide +kernel)) (fun _ h9 => h9) rfl hin rfl (by decide +kernel) rfl rfl (Nat.le_of_ble_eq_true rfl) dX8_init_17 (fun H locs hP hD hS => ?_)
  have hP : va_P (dC, dI) vwCl [(h0, .inr (8, [.int 0, .ref q1, .ref q2, .null, .long 0, .long 0, .null, .null, .null, .null, .null, .null, .null, .null, .null, .null, .null])), (q1, .inl (cZ, 8, .inl (fun _ => 0))), (q2, .inl (cI, 8, .inl (fun _ => 0)))] H := hP
  have hD : va_D A [(h0, .inr (8, [.int 0, .ref q1, .ref q2, .null, .long 0, .long 0, .null, .null, .null, .null, .null, .null, .null, .null, .null, .null, .null])), (q1, .inl (cZ, 8, .inl (fun _ => 0))), (q2, .inl (cI, 8, .inl (fun _ => 0)))] := hD
  refine lv_aload_n hx hb dX8_init_20 rfl (lv_at hl 0 rfl) ?_
  refine lv_sipush (v := 1024) hx hb dX8_init_21 (by decide +kernel) ?_
  refine mz_newa 0 (atype := .int) (N' := 1024) (hprim := fun _ _ h h2 => Option.some.inj (h.symm.trans h2)) hx hb (hts (.arrayClass .int) (by decide +kernel)) (ty := .int) rfl hK hP hD hS hA rfl (a0 := (1024, .inl (fun _ => 0))) (fun _ => rfl) (by decide +kernel) (by decide +kernel) (by decide +kernel) (Nat.le_of_ble_eq_true rfl) (Nat.le_of_ble_eq_true rfl) dX8_init_24 (fun q3 H hP hD hS => ?_)
  refine W.widen (k := 3) (n := 1040) (Nat.le_of_ble_eq_true rfl) (Nat.le_of_ble_eq_true rfl) ?_
  have hP : va_P (dC, dI) vwCl [(h0, .inr (8, [.int 0, .ref q1, .ref q2, .null, .long 0, .long 0, .null, .null, .null, .null, .null, .null, .null, .null, .null, .null, .null])), (q1, .inl (cZ, 8, .inl (fun _ => 0))), (q2, .inl (cI, 8, .inl (fun _ => 0))), (q3, .inl (cI, 1024, .inl (fun _ => 0)))] H := hP
  have hD : va_D A [(h0, .inr (8, [.int 0, .ref q1, .ref q2, .null, .long 0, .long 0, .null, .null, .null, .null, .null, .null, .null, .null, .null, .null, .null])), (q1, .inl (cZ, 8, .inl (fun _ => 0))), (q2, .inl (cI, 8, .inl (fun _ => 0))), (q3, .inl (cI, 1024, .inl (fun _ => 0)))] := hD
  refine va_putF (D := (dC, dI)) (ci := 8) (v := .ref q3) (ty := .array .int) (C := RX8) (T := TX8) (N := 17) hx hb hts hiX8 tyX8 tyX8_ok nmX8 hown hK hP hD hS 0 rfl rfl 3 (by decide) (hts (.fieldLink RX8 17 "MadeItSoModel" "books" "[I") (by decide +kernel)) (fun _ h9 => h9) rfl hin rfl (by decide +kernel) rfl rfl (Nat.le_of_ble_eq_true rfl) dX8_init_26 (fun H locs hP hD hS => ?_)
  have hP : va_P (dC, dI) vwCl [(h0, .inr (8, [.int 0, .ref q1, .ref q2, .ref q3, .long 0, .long 0, .null, .null, .null, .null, .null, .null, .null, .null, .null, .null, .null])), (q1, .inl (cZ, 8, .inl (fun _ => 0))), (q2, .inl (cI, 8, .inl (fun _ => 0))), (q3, .inl (cI, 1024, .inl (fun _ => 0)))] H := hP
  have hD : va_D A [(h0, .inr (8, [.int 0, .ref q1, .ref q2, .ref q3, .long 0, .long 0, .null, .null, .null, .null, .null, .null, .null, .null, .null, .null, .null])), (q1, .inl (cZ, 8, .inl (fun _ => 0))), (q2, .inl (cI, 8, .inl (fun _ => 0))), (q3, .inl (cI, 1024, .inl (fun _ => 0)))] := hD
  refine lv_aload_n hx hb dX8_init_29 rfl (lv_at hl 0 rfl) ?_
  refine lv_lconst (v := 1) hx hb dX8_init_30 (by decide +kernel) ?_
  refine va_put (D := (dC, dI)) (ci := 8) (v := .long 1) (ty := .long) (C := RX8) (T := TX8) (N := 17) hx hb hts hiX8 tyX8 tyX8_ok nmX8 hown hK hP hD hS 0 rfl rfl 5 (by decide) (hts (.fieldLink RX8 20 "MadeItSoModel" "below" "J") (by decide +kernel)) (fun _ h9 => h9) rfl (by decide +kernel) rfl rfl (Nat.le_of_ble_eq_true rfl) dX8_init_31 (fun H locs hP hD hS => ?_)
  have hP : va_P (dC, dI) vwCl [(h0, .inr (8, [.int 0, .ref q1, .ref q2, .ref q3, .long 0, .long 1, .null, .null, .null, .null, .null, .null, .null, .null, .null, .null, .null])), (q1, .inl (cZ, 8, .inl (fun _ => 0))), (q2, .inl (cI, 8, .inl (fun _ => 0))), (q3, .inl (cI, 1024, .inl (fun _ => 0)))] H := hP
  have hD : va_D A [(h0, .inr (8, [.int 0, .ref q1, .ref q2, .ref q3, .long 0, .long 1, .null, .null, .null, .null, .null, .null, .null, .null, .null, .null, .null])), (q1, .inl (cZ, 8, .inl (fun _ => 0))), (q2, .inl (cI, 8, .inl (fun _ => 0))), (q3, .inl (cI, 1024, .inl (fun _ => 0)))] := hD
  refine lv_aload_n hx hb dX8_init_34 rfl (lv_at hl 0 rfl) ?_
  refine lv_bipush (v := 8) hx hb dX8_init_35 (by decide +kernel) ?_
  refine mz_newa 0 (atype := .int) (N' := 8) (hprim := fun _ _ h h2 => Option.some.inj (h.symm.trans h2)) hx hb (hts (.arrayClass .int) (by decide +kernel)) (ty := .int) rfl hK hP hD hS hA rfl (a0 := (8, .inl (fun _ => 0))) (fun _ => rfl) (by decide +kernel) (by decide +kernel) (by decide +kernel) (Nat.le_of_ble_eq_true rfl) (Nat.le_of_ble_eq_true rfl) dX8_init_37 (fun q4 H hP hD hS => ?_)
  refine W.widen (k := 4) (n := 1048) (Nat.le_of_ble_eq_true rfl) (Nat.le_of_ble_eq_true rfl) ?_
  have hP : va_P (dC, dI) vwCl [(h0, .inr (8, [.int 0, .ref q1, .ref q2, .ref q3, .long 0, .long 1, .null, .null, .null, .null, .null, .null, .null, .null, .null, .null, .null])), (q1, .inl (cZ, 8, .inl (fun _ => 0))), (q2, .inl (cI, 8, .inl (fun _ => 0))), (q3, .inl (cI, 1024, .inl (fun _ => 0))), (q4, .inl (cI, 8, .inl (fun _ => 0)))] H := hP
  have hD : va_D A [(h0, .inr (8, [.int 0, .ref q1, .ref q2, .ref q3, .long 0, .long 1, .null, .null, .null, .null, .null, .null, .null, .null, .null, .null, .null])), (q1, .inl (cZ, 8, .inl (fun _ => 0))), (q2, .inl (cI, 8, .inl (fun _ => 0))), (q3, .inl (cI, 1024, .inl (fun _ => 0))), (q4, .inl (cI, 8, .inl (fun _ => 0)))] := hD
  refine va_putF (D := (dC, dI)) (ci := 8) (v := .ref q4) (ty := .array .int) (C := RX8) (T := TX8) (N := 17) hx hb hts hiX8 tyX8 tyX8_ok nmX8 hown hK hP hD hS 0 rfl rfl 6 (by decide) (hts (.fieldLink RX8 24 "MadeItSoModel" "way" "[I") (by decide +kernel)) (fun _ h9 => h9) rfl hin rfl (by decide +kernel) rfl rfl (Nat.le_of_ble_eq_true rfl) dX8_init_39 (fun H locs hP hD hS => ?_)
  have hP : va_P (dC, dI) vwCl [(h0, .inr (8, [.int 0, .ref q1, .ref q2, .ref q3, .long 0, .long 1, .ref q4, .null, .null, .null, .null, .null, .null, .null, .null, .null, .null])), (q1, .inl (cZ, 8, .inl (fun _ => 0))), (q2, .inl (cI, 8, .inl (fun _ => 0))), (q3, .inl (cI, 1024, .inl (fun _ => 0))), (q4, .inl (cI, 8, .inl (fun _ => 0)))] H := hP
  have hD : va_D A [(h0, .inr (8, [.int 0, .ref q1, .ref q2, .ref q3, .long 0, .long 1, .ref q4, .null, .null, .null, .null, .null, .null, .null, .null, .null, .null])), (q1, .inl (cZ, 8, .inl (fun _ => 0))), (q2, .inl (cI, 8, .inl (fun _ => 0))), (q3, .inl (cI, 1024, .inl (fun _ => 0))), (q4, .inl (cI, 8, .inl (fun _ => 0)))] := hD
  refine lv_aload_n hx hb dX8_init_42 rfl (lv_at hl 0 rfl) ?_
  refine lv_bipush (v := 9) hx hb dX8_init_43 (by decide +kernel) ?_
  refine mz_newa 0 (atype := .int) (N' := 9) (hprim := fun _ _ h h2 => Option.some.inj (h.symm.trans h2)) hx hb (hts (.arrayClass .int) (by decide +kernel)) (ty := .int) rfl hK hP hD hS hA rfl (a0 := (9, .inl (fun _ => 0))) (fun _ => rfl) (by decide +kernel) (by decide +kernel) (by decide +kernel) (Nat.le_of_ble_eq_true rfl) (Nat.le_of_ble_eq_true rfl) dX8_init_45 (fun q5 H hP hD hS => ?_)
  refine W.widen (k := 5) (n := 1057) (Nat.le_of_ble_eq_true rfl) (Nat.le_of_ble_eq_true rfl) ?_
  have hP : va_P (dC, dI) vwCl [(h0, .inr (8, [.int 0, .ref q1, .ref q2, .ref q3, .long 0, .long 1, .ref q4, .null, .null, .null, .null, .null, .null, .null, .null, .null, .null])), (q1, .inl (cZ, 8, .inl (fun _ => 0))), (q2, .inl (cI, 8, .inl (fun _ => 0))), (q3, .inl (cI, 1024, .inl (fun _ => 0))), (q4, .inl (cI, 8, .inl (fun _ => 0))), (q5, .inl (cI, 9, .inl (fun _ => 0)))] H := hP
  have hD : va_D A [(h0, .inr (8, [.int 0, .ref q1, .ref q2, .ref q3, .long 0, .long 1, .ref q4, .null, .null, .null, .null, .null, .null, .null, .null, .null, .null])), (q1, .inl (cZ, 8, .inl (fun _ => 0))), (q2, .inl (cI, 8, .inl (fun _ => 0))), (q3, .inl (cI, 1024, .inl (fun _ => 0))), (q4, .inl (cI, 8, .inl (fun _ => 0))), (q5, .inl (cI, 9, .inl (fun _ => 0)))] := hD
  refine va_putF (D := (dC, dI)) (ci := 8) (v := .ref q5) (ty := .array .int) (C := RX8) (T := TX8) (N := 17) hx hb hts hiX8 tyX8 tyX8_ok nmX8 hown hK hP hD hS 0 rfl rfl 7 (by decide) (hts (.fieldLink RX8 27 "MadeItSoModel" "tried" "[I") (by decide +kernel)) (fun _ h9 => h9) rfl hin rfl (by decide +kernel) rfl rfl (Nat.le_of_ble_eq_true rfl) dX8_init_47 (fun H locs hP hD hS => ?_)
  have hP : va_P (dC, dI) vwCl [(h0, .inr (8, [.int 0, .ref q1, .ref q2, .ref q3, .long 0, .long 1, .ref q4, .ref q5, .null, .null, .null, .null, .null, .null, .null, .null, .null])), (q1, .inl (cZ, 8, .inl (fun _ => 0))), (q2, .inl (cI, 8, .inl (fun _ => 0))), (q3, .inl (cI, 1024, .inl (fun _ => 0))), (q4, .inl (cI, 8, .inl (fun _ => 0))), (q5, .inl (cI, 9, .inl (fun _ => 0)))] H := hP
  have hD : va_D A [(h0, .inr (8, [.int 0, .ref q1, .ref q2, .ref q3, .long 0, .long 1, .ref q4, .ref q5, .null, .null, .null, .null, .null, .null, .null, .null, .null])), (q1, .inl (cZ, 8, .inl (fun _ => 0))), (q2, .inl (cI, 8, .inl (fun _ => 0))), (q3, .inl (cI, 1024, .inl (fun _ => 0))), (q4, .inl (cI, 8, .inl (fun _ => 0))), (q5, .inl (cI, 9, .inl (fun _ => 0)))] := hD
  refine lv_aload_n hx hb dX8_init_50 rfl (lv_at hl 0 rfl) ?_
  refine lv_sipush (v := 256) hx hb dX8_init_51 (by decide +kernel) ?_
  refine mz_newa 2 (atype := .boolean) (N' := 256) (hprim := fun _ _ h h2 => Option.some.inj (h.symm.trans h2)) hx hb (hts (.arrayClass .boolean) (by decide +kernel)) (ty := .boolean) rfl hK hP hD hS hA rfl (a0 := (256, .inl (fun _ => 0))) (fun _ => rfl) (by decide +kernel) (by decide +kernel) (by decide +kernel) (Nat.le_of_ble_eq_true rfl) (Nat.le_of_ble_eq_true rfl) dX8_init_54 (fun q6 H hP hD hS => ?_)
  refine W.widen (k := 6) (n := 1313) (Nat.le_of_ble_eq_true rfl) (Nat.le_of_ble_eq_true rfl) ?_
  have hP : va_P (dC, dI) vwCl [(h0, .inr (8, [.int 0, .ref q1, .ref q2, .ref q3, .long 0, .long 1, .ref q4, .ref q5, .null, .null, .null, .null, .null, .null, .null, .null, .null])), (q1, .inl (cZ, 8, .inl (fun _ => 0))), (q2, .inl (cI, 8, .inl (fun _ => 0))), (q3, .inl (cI, 1024, .inl (fun _ => 0))), (q4, .inl (cI, 8, .inl (fun _ => 0))), (q5, .inl (cI, 9, .inl (fun _ => 0))), (q6, .inl (cZ, 256, .inl (fun _ => 0)))] H := hP
  have hD : va_D A [(h0, .inr (8, [.int 0, .ref q1, .ref q2, .ref q3, .long 0, .long 1, .ref q4, .ref q5, .null, .null, .null, .null, .null, .null, .null, .null, .null])), (q1, .inl (cZ, 8, .inl (fun _ => 0))), (q2, .inl (cI, 8, .inl (fun _ => 0))), (q3, .inl (cI, 1024, .inl (fun _ => 0))), (q4, .inl (cI, 8, .inl (fun _ => 0))), (q5, .inl (cI, 9, .inl (fun _ => 0))), (q6, .inl (cZ, 256, .inl (fun _ => 0)))] := hD
  refine va_putF (D := (dC, dI)) (ci := 8) (v := .ref q6) (ty := .array .boolean) (C := RX8) (T := TX8) (N := 17) hx hb hts hiX8 tyX8 tyX8_ok nmX8 hown hK hP hD hS 0 rfl rfl 8 (by decide) (hts (.fieldLink RX8 30 "MadeItSoModel" "isBarring" "[Z") (by decide +kernel)) (fun _ h9 => h9) rfl hin rfl (by decide +kernel) rfl rfl (Nat.le_of_ble_eq_true rfl) dX8_init_56 (fun H locs hP hD hS => ?_)
  have hP : va_P (dC, dI) vwCl [(h0, .inr (8, [.int 0, .ref q1, .ref q2, .ref q3, .long 0, .long 1, .ref q4, .ref q5, .ref q6, .null, .null, .null, .null, .null, .null, .null, .null])), (q1, .inl (cZ, 8, .inl (fun _ => 0))), (q2, .inl (cI, 8, .inl (fun _ => 0))), (q3, .inl (cI, 1024, .inl (fun _ => 0))), (q4, .inl (cI, 8, .inl (fun _ => 0))), (q5, .inl (cI, 9, .inl (fun _ => 0))), (q6, .inl (cZ, 256, .inl (fun _ => 0)))] H := hP
  have hD : va_D A [(h0, .inr (8, [.int 0, .ref q1, .ref q2, .ref q3, .long 0, .long 1, .ref q4, .ref q5, .ref q6, .null, .null, .null, .null, .null, .null, .null, .null])), (q1, .inl (cZ, 8, .inl (fun _ => 0))), (q2, .inl (cI, 8, .inl (fun _ => 0))), (q3, .inl (cI, 1024, .inl (fun _ => 0))), (q4, .inl (cI, 8, .inl (fun _ => 0))), (q5, .inl (cI, 9, .inl (fun _ => 0))), (q6, .inl (cZ, 256, .inl (fun _ => 0)))] := hD
  refine lv_aload_n hx hb dX8_init_59 rfl (lv_at hl 0 rfl) ?_
  refine lv_sipush (v := 200) hx hb dX8_init_60 (by decide +kernel) ?_
  refine mz_newa 1 (atype := .long) (N' := 200) (hprim := fun _ _ h h2 => Option.some.inj (h.symm.trans h2)) hx hb (hts (.arrayClass .long) (by decide +kernel)) (ty := .long) rfl hK hP hD hS hA rfl (a0 := (200, .inr (.inl (fun _ => 0)))) (fun _ => rfl) (by decide +kernel) (by decide +kernel) (by decide +kernel) (Nat.le_of_ble_eq_true rfl) (Nat.le_of_ble_eq_true rfl) dX8_init_63 (fun q7 H hP hD hS => ?_)
  refine W.widen (k := 7) (n := 1513) (Nat.le_of_ble_eq_true rfl) (Nat.le_of_ble_eq_true rfl) ?_
  have hP : va_P (dC, dI) vwCl [(h0, .inr (8, [.int 0, .ref q1, .ref q2, .ref q3, .long 0, .long 1, .ref q4, .ref q5, .ref q6, .null, .null, .null, .null, .null, .null, .null, .null])), (q1, .inl (cZ, 8, .inl (fun _ => 0))), (q2, .inl (cI, 8, .inl (fun _ => 0))), (q3, .inl (cI, 1024, .inl (fun _ => 0))), (q4, .inl (cI, 8, .inl (fun _ => 0))), (q5, .inl (cI, 9, .inl (fun _ => 0))), (q6, .inl (cZ, 256, .inl (fun _ => 0))), (q7, .inl (cJ, 200, .inr (.inl (fun _ => 0))))] H := hP
  have hD : va_D A [(h0, .inr (8, [.int 0, .ref q1, .ref q2, .ref q3, .long 0, .long 1, .ref q4, .ref q5, .ref q6, .null, .null, .null, .null, .null, .null, .null, .null])), (q1, .inl (cZ, 8, .inl (fun _ => 0))), (q2, .inl (cI, 8, .inl (fun _ => 0))), (q3, .inl (cI, 1024, .inl (fun _ => 0))), (q4, .inl (cI, 8, .inl (fun _ => 0))), (q5, .inl (cI, 9, .inl (fun _ => 0))), (q6, .inl (cZ, 256, .inl (fun _ => 0))), (q7, .inl (cJ, 200, .inr (.inl (fun _ => 0))))] := hD
  refine va_putF (D := (dC, dI)) (ci := 8) (v := .ref q7) (ty := .array .long) (C := RX8) (T := TX8) (N := 17) hx hb hts hiX8 tyX8 tyX8_ok nmX8 hown hK hP hD hS 0 rfl rfl 9 (by decide) (hts (.fieldLink RX8 33 "MadeItSoModel" "up" "[J") (by decide +kernel)) (fun _ h9 => h9) rfl hin rfl (by decide +kernel) rfl rfl (Nat.le_of_ble_eq_true rfl) dX8_init_65 (fun H locs hP hD hS => ?_)
  have hP : va_P (dC, dI) vwCl [(h0, .inr (8, [.int 0, .ref q1, .ref q2, .ref q3, .long 0, .long 1, .ref q4, .ref q5, .ref q6, .ref q7, .null, .null, .null, .null, .null, .null, .null])), (q1, .inl (cZ, 8, .inl (fun _ => 0))), (q2, .inl (cI, 8, .inl (fun _ => 0))), (q3, .inl (cI, 1024, .inl (fun _ => 0))), (q4, .inl (cI, 8, .inl (fun _ => 0))), (q5, .inl (cI, 9, .inl (fun _ => 0))), (q6, .inl (cZ, 256, .inl (fun _ => 0))), (q7, .inl (cJ, 200, .inr (.inl (fun _ => 0))))] H := hP
  have hD : va_D A [(h0, .inr (8, [.int 0, .ref q1, .ref q2, .ref q3, .long 0, .long 1, .ref q4, .ref q5, .ref q6, .ref q7, .null, .null, .null, .null, .null, .null, .null])), (q1, .inl (cZ, 8, .inl (fun _ => 0))), (q2, .inl (cI, 8, .inl (fun _ => 0))), (q3, .inl (cI, 1024, .inl (fun _ => 0))), (q4, .inl (cI, 8, .inl (fun _ => 0))), (q5, .inl (cI, 9, .inl (fun _ => 0))), (q6, .inl (cZ, 256, .inl (fun _ => 0))), (q7, .inl (cJ, 200, .inr (.inl (fun _ => 0))))] := hD
  refine lv_aload_n hx hb dX8_init_68 rfl (lv_at hl 0 rfl) ?_
  refine lv_sipush (v := 200) hx hb dX8_init_69 (by decide +kernel) ?_
  refine mz_newa 1 (atype := .long) (N' := 200) (hprim := fun _ _ h h2 => Option.some.inj (h.symm.trans h2)) hx hb (hts (.arrayClass .long) (by decide +kernel)) (ty := .long) rfl hK hP hD hS hA rfl (a0 := (200, .inr (.inl (fun _ => 0)))) (fun _ => rfl) (by decide +kernel) (by decide +kernel) (by decide +kernel) (Nat.le_of_ble_eq_true rfl) (Nat.le_of_ble_eq_true rfl) dX8_init_72 (fun q8 H hP hD hS => ?_)
  refine W.widen (k := 8) (n := 1713) (Nat.le_of_ble_eq_true rfl) (Nat.le_of_ble_eq_true rfl) ?_
  have hP : va_P (dC, dI) vwCl [(h0, .inr (8, [.int 0, .ref q1, .ref q2, .ref q3, .long 0, .long 1, .ref q4, .ref q5, .ref q6, .ref q7, .null, .null, .null, .null, .null, .null, .null])), (q1, .inl (cZ, 8, .inl (fun _ => 0))), (q2, .inl (cI, 8, .inl (fun _ => 0))), (q3, .inl (cI, 1024, .inl (fun _ => 0))), (q4, .inl (cI, 8, .inl (fun _ => 0))), (q5, .inl (cI, 9, .inl (fun _ => 0))), (q6, .inl (cZ, 256, .inl (fun _ => 0))), (q7, .inl (cJ, 200, .inr (.inl (fun _ => 0)))), (q8, .inl (cJ, 200, .inr (.inl (fun _ => 0))))] H := hP
  have hD : va_D A [(h0, .inr (8, [.int 0, .ref q1, .ref q2, .ref q3, .long 0, .long 1, .ref q4, .ref q5, .ref q6, .ref q7, .null, .null, .null, .null, .null, .null, .null])), (q1, .inl (cZ, 8, .inl (fun _ => 0))), (q2, .inl (cI, 8, .inl (fun _ => 0))), (q3, .inl (cI, 1024, .inl (fun _ => 0))), (q4, .inl (cI, 8, .inl (fun _ => 0))), (q5, .inl (cI, 9, .inl (fun _ => 0))), (q6, .inl (cZ, 256, .inl (fun _ => 0))), (q7, .inl (cJ, 200, .inr (.inl (fun _ => 0)))), (q8, .inl (cJ, 200, .inr (.inl (fun _ => 0))))] := hD
  refine va_putF (D := (dC, dI)) (ci := 8) (v := .ref q8) (ty := .array .long) (C := RX8) (T := TX8) (N := 17) hx hb hts hiX8 tyX8 tyX8_ok nmX8 hown hK hP hD hS 0 rfl rfl 10 (by decide) (hts (.fieldLink RX8 37 "MadeItSoModel" "down" "[J") (by decide +kernel)) (fun _ h9 => h9) rfl hin rfl (by decide +kernel) rfl rfl (Nat.le_of_ble_eq_true rfl) dX8_init_74 (fun H locs hP hD hS => ?_)
  have hP : va_P (dC, dI) vwCl [(h0, .inr (8, [.int 0, .ref q1, .ref q2, .ref q3, .long 0, .long 1, .ref q4, .ref q5, .ref q6, .ref q7, .ref q8, .null, .null, .null, .null, .null, .null])), (q1, .inl (cZ, 8, .inl (fun _ => 0))), (q2, .inl (cI, 8, .inl (fun _ => 0))), (q3, .inl (cI, 1024, .inl (fun _ => 0))), (q4, .inl (cI, 8, .inl (fun _ => 0))), (q5, .inl (cI, 9, .inl (fun _ => 0))), (q6, .inl (cZ, 256, .inl (fun _ => 0))), (q7, .inl (cJ, 200, .inr (.inl (fun _ => 0)))), (q8, .inl (cJ, 200, .inr (.inl (fun _ => 0))))] H := hP
  have hD : va_D A [(h0, .inr (8, [.int 0, .ref q1, .ref q2, .ref q3, .long 0, .long 1, .ref q4, .ref q5, .ref q6, .ref q7, .ref q8, .null, .null, .null, .null, .null, .null])), (q1, .inl (cZ, 8, .inl (fun _ => 0))), (q2, .inl (cI, 8, .inl (fun _ => 0))), (q3, .inl (cI, 1024, .inl (fun _ => 0))), (q4, .inl (cI, 8, .inl (fun _ => 0))), (q5, .inl (cI, 9, .inl (fun _ => 0))), (q6, .inl (cZ, 256, .inl (fun _ => 0))), (q7, .inl (cJ, 200, .inr (.inl (fun _ => 0)))), (q8, .inl (cJ, 200, .inr (.inl (fun _ => 0))))] := hD
  refine lv_aload_n hx hb dX8_init_77 rfl (lv_at hl 0 rfl) ?_
  refine lv_sipush (v := 200) hx hb dX8_init_78 (by decide +kernel) ?_
  refine mz_newa 1 (atype := .long) (N' := 200) (hprim := fun _ _ h h2 => Option.some.inj (h.symm.trans h2)) hx hb (hts (.arrayClass .long) (by decide +kernel)) (ty := .long) rfl hK hP hD hS hA rfl (a0 := (200, .inr (.inl (fun _ => 0)))) (fun _ => rfl) (by decide +kernel) (by decide +kernel) (by decide +kernel) (Nat.le_of_ble_eq_true rfl) (Nat.le_of_ble_eq_true rfl) dX8_init_81 (fun q9 H hP hD hS => ?_)
  refine W.widen (k := 9) (n := 1913) (Nat.le_of_ble_eq_true rfl) (Nat.le_of_ble_eq_true rfl) ?_
  have hP : va_P (dC, dI) vwCl [(h0, .inr (8, [.int 0, .ref q1, .ref q2, .ref q3, .long 0, .long 1, .ref q4, .ref q5, .ref q6, .ref q7, .ref q8, .null, .null, .null, .null, .null, .null])), (q1, .inl (cZ, 8, .inl (fun _ => 0))), (q2, .inl (cI, 8, .inl (fun _ => 0))), (q3, .inl (cI, 1024, .inl (fun _ => 0))), (q4, .inl (cI, 8, .inl (fun _ => 0))), (q5, .inl (cI, 9, .inl (fun _ => 0))), (q6, .inl (cZ, 256, .inl (fun _ => 0))), (q7, .inl (cJ, 200, .inr (.inl (fun _ => 0)))), (q8, .inl (cJ, 200, .inr (.inl (fun _ => 0)))), (q9, .inl (cJ, 200, .inr (.inl (fun _ => 0))))] H := hP
  have hD : va_D A [(h0, .inr (8, [.int 0, .ref q1, .ref q2, .ref q3, .long 0, .long 1, .ref q4, .ref q5, .ref q6, .ref q7, .ref q8, .null, .null, .null, .null, .null, .null])), (q1, .inl (cZ, 8, .inl (fun _ => 0))), (q2, .inl (cI, 8, .inl (fun _ => 0))), (q3, .inl (cI, 1024, .inl (fun _ => 0))), (q4, .inl (cI, 8, .inl (fun _ => 0))), (q5, .inl (cI, 9, .inl (fun _ => 0))), (q6, .inl (cZ, 256, .inl (fun _ => 0))), (q7, .inl (cJ, 200, .inr (.inl (fun _ => 0)))), (q8, .inl (cJ, 200, .inr (.inl (fun _ => 0)))), (q9, .inl (cJ, 200, .inr (.inl (fun _ => 0))))] := hD
  refine va_putF (D := (dC, dI)) (ci := 8) (v := .ref q9) (ty := .array .long) (C := RX8) (T := TX8) (N := 17) hx hb hts hiX8 tyX8 tyX8_ok nmX8 hown hK hP hD hS 0 rfl rfl 11 (by decide) (hts (.fieldLink RX8 40 "MadeItSoModel" "helper" "[J") (by decide +kernel)) (fun _ h9 => h9) rfl hin rfl (by decide +kernel) rfl rfl (Nat.le_of_ble_eq_true rfl) dX8_init_83 (fun H locs hP hD hS => ?_)
  have hP : va_P (dC, dI) vwCl [(h0, .inr (8, [.int 0, .ref q1, .ref q2, .ref q3, .long 0, .long 1, .ref q4, .ref q5, .ref q6, .ref q7, .ref q8, .ref q9, .null, .null, .null, .null, .null])), (q1, .inl (cZ, 8, .inl (fun _ => 0))), (q2, .inl (cI, 8, .inl (fun _ => 0))), (q3, .inl (cI, 1024, .inl (fun _ => 0))), (q4, .inl (cI, 8, .inl (fun _ => 0))), (q5, .inl (cI, 9, .inl (fun _ => 0))), (q6, .inl (cZ, 256, .inl (fun _ => 0))), (q7, .inl (cJ, 200, .inr (.inl (fun _ => 0)))), (q8, .inl (cJ, 200, .inr (.inl (fun _ => 0)))), (q9, .inl (cJ, 200, .inr (.inl (fun _ => 0))))] H := hP
  have hD : va_D A [(h0, .inr (8, [.int 0, .ref q1, .ref q2, .ref q3, .long 0, .long 1, .ref q4, .ref q5, .ref q6, .ref q7, .ref q8, .ref q9, .null, .null, .null, .null, .null])), (q1, .inl (cZ, 8, .inl (fun _ => 0))), (q2, .inl (cI, 8, .inl (fun _ => 0))), (q3, .inl (cI, 1024, .inl (fun _ => 0))), (q4, .inl (cI, 8, .inl (fun _ => 0))), (q5, .inl (cI, 9, .inl (fun _ => 0))), (q6, .inl (cZ, 256, .inl (fun _ => 0))), (q7, .inl (cJ, 200, .inr (.inl (fun _ => 0)))), (q8, .inl (cJ, 200, .inr (.inl (fun _ => 0)))), (q9, .inl (cJ, 200, .inr (.inl (fun _ => 0))))] := hD
  refine lv_aload_n hx hb dX8_init_86 rfl (lv_at hl 0 rfl) ?_
  refine lv_bipush (v := 8) hx hb dX8_init_87 (by decide +kernel) ?_
  refine mz_newa 0 (atype := .int) (N' := 8) (hprim := fun _ _ h h2 => Option.some.inj (h.symm.trans h2)) hx hb (hts (.arrayClass .int) (by decide +kernel)) (ty := .int) rfl hK hP hD hS hA rfl (a0 := (8, .inl (fun _ => 0))) (fun _ => rfl) (by decide +kernel) (by decide +kernel) (by decide +kernel) (Nat.le_of_ble_eq_true rfl) (Nat.le_of_ble_eq_true rfl) dX8_init_89 (fun q10 H hP hD hS => ?_)
  refine W.widen (k := 10) (n := 1921) (Nat.le_of_ble_eq_true rfl) (Nat.le_of_ble_eq_true rfl) ?_
  have hP : va_P (dC, dI) vwCl [(h0, .inr (8, [.int 0, .ref q1, .ref q2, .ref q3, .long 0, .long 1, .ref q4, .ref q5, .ref q6, .ref q7, .ref q8, .ref q9, .null, .null, .null, .null, .null])), (q1, .inl (cZ, 8, .inl (fun _ => 0))), (q2, .inl (cI, 8, .inl (fun _ => 0))), (q3, .inl (cI, 1024, .inl (fun _ => 0))), (q4, .inl (cI, 8, .inl (fun _ => 0))), (q5, .inl (cI, 9, .inl (fun _ => 0))), (q6, .inl (cZ, 256, .inl (fun _ => 0))), (q7, .inl (cJ, 200, .inr (.inl (fun _ => 0)))), (q8, .inl (cJ, 200, .inr (.inl (fun _ => 0)))), (q9, .inl (cJ, 200, .inr (.inl (fun _ => 0)))), (q10, .inl (cI, 8, .inl (fun _ => 0)))] H := hP
  have hD : va_D A [(h0, .inr (8, [.int 0, .ref q1, .ref q2, .ref q3, .long 0, .long 1, .ref q4, .ref q5, .ref q6, .ref q7, .ref q8, .ref q9, .null, .null, .null, .null, .null])), (q1, .inl (cZ, 8, .inl (fun _ => 0))), (q2, .inl (cI, 8, .inl (fun _ => 0))), (q3, .inl (cI, 1024, .inl (fun _ => 0))), (q4, .inl (cI, 8, .inl (fun _ => 0))), (q5, .inl (cI, 9, .inl (fun _ => 0))), (q6, .inl (cZ, 256, .inl (fun _ => 0))), (q7, .inl (cJ, 200, .inr (.inl (fun _ => 0)))), (q8, .inl (cJ, 200, .inr (.inl (fun _ => 0)))), (q9, .inl (cJ, 200, .inr (.inl (fun _ => 0)))), (q10, .inl (cI, 8, .inl (fun _ => 0)))] := hD
  refine va_putF (D := (dC, dI)) (ci := 8) (v := .ref q10) (ty := .array .int) (C := RX8) (T := TX8) (N := 17) hx hb hts hiX8 tyX8 tyX8_ok nmX8 hown hK hP hD hS 0 rfl rfl 12 (by decide) (hts (.fieldLink RX8 43 "MadeItSoModel" "order" "[I") (by decide +kernel)) (fun _ h9 => h9) rfl hin rfl (by decide +kernel) rfl rfl (Nat.le_of_ble_eq_true rfl) dX8_init_91 (fun H locs hP hD hS => ?_)
  have hP : va_P (dC, dI) vwCl [(h0, .inr (8, [.int 0, .ref q1, .ref q2, .ref q3, .long 0, .long 1, .ref q4, .ref q5, .ref q6, .ref q7, .ref q8, .ref q9, .ref q10, .null, .null, .null, .null])), (q1, .inl (cZ, 8, .inl (fun _ => 0))), (q2, .inl (cI, 8, .inl (fun _ => 0))), (q3, .inl (cI, 1024, .inl (fun _ => 0))), (q4, .inl (cI, 8, .inl (fun _ => 0))), (q5, .inl (cI, 9, .inl (fun _ => 0))), (q6, .inl (cZ, 256, .inl (fun _ => 0))), (q7, .inl (cJ, 200, .inr (.inl (fun _ => 0)))), (q8, .inl (cJ, 200, .inr (.inl (fun _ => 0)))), (q9, .inl (cJ, 200, .inr (.inl (fun _ => 0)))), (q10, .inl (cI, 8, .inl (fun _ => 0)))] H := hP
  have hD : va_D A [(h0, .inr (8, [.int 0, .ref q1, .ref q2, .ref q3, .long 0, .long 1, .ref q4, .ref q5, .ref q6, .ref q7, .ref q8, .ref q9, .ref q10, .null, .null, .null, .null])), (q1, .inl (cZ, 8, .inl (fun _ => 0))), (q2, .inl (cI, 8, .inl (fun _ => 0))), (q3, .inl (cI, 1024, .inl (fun _ => 0))), (q4, .inl (cI, 8, .inl (fun _ => 0))), (q5, .inl (cI, 9, .inl (fun _ => 0))), (q6, .inl (cZ, 256, .inl (fun _ => 0))), (q7, .inl (cJ, 200, .inr (.inl (fun _ => 0)))), (q8, .inl (cJ, 200, .inr (.inl (fun _ => 0)))), (q9, .inl (cJ, 200, .inr (.inl (fun _ => 0)))), (q10, .inl (cI, 8, .inl (fun _ => 0)))] := hD
  refine lv_aload_n hx hb dX8_init_94 rfl (lv_at hl 0 rfl) ?_
  refine lv_bipush (v := 9) hx hb dX8_init_95 (by decide +kernel) ?_
  refine mz_newa 0 (atype := .int) (N' := 9) (hprim := fun _ _ h h2 => Option.some.inj (h.symm.trans h2)) hx hb (hts (.arrayClass .int) (by decide +kernel)) (ty := .int) rfl hK hP hD hS hA rfl (a0 := (9, .inl (fun _ => 0))) (fun _ => rfl) (by decide +kernel) (by decide +kernel) (by decide +kernel) (Nat.le_of_ble_eq_true rfl) (Nat.le_of_ble_eq_true rfl) dX8_init_97 (fun q11 H hP hD hS => ?_)
  refine W.widen (k := 11) (n := 1930) (Nat.le_of_ble_eq_true rfl) (Nat.le_of_ble_eq_true rfl) ?_
  have hP : va_P (dC, dI) vwCl [(h0, .inr (8, [.int 0, .ref q1, .ref q2, .ref q3, .long 0, .long 1, .ref q4, .ref q5, .ref q6, .ref q7, .ref q8, .ref q9, .ref q10, .null, .null, .null, .null])), (q1, .inl (cZ, 8, .inl (fun _ => 0))), (q2, .inl (cI, 8, .inl (fun _ => 0))), (q3, .inl (cI, 1024, .inl (fun _ => 0))), (q4, .inl (cI, 8, .inl (fun _ => 0))), (q5, .inl (cI, 9, .inl (fun _ => 0))), (q6, .inl (cZ, 256, .inl (fun _ => 0))), (q7, .inl (cJ, 200, .inr (.inl (fun _ => 0)))), (q8, .inl (cJ, 200, .inr (.inl (fun _ => 0)))), (q9, .inl (cJ, 200, .inr (.inl (fun _ => 0)))), (q10, .inl (cI, 8, .inl (fun _ => 0))), (q11, .inl (cI, 9, .inl (fun _ => 0)))] H := hP
  have hD : va_D A [(h0, .inr (8, [.int 0, .ref q1, .ref q2, .ref q3, .long 0, .long 1, .ref q4, .ref q5, .ref q6, .ref q7, .ref q8, .ref q9, .ref q10, .null, .null, .null, .null])), (q1, .inl (cZ, 8, .inl (fun _ => 0))), (q2, .inl (cI, 8, .inl (fun _ => 0))), (q3, .inl (cI, 1024, .inl (fun _ => 0))), (q4, .inl (cI, 8, .inl (fun _ => 0))), (q5, .inl (cI, 9, .inl (fun _ => 0))), (q6, .inl (cZ, 256, .inl (fun _ => 0))), (q7, .inl (cJ, 200, .inr (.inl (fun _ => 0)))), (q8, .inl (cJ, 200, .inr (.inl (fun _ => 0)))), (q9, .inl (cJ, 200, .inr (.inl (fun _ => 0)))), (q10, .inl (cI, 8, .inl (fun _ => 0))), (q11, .inl (cI, 9, .inl (fun _ => 0)))] := hD
  refine va_putF (D := (dC, dI)) (ci := 8) (v := .ref q11) (ty := .array .int) (C := RX8) (T := TX8) (N := 17) hx hb hts hiX8 tyX8 tyX8_ok nmX8 hown hK hP hD hS 0 rfl rfl 13 (by decide) (hts (.fieldLink RX8 46 "MadeItSoModel" "choice" "[I") (by decide +kernel)) (fun _ h9 => h9) rfl hin rfl (by decide +kernel) rfl rfl (Nat.le_of_ble_eq_true rfl) dX8_init_99 (fun H locs hP hD hS => ?_)
  have hP : va_P (dC, dI) vwCl [(h0, .inr (8, [.int 0, .ref q1, .ref q2, .ref q3, .long 0, .long 1, .ref q4, .ref q5, .ref q6, .ref q7, .ref q8, .ref q9, .ref q10, .ref q11, .null, .null, .null])), (q1, .inl (cZ, 8, .inl (fun _ => 0))), (q2, .inl (cI, 8, .inl (fun _ => 0))), (q3, .inl (cI, 1024, .inl (fun _ => 0))), (q4, .inl (cI, 8, .inl (fun _ => 0))), (q5, .inl (cI, 9, .inl (fun _ => 0))), (q6, .inl (cZ, 256, .inl (fun _ => 0))), (q7, .inl (cJ, 200, .inr (.inl (fun _ => 0)))), (q8, .inl (cJ, 200, .inr (.inl (fun _ => 0)))), (q9, .inl (cJ, 200, .inr (.inl (fun _ => 0)))), (q10, .inl (cI, 8, .inl (fun _ => 0))), (q11, .inl (cI, 9, .inl (fun _ => 0)))] H := hP
  have hD : va_D A [(h0, .inr (8, [.int 0, .ref q1, .ref q2, .ref q3, .long 0, .long 1, .ref q4, .ref q5, .ref q6, .ref q7, .ref q8, .ref q9, .ref q10, .ref q11, .null, .null, .null])), (q1, .inl (cZ, 8, .inl (fun _ => 0))), (q2, .inl (cI, 8, .inl (fun _ => 0))), (q3, .inl (cI, 1024, .inl (fun _ => 0))), (q4, .inl (cI, 8, .inl (fun _ => 0))), (q5, .inl (cI, 9, .inl (fun _ => 0))), (q6, .inl (cZ, 256, .inl (fun _ => 0))), (q7, .inl (cJ, 200, .inr (.inl (fun _ => 0)))), (q8, .inl (cJ, 200, .inr (.inl (fun _ => 0)))), (q9, .inl (cJ, 200, .inr (.inl (fun _ => 0)))), (q10, .inl (cI, 8, .inl (fun _ => 0))), (q11, .inl (cI, 9, .inl (fun _ => 0)))] := hD
  refine lv_aload_n hx hb dX8_init_102 rfl (lv_at hl 0 rfl) ?_
  refine lv_bipush (v := 8) hx hb dX8_init_103 (by decide +kernel) ?_
  refine mz_newa 0 (atype := .int) (N' := 8) (hprim := fun _ _ h h2 => Option.some.inj (h.symm.trans h2)) hx hb (hts (.arrayClass .int) (by decide +kernel)) (ty := .int) rfl hK hP hD hS hA rfl (a0 := (8, .inl (fun _ => 0))) (fun _ => rfl) (by decide +kernel) (by decide +kernel) (by decide +kernel) (Nat.le_of_ble_eq_true rfl) (Nat.le_of_ble_eq_true rfl) dX8_init_105 (fun q12 H hP hD hS => ?_)
  refine W.widen (k := 12) (n := 1938) (Nat.le_of_ble_eq_true rfl) (Nat.le_of_ble_eq_true rfl) ?_
  have hP : va_P (dC, dI) vwCl [(h0, .inr (8, [.int 0, .ref q1, .ref q2, .ref q3, .long 0, .long 1, .ref q4, .ref q5, .ref q6, .ref q7, .ref q8, .ref q9, .ref q10, .ref q11, .null, .null, .null])), (q1, .inl (cZ, 8, .inl (fun _ => 0))), (q2, .inl (cI, 8, .inl (fun _ => 0))), (q3, .inl (cI, 1024, .inl (fun _ => 0))), (q4, .inl (cI, 8, .inl (fun _ => 0))), (q5, .inl (cI, 9, .inl (fun _ => 0))), (q6, .inl (cZ, 256, .inl (fun _ => 0))), (q7, .inl (cJ, 200, .inr (.inl (fun _ => 0)))), (q8, .inl (cJ, 200, .inr (.inl (fun _ => 0)))), (q9, .inl (cJ, 200, .inr (.inl (fun _ => 0)))), (q10, .inl (cI, 8, .inl (fun _ => 0))), (q11, .inl (cI, 9, .inl (fun _ => 0))), (q12, .inl (cI, 8, .inl (fun _ => 0)))] H := hP
  have hD : va_D A [(h0, .inr (8, [.int 0, .ref q1, .ref q2, .ref q3, .long 0, .long 1, .ref q4, .ref q5, .ref q6, .ref q7, .ref q8, .ref q9, .ref q10, .ref q11, .null, .null, .null])), (q1, .inl (cZ, 8, .inl (fun _ => 0))), (q2, .inl (cI, 8, .inl (fun _ => 0))), (q3, .inl (cI, 1024, .inl (fun _ => 0))), (q4, .inl (cI, 8, .inl (fun _ => 0))), (q5, .inl (cI, 9, .inl (fun _ => 0))), (q6, .inl (cZ, 256, .inl (fun _ => 0))), (q7, .inl (cJ, 200, .inr (.inl (fun _ => 0)))), (q8, .inl (cJ, 200, .inr (.inl (fun _ => 0)))), (q9, .inl (cJ, 200, .inr (.inl (fun _ => 0)))), (q10, .inl (cI, 8, .inl (fun _ => 0))), (q11, .inl (cI, 9, .inl (fun _ => 0))), (q12, .inl (cI, 8, .inl (fun _ => 0)))] := hD
  refine va_putF (D := (dC, dI)) (ci := 8) (v := .ref q12) (ty := .array .int) (C := RX8) (T := TX8) (N := 17) hx hb hts hiX8 tyX8 tyX8_ok nmX8 hown hK hP hD hS 0 rfl rfl 14 (by decide) (hts (.fieldLink RX8 49 "MadeItSoModel" "parentsThere" "[I") (by decide +kernel)) (fun _ h9 => h9) rfl hin rfl (by decide +kernel) rfl rfl (Nat.le_of_ble_eq_true rfl) dX8_init_107 (fun H locs hP hD hS => ?_)
  have hP : va_P (dC, dI) vwCl [(h0, .inr (8, [.int 0, .ref q1, .ref q2, .ref q3, .long 0, .long 1, .ref q4, .ref q5, .ref q6, .ref q7, .ref q8, .ref q9, .ref q10, .ref q11, .ref q12, .null, .null])), (q1, .inl (cZ, 8, .inl (fun _ => 0))), (q2, .inl (cI, 8, .inl (fun _ => 0))), (q3, .inl (cI, 1024, .inl (fun _ => 0))), (q4, .inl (cI, 8, .inl (fun _ => 0))), (q5, .inl (cI, 9, .inl (fun _ => 0))), (q6, .inl (cZ, 256, .inl (fun _ => 0))), (q7, .inl (cJ, 200, .inr (.inl (fun _ => 0)))), (q8, .inl (cJ, 200, .inr (.inl (fun _ => 0)))), (q9, .inl (cJ, 200, .inr (.inl (fun _ => 0)))), (q10, .inl (cI, 8, .inl (fun _ => 0))), (q11, .inl (cI, 9, .inl (fun _ => 0))), (q12, .inl (cI, 8, .inl (fun _ => 0)))] H := hP
  have hD : va_D A [(h0, .inr (8, [.int 0, .ref q1, .ref q2, .ref q3, .long 0, .long 1, .ref q4, .ref q5, .ref q6, .ref q7, .ref q8, .ref q9, .ref q10, .ref q11, .ref q12, .null, .null])), (q1, .inl (cZ, 8, .inl (fun _ => 0))), (q2, .inl (cI, 8, .inl (fun _ => 0))), (q3, .inl (cI, 1024, .inl (fun _ => 0))), (q4, .inl (cI, 8, .inl (fun _ => 0))), (q5, .inl (cI, 9, .inl (fun _ => 0))), (q6, .inl (cZ, 256, .inl (fun _ => 0))), (q7, .inl (cJ, 200, .inr (.inl (fun _ => 0)))), (q8, .inl (cJ, 200, .inr (.inl (fun _ => 0)))), (q9, .inl (cJ, 200, .inr (.inl (fun _ => 0)))), (q10, .inl (cI, 8, .inl (fun _ => 0))), (q11, .inl (cI, 9, .inl (fun _ => 0))), (q12, .inl (cI, 8, .inl (fun _ => 0)))] := hD
  refine lv_aload_n hx hb dX8_init_110 rfl (lv_at hl 0 rfl) ?_
  refine lv_bipush (v := 64) hx hb dX8_init_111 (by decide +kernel) ?_
  refine mz_newa 2 (atype := .boolean) (N' := 64) (hprim := fun _ _ h h2 => Option.some.inj (h.symm.trans h2)) hx hb (hts (.arrayClass .boolean) (by decide +kernel)) (ty := .boolean) rfl hK hP hD hS hA rfl (a0 := (64, .inl (fun _ => 0))) (fun _ => rfl) (by decide +kernel) (by decide +kernel) (by decide +kernel) (Nat.le_of_ble_eq_true rfl) (Nat.le_of_ble_eq_true rfl) dX8_init_113 (fun q13 H hP hD hS => ?_)
  refine W.widen (k := 13) (n := 2002) (Nat.le_of_ble_eq_true rfl) (Nat.le_of_ble_eq_true rfl) ?_
  have hP : va_P (dC, dI) vwCl [(h0, .inr (8, [.int 0, .ref q1, .ref q2, .ref q3, .long 0, .long 1, .ref q4, .ref q5, .ref q6, .ref q7, .ref q8, .ref q9, .ref q10, .ref q11, .ref q12, .null, .null])), (q1, .inl (cZ, 8, .inl (fun _ => 0))), (q2, .inl (cI, 8, .inl (fun _ => 0))), (q3, .inl (cI, 1024, .inl (fun _ => 0))), (q4, .inl (cI, 8, .inl (fun _ => 0))), (q5, .inl (cI, 9, .inl (fun _ => 0))), (q6, .inl (cZ, 256, .inl (fun _ => 0))), (q7, .inl (cJ, 200, .inr (.inl (fun _ => 0)))), (q8, .inl (cJ, 200, .inr (.inl (fun _ => 0)))), (q9, .inl (cJ, 200, .inr (.inl (fun _ => 0)))), (q10, .inl (cI, 8, .inl (fun _ => 0))), (q11, .inl (cI, 9, .inl (fun _ => 0))), (q12, .inl (cI, 8, .inl (fun _ => 0))), (q13, .inl (cZ, 64, .inl (fun _ => 0)))] H := hP
  have hD : va_D A [(h0, .inr (8, [.int 0, .ref q1, .ref q2, .ref q3, .long 0, .long 1, .ref q4, .ref q5, .ref q6, .ref q7, .ref q8, .ref q9, .ref q10, .ref q11, .ref q12, .null, .null])), (q1, .inl (cZ, 8, .inl (fun _ => 0))), (q2, .inl (cI, 8, .inl (fun _ => 0))), (q3, .inl (cI, 1024, .inl (fun _ => 0))), (q4, .inl (cI, 8, .inl (fun _ => 0))), (q5, .inl (cI, 9, .inl (fun _ => 0))), (q6, .inl (cZ, 256, .inl (fun _ => 0))), (q7, .inl (cJ, 200, .inr (.inl (fun _ => 0)))), (q8, .inl (cJ, 200, .inr (.inl (fun _ => 0)))), (q9, .inl (cJ, 200, .inr (.inl (fun _ => 0)))), (q10, .inl (cI, 8, .inl (fun _ => 0))), (q11, .inl (cI, 9, .inl (fun _ => 0))), (q12, .inl (cI, 8, .inl (fun _ => 0))), (q13, .inl (cZ, 64, .inl (fun _ => 0)))] := hD
  refine va_putF (D := (dC, dI)) (ci := 8) (v := .ref q13) (ty := .array .boolean) (C := RX8) (T := TX8) (N := 17) hx hb hts hiX8 tyX8 tyX8_ok nmX8 hown hK hP hD hS 0 rfl rfl 15 (by decide) (hts (.fieldLink RX8 52 "MadeItSoModel" "isAlways" "[Z") (by decide +kernel)) (fun _ h9 => h9) rfl hin rfl (by decide +kernel) rfl rfl (Nat.le_of_ble_eq_true rfl) dX8_init_115 (fun H locs hP hD hS => ?_)
  have hP : va_P (dC, dI) vwCl [(h0, .inr (8, [.int 0, .ref q1, .ref q2, .ref q3, .long 0, .long 1, .ref q4, .ref q5, .ref q6, .ref q7, .ref q8, .ref q9, .ref q10, .ref q11, .ref q12, .ref q13, .null])), (q1, .inl (cZ, 8, .inl (fun _ => 0))), (q2, .inl (cI, 8, .inl (fun _ => 0))), (q3, .inl (cI, 1024, .inl (fun _ => 0))), (q4, .inl (cI, 8, .inl (fun _ => 0))), (q5, .inl (cI, 9, .inl (fun _ => 0))), (q6, .inl (cZ, 256, .inl (fun _ => 0))), (q7, .inl (cJ, 200, .inr (.inl (fun _ => 0)))), (q8, .inl (cJ, 200, .inr (.inl (fun _ => 0)))), (q9, .inl (cJ, 200, .inr (.inl (fun _ => 0)))), (q10, .inl (cI, 8, .inl (fun _ => 0))), (q11, .inl (cI, 9, .inl (fun _ => 0))), (q12, .inl (cI, 8, .inl (fun _ => 0))), (q13, .inl (cZ, 64, .inl (fun _ => 0)))] H := hP
  have hD : va_D A [(h0, .inr (8, [.int 0, .ref q1, .ref q2, .ref q3, .long 0, .long 1, .ref q4, .ref q5, .ref q6, .ref q7, .ref q8, .ref q9, .ref q10, .ref q11, .ref q12, .ref q13, .null])), (q1, .inl (cZ, 8, .inl (fun _ => 0))), (q2, .inl (cI, 8, .inl (fun _ => 0))), (q3, .inl (cI, 1024, .inl (fun _ => 0))), (q4, .inl (cI, 8, .inl (fun _ => 0))), (q5, .inl (cI, 9, .inl (fun _ => 0))), (q6, .inl (cZ, 256, .inl (fun _ => 0))), (q7, .inl (cJ, 200, .inr (.inl (fun _ => 0)))), (q8, .inl (cJ, 200, .inr (.inl (fun _ => 0)))), (q9, .inl (cJ, 200, .inr (.inl (fun _ => 0)))), (q10, .inl (cI, 8, .inl (fun _ => 0))), (q11, .inl (cI, 9, .inl (fun _ => 0))), (q12, .inl (cI, 8, .inl (fun _ => 0))), (q13, .inl (cZ, 64, .inl (fun _ => 0)))] := hD
  refine lv_aload_n hx hb dX8_init_118 rfl (lv_at hl 0 rfl) ?_
  refine lv_bipush (v := 8) hx hb dX8_init_119 (by decide +kernel) ?_
  refine mz_newa 0 (atype := .int) (N' := 8) (hprim := fun _ _ h h2 => Option.some.inj (h.symm.trans h2)) hx hb (hts (.arrayClass .int) (by decide +kernel)) (ty := .int) rfl hK hP hD hS hA rfl (a0 := (8, .inl (fun _ => 0))) (fun _ => rfl) (by decide +kernel) (by decide +kernel) (by decide +kernel) (Nat.le_of_ble_eq_true rfl) (Nat.le_of_ble_eq_true rfl) dX8_init_121 (fun q14 H hP hD hS => ?_)
  refine W.widen (k := 14) (n := 2010) (Nat.le_of_ble_eq_true rfl) (Nat.le_of_ble_eq_true rfl) ?_
  have hP : va_P (dC, dI) vwCl [(h0, .inr (8, [.int 0, .ref q1, .ref q2, .ref q3, .long 0, .long 1, .ref q4, .ref q5, .ref q6, .ref q7, .ref q8, .ref q9, .ref q10, .ref q11, .ref q12, .ref q13, .null])), (q1, .inl (cZ, 8, .inl (fun _ => 0))), (q2, .inl (cI, 8, .inl (fun _ => 0))), (q3, .inl (cI, 1024, .inl (fun _ => 0))), (q4, .inl (cI, 8, .inl (fun _ => 0))), (q5, .inl (cI, 9, .inl (fun _ => 0))), (q6, .inl (cZ, 256, .inl (fun _ => 0))), (q7, .inl (cJ, 200, .inr (.inl (fun _ => 0)))), (q8, .inl (cJ, 200, .inr (.inl (fun _ => 0)))), (q9, .inl (cJ, 200, .inr (.inl (fun _ => 0)))), (q10, .inl (cI, 8, .inl (fun _ => 0))), (q11, .inl (cI, 9, .inl (fun _ => 0))), (q12, .inl (cI, 8, .inl (fun _ => 0))), (q13, .inl (cZ, 64, .inl (fun _ => 0))), (q14, .inl (cI, 8, .inl (fun _ => 0)))] H := hP
  have hD : va_D A [(h0, .inr (8, [.int 0, .ref q1, .ref q2, .ref q3, .long 0, .long 1, .ref q4, .ref q5, .ref q6, .ref q7, .ref q8, .ref q9, .ref q10, .ref q11, .ref q12, .ref q13, .null])), (q1, .inl (cZ, 8, .inl (fun _ => 0))), (q2, .inl (cI, 8, .inl (fun _ => 0))), (q3, .inl (cI, 1024, .inl (fun _ => 0))), (q4, .inl (cI, 8, .inl (fun _ => 0))), (q5, .inl (cI, 9, .inl (fun _ => 0))), (q6, .inl (cZ, 256, .inl (fun _ => 0))), (q7, .inl (cJ, 200, .inr (.inl (fun _ => 0)))), (q8, .inl (cJ, 200, .inr (.inl (fun _ => 0)))), (q9, .inl (cJ, 200, .inr (.inl (fun _ => 0)))), (q10, .inl (cI, 8, .inl (fun _ => 0))), (q11, .inl (cI, 9, .inl (fun _ => 0))), (q12, .inl (cI, 8, .inl (fun _ => 0))), (q13, .inl (cZ, 64, .inl (fun _ => 0))), (q14, .inl (cI, 8, .inl (fun _ => 0)))] := hD
  refine va_putF (D := (dC, dI)) (ci := 8) (v := .ref q14) (ty := .array .int) (C := RX8) (T := TX8) (N := 17) hx hb hts hiX8 tyX8 tyX8_ok nmX8 hown hK hP hD hS 0 rfl rfl 16 (by decide) (hts (.fieldLink RX8 55 "MadeItSoModel" "joined" "[I") (by decide +kernel)) (fun _ h9 => h9) rfl hin rfl (by decide +kernel) rfl rfl (Nat.le_of_ble_eq_true rfl) dX8_init_123 (fun H locs hP hD hS => ?_)
  have hP : va_P (dC, dI) vwCl [(h0, .inr (8, [.int 0, .ref q1, .ref q2, .ref q3, .long 0, .long 1, .ref q4, .ref q5, .ref q6, .ref q7, .ref q8, .ref q9, .ref q10, .ref q11, .ref q12, .ref q13, .ref q14])), (q1, .inl (cZ, 8, .inl (fun _ => 0))), (q2, .inl (cI, 8, .inl (fun _ => 0))), (q3, .inl (cI, 1024, .inl (fun _ => 0))), (q4, .inl (cI, 8, .inl (fun _ => 0))), (q5, .inl (cI, 9, .inl (fun _ => 0))), (q6, .inl (cZ, 256, .inl (fun _ => 0))), (q7, .inl (cJ, 200, .inr (.inl (fun _ => 0)))), (q8, .inl (cJ, 200, .inr (.inl (fun _ => 0)))), (q9, .inl (cJ, 200, .inr (.inl (fun _ => 0)))), (q10, .inl (cI, 8, .inl (fun _ => 0))), (q11, .inl (cI, 9, .inl (fun _ => 0))), (q12, .inl (cI, 8, .inl (fun _ => 0))), (q13, .inl (cZ, 64, .inl (fun _ => 0))), (q14, .inl (cI, 8, .inl (fun _ => 0)))] H := hP
  have hD : va_D A [(h0, .inr (8, [.int 0, .ref q1, .ref q2, .ref q3, .long 0, .long 1, .ref q4, .ref q5, .ref q6, .ref q7, .ref q8, .ref q9, .ref q10, .ref q11, .ref q12, .ref q13, .ref q14])), (q1, .inl (cZ, 8, .inl (fun _ => 0))), (q2, .inl (cI, 8, .inl (fun _ => 0))), (q3, .inl (cI, 1024, .inl (fun _ => 0))), (q4, .inl (cI, 8, .inl (fun _ => 0))), (q5, .inl (cI, 9, .inl (fun _ => 0))), (q6, .inl (cZ, 256, .inl (fun _ => 0))), (q7, .inl (cJ, 200, .inr (.inl (fun _ => 0)))), (q8, .inl (cJ, 200, .inr (.inl (fun _ => 0)))), (q9, .inl (cJ, 200, .inr (.inl (fun _ => 0)))), (q10, .inl (cI, 8, .inl (fun _ => 0))), (q11, .inl (cI, 9, .inl (fun _ => 0))), (q12, .inl (cI, 8, .inl (fun _ => 0))), (q13, .inl (cZ, 64, .inl (fun _ => 0))), (q14, .inl (cI, 8, .inl (fun _ => 0)))] := hD
  have hP9 := hP.sub (ws' := [(h0, .inr (8, [.int 0, .ref q1, .ref q2, .ref q3, .long 0, .long 1, .ref q4, .ref q5, .ref q6, .ref q7, .ref q8, .ref q9, .ref q10, .ref q11, .ref q12, .ref q13, .ref q14])), (q1, .inl (cZ, 8, .inl (fun _ => 0))), (q2, .inl (cI, 8, .inl (fun _ => 0))), (q3, .inl (cI, 1024, .inl (fun _ => 0))), (q4, .inl (cI, 8, .inl (fun _ => 0))), (q5, .inl (cI, 9, .inl (fun _ => 0))), (q6, .inl (cZ, 256, .inl (fun _ => 0))), (q7, .inl (cJ, 200, .inr (.inl (fun _ => 0)))), (q8, .inl (cJ, 200, .inr (.inl (fun _ => 0)))), (q9, .inl (cJ, 200, .inr (.inl (fun _ => 0)))), (q10, .inl (cI, 8, .inl (fun _ => 0))), (q11, .inl (cI, 9, .inl (fun _ => 0))), (q12, .inl (cI, 8, .inl (fun _ => 0))), (q13, .inl (cZ, 64, .inl (fun _ => 0))), (q14, .inl (cI, 8, .inl (fun _ => 0)))]) [0, 1, 2, 3, 4, 5, 6, 7, 8, 9, 10, 11, 12, 13, 14] rfl
  have hD9 := hD.sub (ws' := [(h0, .inr (8, [.int 0, .ref q1, .ref q2, .ref q3, .long 0, .long 1, .ref q4, .ref q5, .ref q6, .ref q7, .ref q8, .ref q9, .ref q10, .ref q11, .ref q12, .ref q13, .ref q14])), (q1, .inl (cZ, 8, .inl (fun _ => 0))), (q2, .inl (cI, 8, .inl (fun _ => 0))), (q3, .inl (cI, 1024, .inl (fun _ => 0))), (q4, .inl (cI, 8, .inl (fun _ => 0))), (q5, .inl (cI, 9, .inl (fun _ => 0))), (q6, .inl (cZ, 256, .inl (fun _ => 0))), (q7, .inl (cJ, 200, .inr (.inl (fun _ => 0)))), (q8, .inl (cJ, 200, .inr (.inl (fun _ => 0)))), (q9, .inl (cJ, 200, .inr (.inl (fun _ => 0)))), (q10, .inl (cI, 8, .inl (fun _ => 0))), (q11, .inl (cI, 9, .inl (fun _ => 0))), (q12, .inl (cI, 8, .inl (fun _ => 0))), (q13, .inl (cZ, 64, .inl (fun _ => 0))), (q14, .inl (cI, 8, .inl (fun _ => 0)))]) [0, 1, 2, 3, 4, 5, 6, 7, 8, 9, 10, 11, 12, 13, 14] (by decide) rfl
  refine W.widen (k := 14) (n := 2010) (Nat.le_of_ble_eq_true rfl) (Nat.le_of_ble_eq_true rfl) ?_
  exact W.vret hx hb hr (fun t ht hW => ⟨⟨(), rfl, trivial, q1, q2, q3, q4, q5, q6, q7, q8, q9, q10, q11, q12, q13, q14, by rw [ht]; exact hP9, hD9⟩, hS.F ht⟩) hS.2.2 dX8_init_126
set_option maxHeartbeats 1000000 in
set_option maxRecDepth 100000 in
theorem mz_Total_init (l : Launch) (dC : Nat → ClassId) (dI : Nat → Nat → Nat) (cI cJ cZ : ClassId) (h0 : Nat) (sz : Nat)  : Met l yX5_init wsX5_init ({ frames := 2, cells := 6, slots := 390, locals := 32 }) (va_Pc [.ref h0] (fun U => U.heap.size = sz ∧ va_P (dC, dI) vwCl [(h0, .inr (5, [.null, .null, .null]))] U.heap ∧ va_K (dC, dI) vwCl [(cI, FieldType.int), (cJ, FieldType.long), (cZ, FieldType.boolean)] U ∧ va_D (fun _ => True) [(h0, .inr (5, [.null, .null, .null]))] ∧ mz_N U)) (va_Qv (fun (_ : Unit) => True) (fun _ t => ∃ (b1 : Nat), ∃ (b1l : Nat), ∃ (b2 : Nat), ∃ (b2l : Nat), ∃ (b3 : Nat), ∃ (b3l : Nat), va_P (dC, dI) vwCl [(h0, .inr (5, [.ref b1, .ref b2, .ref b3])), (b1, .inr (0, [.ref b1l, .int 0])), (b1l, .inl (cJ, 128, .inr (.inl (fun _ => 0)))), (b2, .inr (0, [.ref b2l, .int 0])), (b2l, .inl (cJ, 128, .inr (.inl (fun _ => 0)))), (b3, .inr (0, [.ref b3l, .int 0])), (b3l, .inl (cJ, 128, .inr (.inl (fun _ => 0))))] t.heap ∧ va_D (va_A [(h0, .inr (5, [.null, .null, .null]))] sz) [(h0, .inr (5, [.ref b1, .ref b2, .ref b3])), (b1, .inr (0, [.ref b1l, .int 0])), (b1l, .inl (cJ, 128, .inr (.inl (fun _ => 0)))), (b2, .inr (0, [.ref b2l, .int 0])), (b2l, .inl (cJ, 128, .inr (.inl (fun _ => 0)))), (b3, .inr (0, [.ref b3l, .int 0])), (b3l, .inl (cJ, 128, .inr (.inl (fun _ => 0))))]) (va_A [(h0, .inr (5, [.null, .null, .null]))] sz)) 6 390 (va_A [(h0, .inr (5, [.null, .null, .null]))] sz) := by
  refine Met.ofW (cc := cX5_init) (maxL := 1) (ret := none) (by decide) rfl ?_
  intro p e s m args below meth c s₁ B hml hv
  obtain ⟨rfl, hsz, hP, hK, hD0, hN⟩ := hv
  subst hsz
  have hx := B.exec
  have hb := B.bytes
  have hr := B.returns
  have hts := atoms_spec (ws := wsX5_init) B.pre
  have hown : s.vm.findClass RX5 = some m.cls := findClass_of_methodNamed B.named
  have hlocks := B.notSynchronized
  have hin : meth.name = "<init>" := (name_of_methodNamed B.named B.method).1
  have hD := hD0.self (sz := s.heap.size)
  generalize hAe : va_A [(h0, .inr (5, [.null, .null, .null]))] s.heap.size = A at hD ⊢
  have hA : ∀ q : Nat, s.heap.size ≤ q → A q := fun q h => by rw [← hAe]; exact Or.inr h
  have hS : va_S A s.heap s.heap [] := va_S.rf
  have hiX0 : ∀ w ∈ u_ws RX0 TX0 2, w ∈ wsX5_init := by decide +kernel
  have hiX5 : ∀ w ∈ u_ws RX5 TX5 3, w ∈ wsX5_init := by decide +kernel
  have hl := lv_entry ([.ref h0]) (n := 1) (Nat.le_of_ble_eq_true rfl)
  rw [lg_entry_eq]
  generalize (lg_sl ([.ref h0]) ++ List.replicate (1 - (lg_sl ([.ref h0])).length) Slot.unset).toArray = ls at hl ⊢
  have hl : lv_has ls 1 [(0, .ref h0)] := hl
  refine lv_aload_n hx hb dX5_init_0 rfl (lv_at hl 0 rfl) ?_
  refine W.objInit hx hb hown (hts (.methodLink RX5 1 objectInit) (by decide +kernel)) (hts (.instanceMethod objectInit) (by decide +kernel)) (hts (.code objectInit ⟨#[0xb1]⟩ 1 none) (by decide +kernel)) rfl (by rw [hml]; exact hl.1) rfl dX5_init_1 (Nat.le_of_ble_eq_true rfl) (Nat.le_of_ble_eq_true rfl) ?_
  refine W.eq (g2 := F0 m 4 ls []) rfl ?_
  refine lv_aload_n hx hb dX5_init_4 rfl (lv_at hl 0 rfl) ?_
  refine va_new (ci := 0) (fs := [.null, .int 0]) (C := RX0) (T := TX0) (N := 2) hx hb hts hiX0 tyX0 tyX0_ok hown (hts (.classLink RX5 7 RX0) (by decide +kernel)) (hts (.instantiable RX0 2) (by decide +kernel)) (hts (.initialized RX0) (by decide +kernel)) hK hP hD hS hA rfl (fun j hj => by rcases (show j = 0 ∨ j = 1 by omega) with rfl | rfl <;> rfl) (Nat.le_of_ble_eq_true rfl) (Nat.le_of_ble_eq_true rfl) dX5_init_5 (fun q1 H hP hD hS => ?_)
  refine W.widen (k := 1) (n := 2) (Nat.le_of_ble_eq_true rfl) (Nat.le_of_ble_eq_true rfl) ?_
  have hP : va_P (dC, dI) vwCl [(h0, .inr (5, [.null, .null, .null])), (q1, .inr (0, [.null, .int 0]))] H := hP
  have hD : va_D A [(h0, .inr (5, [.null, .null, .null])), (q1, .inr (0, [.null, .int 0]))] := hD
  refine lv_dup hx hb dX5_init_8 rfl ?_
  have hPc := hP.sub (ws' := [(q1, .inr (0, [.null, .int 0]))]) [1] rfl
  have hDc := hD.sub (ws' := [(q1, .inr (0, [.null, .int 0]))]) [1] (by decide) rfl
  have hFc := va_free (wc := [(q1, .inr (0, [.null, .int 0]))]) hD hS hA [1] rfl
  refine va_callv (va_runIN (As := []) (rest := [.ref q1, .ref h0]) ⟨hx, hb, hml, hown, hts⟩ (mz_Big_init l dC dI cI cJ cZ q1 H.size ) ⟨va_cnB (host := "MadeItSo") 0 hts gX5_init_X0_init_n9 rfl rfl rfl (hN (RX5, 9, yX0_init, "MadeItSo") (by decide +kernel)) (hts (.initialized RX0) (by decide +kernel)) (by decide +kernel) ⟨Nat.le_of_ble_eq_true rfl, Nat.le_of_ble_eq_true rfl⟩, rfl, hts (.instanceMethod yX0_init) (by decide +kernel)⟩ ⟨fun a U g mk q => mz_blI q, fun U hU hW => ⟨rfl, by rw [hU], by rw [hU]; exact hPc, va_K.moved hW.alike hK, hDc.weaken (fun _ _ _ _ => trivial), mz_nw hW hN⟩⟩ rfl rfl hl.1 rfl (lv_room (Nat.le_of_ble_eq_true rfl)) dX5_init_9 ⟨Nat.le_of_ble_eq_true rfl, Nat.le_of_ble_eq_true rfl⟩) hS (fun q _ h => hFc q h) hFc (fun u t H1 locs ht hvm hw hB hz1 hk1 hS => ?_)
  obtain ⟨a2, hP1, hD1⟩ := hB
  rw [ht] at hP1
  obtain ⟨hP, hD⟩ := va_join (wr := [(h0, .inr (5, [.null, .null, .null]))]) (w1 := [(q1, .inr (0, [.ref a2, .int 0])), (a2, .inl (cJ, 128, .inr (.inl (fun _ => 0))))]) hP hD [1] [0] rfl rfl (by decide) (by decide) hk1 hFc hP1 hD1
  generalize H1 = H at hP hS ⊢
  have hP : va_P (dC, dI) vwCl [(h0, .inr (5, [.null, .null, .null])), (q1, .inr (0, [.ref a2, .int 0])), (a2, .inl (cJ, 128, .inr (.inl (fun _ => 0))))] H := hP
  have hD : va_D A [(h0, .inr (5, [.null, .null, .null])), (q1, .inr (0, [.ref a2, .int 0])), (a2, .inl (cJ, 128, .inr (.inl (fun _ => 0))))] := hD
  refine W.widen (k := 2) (n := 130) (Nat.le_of_ble_eq_true rfl) (Nat.le_of_ble_eq_true rfl) ?_
  refine va_putF (D := (dC, dI)) (ci := 5) (v := .ref q1) (ty := .object "MadeItSo$Big") (C := RX5) (T := TX5) (N := 3) hx hb hts hiX5 tyX5 tyX5_ok nmX5 hown hK hP hD hS 0 rfl rfl 0 (by decide) (hts (.fieldLink RX5 10 "MadeItSo$Total" "top" "LMadeItSo$Big;") (by decide +kernel)) (fun _ h9 => h9) rfl hin rfl (by decide +kernel) rfl rfl (Nat.le_of_ble_eq_true rfl) dX5_init_12 (fun H locs hP hD hS => ?_)
  have hP : va_P (dC, dI) vwCl [(h0, .inr (5, [.ref q1, .null, .null])), (q1, .inr (0, [.ref a2, .int 0])), (a2, .inl (cJ, 128, .inr (.inl (fun _ => 0))))] H := hP
  have hD : va_D A [(h0, .inr (5, [.ref q1, .null, .null])), (q1, .inr (0, [.ref a2, .int 0])), (a2, .inl (cJ, 128, .inr (.inl (fun _ => 0))))] := hD
  refine lv_aload_n hx hb dX5_init_15 rfl (lv_at hl 0 rfl) ?_
  refine va_new (ci := 0) (fs := [.null, .int 0]) (C := RX0) (T := TX0) (N := 2) hx hb hts hiX0 tyX0 tyX0_ok hown (hts (.classLink RX5 7 RX0) (by decide +kernel)) (hts (.instantiable RX0 2) (by decide +kernel)) (hts (.initialized RX0) (by decide +kernel)) hK hP hD hS hA rfl (fun j hj => by rcases (show j = 0 ∨ j = 1 by omega) with rfl | rfl <;> rfl) (Nat.le_of_ble_eq_true rfl) (Nat.le_of_ble_eq_true rfl) dX5_init_16 (fun q3 H hP hD hS => ?_)
  refine W.widen (k := 3) (n := 132) (Nat.le_of_ble_eq_true rfl) (Nat.le_of_ble_eq_true rfl) ?_
  have hP : va_P (dC, dI) vwCl [(h0, .inr (5, [.ref q1, .null, .null])), (q1, .inr (0, [.ref a2, .int 0])), (a2, .inl (cJ, 128, .inr (.inl (fun _ => 0)))), (q3, .inr (0, [.null, .int 0]))] H := hP
  have hD : va_D A [(h0, .inr (5, [.ref q1, .null, .null])), (q1, .inr (0, [.ref a2, .int 0])), (a2, .inl (cJ, 128, .inr (.inl (fun _ => 0)))), (q3, .inr (0, [.null, .int 0]))] := hD
  refine lv_dup hx hb dX5_init_19 rfl ?_
  have hPc := hP.sub (ws' := [(q3, .inr (0, [.null, .int 0]))]) [3] rfl
  have hDc := hD.sub (ws' := [(q3, .inr (0, [.null, .int 0]))]) [3] (by decide) rfl
  have hFc := va_free (wc := [(q3, .inr (0, [.null, .int 0]))]) hD hS hA [3] rfl
  refine va_callv (va_runIN (As := []) (rest := [.ref q3, .ref h0]) ⟨hx, hb, hml, hown, hts⟩ (mz_Big_init l dC dI cI cJ cZ q3 H.size ) ⟨va_cnB (host := "MadeItSo") 0 hts gX5_init_X0_init_n9 rfl rfl rfl (hN (RX5, 9, yX0_init, "MadeItSo") (by decide +kernel)) (hts (.initialized RX0) (by decide +kernel)) (by decide +kernel) ⟨Nat.le_of_ble_eq_true rfl, Nat.le_of_ble_eq_true rfl⟩, rfl, hts (.instanceMethod yX0_init) (by decide +kernel)⟩ ⟨fun a U g mk q => mz_blI q, fun U hU hW => ⟨rfl, by rw [hU], by rw [hU]; exact hPc, va_K.moved hW.alike hK, hDc.weaken (fun _ _ _ _ => trivial), mz_nw hW hN⟩⟩ rfl rfl hl.1 rfl (lv_room (Nat.le_of_ble_eq_true rfl)) dX5_init_20 ⟨Nat.le_of_ble_eq_true rfl, Nat.le_of_ble_eq_true rfl⟩) hS (fun q _ h => hFc q h) hFc (fun u t H1 locs ht hvm hw hB hz1 hk1 hS => ?_)
  obtain ⟨a4, hP1, hD1⟩ := hB
  rw [ht] at hP1
  obtain ⟨hP, hD⟩ := va_join (wr := [(h0, .inr (5, [.ref q1, .null, .null])), (q1, .inr (0, [.ref a2, .int 0])), (a2, .inl (cJ, 128, .inr (.inl (fun _ => 0))))]) (w1 := [(q3, .inr (0, [.ref a4, .int 0])), (a4, .inl (cJ, 128, .inr (.inl (fun _ => 0))))]) hP hD [3] [0, 1, 2] rfl rfl (by decide) (by decide) hk1 hFc hP1 hD1
  generalize H1 = H at hP hS ⊢
  have hP : va_P (dC, dI) vwCl [(h0, .inr (5, [.ref q1, .null, .null])), (q1, .inr (0, [.ref a2, .int 0])), (a2, .inl (cJ, 128, .inr (.inl (fun _ => 0)))), (q3, .inr (0, [.ref a4, .int 0])), (a4, .inl (cJ, 128, .inr (.inl (fun _ => 0))))] H := hP
  have hD : va_D A [(h0, .inr (5, [.ref q1, .null, .null])), (q1, .inr (0, [.ref a2, .int 0])), (a2, .inl (cJ, 128, .inr (.inl (fun _ => 0)))), (q3, .inr (0, [.ref a4, .int 0])), (a4, .inl (cJ, 128, .inr (.inl (fun _ => 0))))] := hD
  refine W.widen (k := 4) (n := 260) (Nat.le_of_ble_eq_true rfl) (Nat.le_of_ble_eq_true rfl) ?_
  refine va_putF (D := (dC, dI)) (ci := 5) (v := .ref q3) (ty := .object "MadeItSo$Big") (C := RX5) (T := TX5) (N := 3) hx hb hts hiX5 tyX5 tyX5_ok nmX5 hown hK hP hD hS 0 rfl rfl 1 (by decide) (hts (.fieldLink RX5 16 "MadeItSo$Total" "bottom" "LMadeItSo$Big;") (by decide +kernel)) (fun _ h9 => h9) rfl hin rfl (by decide +kernel) rfl rfl (Nat.le_of_ble_eq_true rfl) dX5_init_23 (fun H locs hP hD hS => ?_)
  have hP : va_P (dC, dI) vwCl [(h0, .inr (5, [.ref q1, .ref q3, .null])), (q1, .inr (0, [.ref a2, .int 0])), (a2, .inl (cJ, 128, .inr (.inl (fun _ => 0)))), (q3, .inr (0, [.ref a4, .int 0])), (a4, .inl (cJ, 128, .inr (.inl (fun _ => 0))))] H := hP
  have hD : va_D A [(h0, .inr (5, [.ref q1, .ref q3, .null])), (q1, .inr (0, [.ref a2, .int 0])), (a2, .inl (cJ, 128, .inr (.inl (fun _ => 0)))), (q3, .inr (0, [.ref a4, .int 0])), (a4, .inl (cJ, 128, .inr (.inl (fun _ => 0))))] := hD
  refine lv_aload_n hx hb dX5_init_26 rfl (lv_at hl 0 rfl) ?_
  refine va_new (ci := 0) (fs := [.null, .int 0]) (C := RX0) (T := TX0) (N := 2) hx hb hts hiX0 tyX0 tyX0_ok hown (hts (.classLink RX5 7 RX0) (by decide +kernel)) (hts (.instantiable RX0 2) (by decide +kernel)) (hts (.initialized RX0) (by decide +kernel)) hK hP hD hS hA rfl (fun j hj => by rcases (show j = 0 ∨ j = 1 by omega) with rfl | rfl <;> rfl) (Nat.le_of_ble_eq_true rfl) (Nat.le_of_ble_eq_true rfl) dX5_init_27 (fun q5 H hP hD hS => ?_)
  refine W.widen (k := 5) (n := 262) (Nat.le_of_ble_eq_true rfl) (Nat.le_of_ble_eq_true rfl) ?_
  have hP : va_P (dC, dI) vwCl [(h0, .inr (5, [.ref q1, .ref q3, .null])), (q1, .inr (0, [.ref a2, .int 0])), (a2, .inl (cJ, 128, .inr (.inl (fun _ => 0)))), (q3, .inr (0, [.ref a4, .int 0])), (a4, .inl (cJ, 128, .inr (.inl (fun _ => 0)))), (q5, .inr (0, [.null, .int 0]))] H := hP
  have hD : va_D A [(h0, .inr (5, [.ref q1, .ref q3, .null])), (q1, .inr (0, [.ref a2, .int 0])), (a2, .inl (cJ, 128, .inr (.inl (fun _ => 0)))), (q3, .inr (0, [.ref a4, .int 0])), (a4, .inl (cJ, 128, .inr (.inl (fun _ => 0)))), (q5, .inr (0, [.null, .int 0]))] := hD
  refine lv_dup hx hb dX5_init_30 rfl ?_
  have hPc := hP.sub (ws' := [(q5, .inr (0, [.null, .int 0]))]) [5] rfl
  have hDc := hD.sub (ws' := [(q5, .inr (0, [.null, .int 0]))]) [5] (by decide) rfl
  have hFc := va_free (wc := [(q5, .inr (0, [.null, .int 0]))]) hD hS hA [5] rfl
  refine va_callv (va_runIN (As := []) (rest := [.ref q5, .ref h0]) ⟨hx, hb, hml, hown, hts⟩ (mz_Big_init l dC dI cI cJ cZ q5 H.size ) ⟨va_cnB (host := "MadeItSo") 0 hts gX5_init_X0_init_n9 rfl rfl rfl (hN (RX5, 9, yX0_init, "MadeItSo") (by decide +kernel)) (hts (.initialized RX0) (by decide +kernel)) (by decide +kernel) ⟨Nat.le_of_ble_eq_true rfl, Nat.le_of_ble_eq_true rfl⟩, rfl, hts (.instanceMethod yX0_init) (by decide +kernel)⟩ ⟨fun a U g mk q => mz_blI q, fun U hU hW => ⟨rfl, by rw [hU], by rw [hU]; exact hPc, va_K.moved hW.alike hK, hDc.weaken (fun _ _ _ _ => trivial), mz_nw hW hN⟩⟩ rfl rfl hl.1 rfl (lv_room (Nat.le_of_ble_eq_true rfl)) dX5_init_31 ⟨Nat.le_of_ble_eq_true rfl, Nat.le_of_ble_eq_true rfl⟩) hS (fun q _ h => hFc q h) hFc (fun u t H1 locs ht hvm hw hB hz1 hk1 hS => ?_)
  obtain ⟨a6, hP1, hD1⟩ := hB
  rw [ht] at hP1
  obtain ⟨hP, hD⟩ := va_join (wr := [(h0, .inr (5, [.ref q1, .ref q3, .null])), (q1, .inr (0, [.ref a2, .int 0])), (a2, .inl (cJ, 128, .inr (.inl (fun _ => 0)))), (q3, .inr (0, [.ref a4, .int 0])), (a4, .inl (cJ, 128, .inr (.inl (fun _ => 0))))]) (w1 := [(q5, .inr (0, [.ref a6, .int 0])), (a6, .inl (cJ, 128, .inr (.inl (fun _ => 0))))]) hP hD [5] [0, 1, 2, 3, 4] rfl rfl (by decide) (by decide) hk1 hFc hP1 hD1
  generalize H1 = H at hP hS ⊢
  have hP : va_P (dC, dI) vwCl [(h0, .inr (5, [.ref q1, .ref q3, .null])), (q1, .inr (0, [.ref a2, .int 0])), (a2, .inl (cJ, 128, .inr (.inl (fun _ => 0)))), (q3, .inr (0, [.ref a4, .int 0])), (a4, .inl (cJ, 128, .inr (.inl (fun _ => 0)))), (q5, .inr (0, [.ref a6, .int 0])), (a6, .inl (cJ, 128, .inr (.inl (fun _ => 0))))] H := hP
  have hD : va_D A [(h0, .inr (5, [.ref q1, .ref q3, .null])), (q1, .inr (0, [.ref a2, .int 0])), (a2, .inl (cJ, 128, .inr (.inl (fun _ => 0)))), (q3, .inr (0, [.ref a4, .int 0])), (a4, .inl (cJ, 128, .inr (.inl (fun _ => 0)))), (q5, .inr (0, [.ref a6, .int 0])), (a6, .inl (cJ, 128, .inr (.inl (fun _ => 0))))] := hD
  refine W.widen (k := 6) (n := 390) (Nat.le_of_ble_eq_true rfl) (Nat.le_of_ble_eq_true rfl) ?_
  refine va_putF (D := (dC, dI)) (ci := 5) (v := .ref q5) (ty := .object "MadeItSo$Big") (C := RX5) (T := TX5) (N := 3) hx hb hts hiX5 tyX5 tyX5_ok nmX5 hown hK hP hD hS 0 rfl rfl 2 (by decide) (hts (.fieldLink RX5 19 "MadeItSo$Total" "spare" "LMadeItSo$Big;") (by decide +kernel)) (fun _ h9 => h9) rfl hin rfl (by decide +kernel) rfl rfl (Nat.le_of_ble_eq_true rfl) dX5_init_34 (fun H locs hP hD hS => ?_)
  have hP : va_P (dC, dI) vwCl [(h0, .inr (5, [.ref q1, .ref q3, .ref q5])), (q1, .inr (0, [.ref a2, .int 0])), (a2, .inl (cJ, 128, .inr (.inl (fun _ => 0)))), (q3, .inr (0, [.ref a4, .int 0])), (a4, .inl (cJ, 128, .inr (.inl (fun _ => 0)))), (q5, .inr (0, [.ref a6, .int 0])), (a6, .inl (cJ, 128, .inr (.inl (fun _ => 0))))] H := hP
  have hD : va_D A [(h0, .inr (5, [.ref q1, .ref q3, .ref q5])), (q1, .inr (0, [.ref a2, .int 0])), (a2, .inl (cJ, 128, .inr (.inl (fun _ => 0)))), (q3, .inr (0, [.ref a4, .int 0])), (a4, .inl (cJ, 128, .inr (.inl (fun _ => 0)))), (q5, .inr (0, [.ref a6, .int 0])), (a6, .inl (cJ, 128, .inr (.inl (fun _ => 0))))] := hD
  have hP9 := hP.sub (ws' := [(h0, .inr (5, [.ref q1, .ref q3, .ref q5])), (q1, .inr (0, [.ref a2, .int 0])), (a2, .inl (cJ, 128, .inr (.inl (fun _ => 0)))), (q3, .inr (0, [.ref a4, .int 0])), (a4, .inl (cJ, 128, .inr (.inl (fun _ => 0)))), (q5, .inr (0, [.ref a6, .int 0])), (a6, .inl (cJ, 128, .inr (.inl (fun _ => 0))))]) [0, 1, 2, 3, 4, 5, 6] rfl
  have hD9 := hD.sub (ws' := [(h0, .inr (5, [.ref q1, .ref q3, .ref q5])), (q1, .inr (0, [.ref a2, .int 0])), (a2, .inl (cJ, 128, .inr (.inl (fun _ => 0)))), (q3, .inr (0, [.ref a4, .int 0])), (a4, .inl (cJ, 128, .inr (.inl (fun _ => 0)))), (q5, .inr (0, [.ref a6, .int 0])), (a6, .inl (cJ, 128, .inr (.inl (fun _ => 0))))]) [0, 1, 2, 3, 4, 5, 6] (by decide) rfl
  refine W.widen (k := 6) (n := 390) (Nat.le_of_ble_eq_true rfl) (Nat.le_of_ble_eq_true rfl) ?_
  exact W.vret hx hb hr (fun t ht hW => ⟨⟨(), rfl, trivial, q1, a2, q3, a4, q5, a6, by rw [ht]; exact hP9, hD9⟩, hS.F ht⟩) hS.2.2 dX5_init_37
set_option maxHeartbeats 1000000 in
set_option maxRecDepth 100000 in
theorem mz_MadeItSo_init (l : Launch) (dC : Nat → ClassId) (dI : Nat → Nat → Nat) (cI cJ cZ : ClassId) (mx : Nat) (sz : Nat)  : Met l yX7_init wsX7_init ({ frames := 3, cells := 21, slots := 2037, locals := 52 }) (va_Pc [.ref mx] (fun U => U.heap.size = sz ∧ va_P (dC, dI) vwCl [(mx, .inr (7, [.null, .null, .null, .null, .null, .null, .null, .int 0, .long 0, .long 0]))] U.heap ∧ va_K (dC, dI) vwCl [(cI, FieldType.int), (cJ, FieldType.long), (cZ, FieldType.boolean)] U ∧ va_D (fun _ => True) [(mx, .inr (7, [.null, .null, .null, .null, .null, .null, .null, .int 0, .long 0, .long 0]))] ∧ mz_N U)) (va_Qv (fun (_ : Unit) => True) (fun _ t => ∃ (dr : Nat), ∃ (dp : Nat), ∃ (dc : Nat), ∃ (th : Nat), ∃ (tp : Nat), ∃ (tc : Nat), ∃ (bk : Nat), ∃ (bp : Nat), ∃ (wt : Nat), ∃ (wo : Nat), ∃ (tt : Nat), ∃ (b1 : Nat), ∃ (b1l : Nat), ∃ (b2 : Nat), ∃ (b2l : Nat), ∃ (b3 : Nat), ∃ (b3l : Nat), ∃ (lh : Nat), ∃ (hf : Nat), ∃ (la : Nat), ∃ (lw : Nat), va_P (dC, dI) vwCl [(mx, .inr (7, [.ref dr, .ref th, .ref bk, .ref wt, .ref tt, .ref lh, .ref la, .int 0, .long 0, .long 1])), (dr, .inr (2, [.ref dp, .ref dc, .int 0])), (dp, .inl (cI, 8, .inl (fun _ => 0))), (dc, .inl (cI, 8, .inl (fun _ => 0))), (th, .inr (2, [.ref tp, .ref tc, .int 0])), (tp, .inl (cI, 8, .inl (fun _ => 0))), (tc, .inl (cI, 8, .inl (fun _ => 0))), (bk, .inr (1, [.ref bp])), (bp, .inl (cI, 1024, .inl (fun _ => 0))), (wt, .inr (6, [.ref wo, .int 0])), (wo, .inl (cJ, 256, .inr (.inl (fun _ => 0)))), (tt, .inr (5, [.ref b1, .ref b2, .ref b3])), (b1, .inr (0, [.ref b1l, .int 0])), (b1l, .inl (cJ, 128, .inr (.inl (fun _ => 0)))), (b2, .inr (0, [.ref b2l, .int 0])), (b2l, .inl (cJ, 128, .inr (.inl (fun _ => 0)))), (b3, .inr (0, [.ref b3l, .int 0])), (b3l, .inl (cJ, 128, .inr (.inl (fun _ => 0)))), (lh, .inr (3, [.ref hf, .int 0])), (hf, .inl (cI, 64, .inl (fun _ => 0))), (la, .inr (4, [.ref lw])), (lw, .inl (cI, 256, .inl (fun _ => 0)))] t.heap ∧ va_D (va_A [(mx, .inr (7, [.null, .null, .null, .null, .null, .null, .null, .int 0, .long 0, .long 0]))] sz) [(mx, .inr (7, [.ref dr, .ref th, .ref bk, .ref wt, .ref tt, .ref lh, .ref la, .int 0, .long 0, .long 1])), (dr, .inr (2, [.ref dp, .ref dc, .int 0])), (dp, .inl (cI, 8, .inl (fun _ => 0))), (dc, .inl (cI, 8, .inl (fun _ => 0))), (th, .inr (2, [.ref tp, .ref tc, .int 0])), (tp, .inl (cI, 8, .inl (fun _ => 0))), (tc, .inl (cI, 8, .inl (fun _ => 0))), (bk, .inr (1, [.ref bp])), (bp, .inl (cI, 1024, .inl (fun _ => 0))), (wt, .inr (6, [.ref wo, .int 0])), (wo, .inl (cJ, 256, .inr (.inl (fun _ => 0)))), (tt, .inr (5, [.ref b1, .ref b2, .ref b3])), (b1, .inr (0, [.ref b1l, .int 0])), (b1l, .inl (cJ, 128, .inr (.inl (fun _ => 0)))), (b2, .inr (0, [.ref b2l, .int 0])), (b2l, .inl (cJ, 128, .inr (.inl (fun _ => 0)))), (b3, .inr (0, [.ref b3l, .int 0])), (b3l, .inl (cJ, 128, .inr (.inl (fun _ => 0)))), (lh, .inr (3, [.ref hf, .int 0])), (hf, .inl (cI, 64, .inl (fun _ => 0))), (la, .inr (4, [.ref lw])), (lw, .inl (cI, 256, .inl (fun _ => 0)))]) (va_A [(mx, .inr (7, [.null, .null, .null, .null, .null, .null, .null, .int 0, .long 0, .long 0]))] sz)) 21 2037 (va_A [(mx, .inr (7, [.null, .null, .null, .null, .null, .null, .null, .int 0, .long 0, .long 0]))] sz) := by
  refine Met.ofW (cc := cX7_init) (maxL := 1) (ret := none) (by decide) rfl ?_
  intro p e s m args below meth c s₁ B hml hv
  obtain ⟨rfl, hsz, hP, hK, hD0, hN⟩ := hv
  subst hsz
  have hx := B.exec
  have hb := B.bytes
  have hr := B.returns
  have hts := atoms_spec (ws := wsX7_init) B.pre
  have hown : s.vm.findClass RX7 = some m.cls := findClass_of_methodNamed B.named
  have hlocks := B.notSynchronized
  have hin : meth.name = "<init>" := (name_of_methodNamed B.named B.method).1
  have hD := hD0.self (sz := s.heap.size)
  generalize hAe : va_A [(mx, .inr (7, [.null, .null, .null, .null, .null, .null, .null, .int 0, .long 0, .long 0]))] s.heap.size = A at hD ⊢
  have hA : ∀ q : Nat, s.heap.size ≤ q → A q := fun q h => by rw [← hAe]; exact Or.inr h
  have hS : va_S A s.heap s.heap [] := va_S.rf
  have hiX1 : ∀ w ∈ u_ws RX1 TX1 1, w ∈ wsX7_init := by decide +kernel
  have hiX2 : ∀ w ∈ u_ws RX2 TX2 3, w ∈ wsX7_init := by decide +kernel
  have hiX3 : ∀ w ∈ u_ws RX3 TX3 2, w ∈ wsX7_init := by decide +kernel
  have hiX4 : ∀ w ∈ u_ws RX4 TX4 1, w ∈ wsX7_init := by decide +kernel
  have hiX5 : ∀ w ∈ u_ws RX5 TX5 3, w ∈ wsX7_init := by decide +kernel
  have hiX6 : ∀ w ∈ u_ws RX6 TX6 2, w ∈ wsX7_init := by decide +kernel
  have hiX7 : ∀ w ∈ u_ws RX7 TX7 10, w ∈ wsX7_init := by decide +kernel
  have hl := lv_entry ([.ref mx]) (n := 1) (Nat.le_of_ble_eq_true rfl)
  rw [lg_entry_eq]
  generalize (lg_sl ([.ref mx]) ++ List.replicate (1 - (lg_sl ([.ref mx])).length) Slot.unset).toArray = ls at hl ⊢
  have hl : lv_has ls 1 [(0, .ref mx)] := hl
  refine lv_aload_n hx hb dX7_init_0 rfl (lv_at hl 0 rfl) ?_
  refine W.objInit hx hb hown (hts (.methodLink RX7 3 objectInit) (by decide +kernel)) (hts (.instanceMethod objectInit) (by decide +kernel)) (hts (.code objectInit ⟨#[0xb1]⟩ 1 none) (by decide +kernel)) rfl (by rw [hml]; exact hl.1) rfl dX7_init_1 (Nat.le_of_ble_eq_true rfl) (Nat.le_of_ble_eq_true rfl) ?_
  refine W.eq (g2 := F0 m 4 ls []) rfl ?_
  refine lv_aload_n hx hb dX7_init_4 rfl (lv_at hl 0 rfl) ?_
  refine va_new (ci := 2) (fs := [.null, .null, .int 0]) (C := RX2) (T := TX2) (N := 3) hx hb hts hiX2 tyX2 tyX2_ok hown (hts (.classLink RX7 9 RX2) (by decide +kernel)) (hts (.instantiable RX2 3) (by decide +kernel)) (hts (.initialized RX2) (by decide +kernel)) hK hP hD hS hA rfl (fun j hj => by rcases (show j = 0 ∨ j = 1 ∨ j = 2 by omega) with rfl | rfl | rfl <;> rfl) (Nat.le_of_ble_eq_true rfl) (Nat.le_of_ble_eq_true rfl) dX7_init_5 (fun q1 H hP hD hS => ?_)
  refine W.widen (k := 1) (n := 3) (Nat.le_of_ble_eq_true rfl) (Nat.le_of_ble_eq_true rfl) ?_
  have hP : va_P (dC, dI) vwCl [(mx, .inr (7, [.null, .null, .null, .null, .null, .null, .null, .int 0, .long 0, .long 0])), (q1, .inr (2, [.null, .null, .int 0]))] H := hP
  have hD : va_D A [(mx, .inr (7, [.null, .null, .null, .null, .null, .null, .null, .int 0, .long 0, .long 0])), (q1, .inr (2, [.null, .null, .int 0]))] := hD
  refine lv_dup hx hb dX7_init_8 rfl ?_
  have hPc := hP.sub (ws' := [(q1, .inr (2, [.null, .null, .int 0]))]) [1] rfl
  have hDc := hD.sub (ws' := [(q1, .inr (2, [.null, .null, .int 0]))]) [1] (by decide) rfl
  have hFc := va_free (wc := [(q1, .inr (2, [.null, .null, .int 0]))]) hD hS hA [1] rfl
  refine va_callv (va_runIN (As := []) (rest := [.ref q1, .ref mx]) ⟨hx, hb, hml, hown, hts⟩ (mz_Drawing_init l dC dI cI cJ cZ q1 H.size ) ⟨va_cnB (host := "MadeItSo") 0 hts gX7_init_X2_init_n11 rfl rfl rfl (hN (RX7, 11, yX2_init, "MadeItSo") (by decide +kernel)) (hts (.initialized RX2) (by decide +kernel)) (by decide +kernel) ⟨Nat.le_of_ble_eq_true rfl, Nat.le_of_ble_eq_true rfl⟩, rfl, hts (.instanceMethod yX2_init) (by decide +kernel)⟩ ⟨fun a U g mk q => mz_blI q, fun U hU hW => ⟨rfl, by rw [hU], by rw [hU]; exact hPc, va_K.moved hW.alike hK, hDc.weaken (fun _ _ _ _ => trivial), mz_nw hW hN⟩⟩ rfl rfl hl.1 rfl (lv_room (Nat.le_of_ble_eq_true rfl)) dX7_init_9 ⟨Nat.le_of_ble_eq_true rfl, Nat.le_of_ble_eq_true rfl⟩) hS (fun q _ h => hFc q h) hFc (fun u t H1 locs ht hvm hw hB hz1 hk1 hS => ?_)
  obtain ⟨a2, a3, hP1, hD1⟩ := hB
  rw [ht] at hP1
  obtain ⟨hP, hD⟩ := va_join (wr := [(mx, .inr (7, [.null, .null, .null, .null, .null, .null, .null, .int 0, .long 0, .long 0]))]) (w1 := [(q1, .inr (2, [.ref a2, .ref a3, .int 0])), (a2, .inl (cI, 8, .inl (fun _ => 0))), (a3, .inl (cI, 8, .inl (fun _ => 0)))]) hP hD [1] [0] rfl rfl (by decide) (by decide) hk1 hFc hP1 hD1
  generalize H1 = H at hP hS ⊢
  have hP : va_P (dC, dI) vwCl [(mx, .inr (7, [.null, .null, .null, .null, .null, .null, .null, .int 0, .long 0, .long 0])), (q1, .inr (2, [.ref a2, .ref a3, .int 0])), (a2, .inl (cI, 8, .inl (fun _ => 0))), (a3, .inl (cI, 8, .inl (fun _ => 0)))] H := hP
  have hD : va_D A [(mx, .inr (7, [.null, .null, .null, .null, .null, .null, .null, .int 0, .long 0, .long 0])), (q1, .inr (2, [.ref a2, .ref a3, .int 0])), (a2, .inl (cI, 8, .inl (fun _ => 0))), (a3, .inl (cI, 8, .inl (fun _ => 0)))] := hD
  refine W.widen (k := 3) (n := 19) (Nat.le_of_ble_eq_true rfl) (Nat.le_of_ble_eq_true rfl) ?_
  refine va_putF (D := (dC, dI)) (ci := 7) (v := .ref q1) (ty := .object "MadeItSo$Drawing") (C := RX7) (T := TX7) (N := 10) hx hb hts hiX7 tyX7 tyX7_ok nmX7 hown hK hP hD hS 0 rfl rfl 0 (by decide) (hts (.fieldLink RX7 12 "MadeItSo" "drawing" "LMadeItSo$Drawing;") (by decide +kernel)) (fun _ h9 => h9) rfl hin rfl (by decide +kernel) rfl rfl (Nat.le_of_ble_eq_true rfl) dX7_init_12 (fun H locs hP hD hS => ?_)
  have hP : va_P (dC, dI) vwCl [(mx, .inr (7, [.ref q1, .null, .null, .null, .null, .null, .null, .int 0, .long 0, .long 0])), (q1, .inr (2, [.ref a2, .ref a3, .int 0])), (a2, .inl (cI, 8, .inl (fun _ => 0))), (a3, .inl (cI, 8, .inl (fun _ => 0)))] H := hP
  have hD : va_D A [(mx, .inr (7, [.ref q1, .null, .null, .null, .null, .null, .null, .int 0, .long 0, .long 0])), (q1, .inr (2, [.ref a2, .ref a3, .int 0])), (a2, .inl (cI, 8, .inl (fun _ => 0))), (a3, .inl (cI, 8, .inl (fun _ => 0)))] := hD
  refine lv_aload_n hx hb dX7_init_15 rfl (lv_at hl 0 rfl) ?_
  refine va_new (ci := 2) (fs := [.null, .null, .int 0]) (C := RX2) (T := TX2) (N := 3) hx hb hts hiX2 tyX2 tyX2_ok hown (hts (.classLink RX7 9 RX2) (by decide +kernel)) (hts (.instantiable RX2 3) (by decide +kernel)) (hts (.initialized RX2) (by decide +kernel)) hK hP hD hS hA rfl (fun j hj => by rcases (show j = 0 ∨ j = 1 ∨ j = 2 by omega) with rfl | rfl | rfl <;> rfl) (Nat.le_of_ble_eq_true rfl) (Nat.le_of_ble_eq_true rfl) dX7_init_16 (fun q4 H hP hD hS => ?_)
  refine W.widen (k := 4) (n := 22) (Nat.le_of_ble_eq_true rfl) (Nat.le_of_ble_eq_true rfl) ?_
  have hP : va_P (dC, dI) vwCl [(mx, .inr (7, [.ref q1, .null, .null, .null, .null, .null, .null, .int 0, .long 0, .long 0])), (q1, .inr (2, [.ref a2, .ref a3, .int 0])), (a2, .inl (cI, 8, .inl (fun _ => 0))), (a3, .inl (cI, 8, .inl (fun _ => 0))), (q4, .inr (2, [.null, .null, .int 0]))] H := hP
  have hD : va_D A [(mx, .inr (7, [.ref q1, .null, .null, .null, .null, .null, .null, .int 0, .long 0, .long 0])), (q1, .inr (2, [.ref a2, .ref a3, .int 0])), (a2, .inl (cI, 8, .inl (fun _ => 0))), (a3, .inl (cI, 8, .inl (fun _ => 0))), (q4, .inr (2, [.null, .null, .int 0]))] := hD
  refine lv_dup hx hb dX7_init_19 rfl ?_
  have hPc := hP.sub (ws' := [(q4, .inr (2, [.null, .null, .int 0]))]) [4] rfl
  have hDc := hD.sub (ws' := [(q4, .inr (2, [.null, .null, .int 0]))]) [4] (by decide) rfl
  have hFc := va_free (wc := [(q4, .inr (2, [.null, .null, .int 0]))]) hD hS hA [4] rfl
  refine va_callv (va_runIN (As := []) (rest := [.ref q4, .ref mx]) ⟨hx, hb, hml, hown, hts⟩ (mz_Drawing_init l dC dI cI cJ cZ q4 H.size ) ⟨va_cnB (host := "MadeItSo") 0 hts gX7_init_X2_init_n11 rfl rfl rfl (hN (RX7, 11, yX2_init, "MadeItSo") (by decide +kernel)) (hts (.initialized RX2) (by decide +kernel)) (by decide +kernel) ⟨Nat.le_of_ble_eq_true rfl, Nat.le_of_ble_eq_true rfl⟩, rfl, hts (.instanceMethod yX2_init) (by decide +kernel)⟩ ⟨fun a U g mk q => mz_blI q, fun U hU hW => ⟨rfl, by rw [hU], by rw [hU]; exact hPc, va_K.moved hW.alike hK, hDc.weaken (fun _ _ _ _ => trivial), mz_nw hW hN⟩⟩ rfl rfl hl.1 rfl (lv_room (Nat.le_of_ble_eq_true rfl)) dX7_init_20 ⟨Nat.le_of_ble_eq_true rfl, Nat.le_of_ble_eq_true rfl⟩) hS (fun q _ h => hFc q h) hFc (fun u t H1 locs ht hvm hw hB hz1 hk1 hS => ?_)
  obtain ⟨a5, a6, hP1, hD1⟩ := hB
  rw [ht] at hP1
  obtain ⟨hP, hD⟩ := va_join (wr := [(mx, .inr (7, [.ref q1, .null, .null, .null, .null, .null, .null, .int 0, .long 0, .long 0])), (q1, .inr (2, [.ref a2, .ref a3, .int 0])), (a2, .inl (cI, 8, .inl (fun _ => 0))), (a3, .inl (cI, 8, .inl (fun _ => 0)))]) (w1 := [(q4, .inr (2, [.ref a5, .ref a6, .int 0])), (a5, .inl (cI, 8, .inl (fun _ => 0))), (a6, .inl (cI, 8, .inl (fun _ => 0)))]) hP hD [4] [0, 1, 2, 3] rfl rfl (by decide) (by decide) hk1 hFc hP1 hD1
  generalize H1 = H at hP hS ⊢
  have hP : va_P (dC, dI) vwCl [(mx, .inr (7, [.ref q1, .null, .null, .null, .null, .null, .null, .int 0, .long 0, .long 0])), (q1, .inr (2, [.ref a2, .ref a3, .int 0])), (a2, .inl (cI, 8, .inl (fun _ => 0))), (a3, .inl (cI, 8, .inl (fun _ => 0))), (q4, .inr (2, [.ref a5, .ref a6, .int 0])), (a5, .inl (cI, 8, .inl (fun _ => 0))), (a6, .inl (cI, 8, .inl (fun _ => 0)))] H := hP
  have hD : va_D A [(mx, .inr (7, [.ref q1, .null, .null, .null, .null, .null, .null, .int 0, .long 0, .long 0])), (q1, .inr (2, [.ref a2, .ref a3, .int 0])), (a2, .inl (cI, 8, .inl (fun _ => 0))), (a3, .inl (cI, 8, .inl (fun _ => 0))), (q4, .inr (2, [.ref a5, .ref a6, .int 0])), (a5, .inl (cI, 8, .inl (fun _ => 0))), (a6, .inl (cI, 8, .inl (fun _ => 0)))] := hD
  refine W.widen (k := 6) (n := 38) (Nat.le_of_ble_eq_true rfl) (Nat.le_of_ble_eq_true rfl) ?_
  refine va_putF (D := (dC, dI)) (ci := 7) (v := .ref q4) (ty := .object "MadeItSo$Drawing") (C := RX7) (T := TX7) (N := 10) hx hb hts hiX7 tyX7 tyX7_ok nmX7 hown hK hP hD hS 0 rfl rfl 1 (by decide) (hts (.fieldLink RX7 16 "MadeItSo" "thinned" "LMadeItSo$Drawing;") (by decide +kernel)) (fun _ h9 => h9) rfl hin rfl (by decide +kernel) rfl rfl (Nat.le_of_ble_eq_true rfl) dX7_init_23 (fun H locs hP hD hS => ?_)
  have hP : va_P (dC, dI) vwCl [(mx, .inr (7, [.ref q1, .ref q4, .null, .null, .null, .null, .null, .int 0, .long 0, .long 0])), (q1, .inr (2, [.ref a2, .ref a3, .int 0])), (a2, .inl (cI, 8, .inl (fun _ => 0))), (a3, .inl (cI, 8, .inl (fun _ => 0))), (q4, .inr (2, [.ref a5, .ref a6, .int 0])), (a5, .inl (cI, 8, .inl (fun _ => 0))), (a6, .inl (cI, 8, .inl (fun _ => 0)))] H := hP
  have hD : va_D A [(mx, .inr (7, [.ref q1, .ref q4, .null, .null, .null, .null, .null, .int 0, .long 0, .long 0])), (q1, .inr (2, [.ref a2, .ref a3, .int 0])), (a2, .inl (cI, 8, .inl (fun _ => 0))), (a3, .inl (cI, 8, .inl (fun _ => 0))), (q4, .inr (2, [.ref a5, .ref a6, .int 0])), (a5, .inl (cI, 8, .inl (fun _ => 0))), (a6, .inl (cI, 8, .inl (fun _ => 0)))] := hD
  refine lv_aload_n hx hb dX7_init_26 rfl (lv_at hl 0 rfl) ?_
  refine va_new (ci := 1) (fs := [.null]) (C := RX1) (T := TX1) (N := 1) hx hb hts hiX1 tyX1 tyX1_ok hown (hts (.classLink RX7 19 RX1) (by decide +kernel)) (hts (.instantiable RX1 1) (by decide +kernel)) (hts (.initialized RX1) (by decide +kernel)) hK hP hD hS hA rfl (fun j hj => by rcases (show j = 0 by omega) with rfl <;> rfl) (Nat.le_of_ble_eq_true rfl) (Nat.le_of_ble_eq_true rfl) dX7_init_27 (fun q7 H hP hD hS => ?_)
  refine W.widen (k := 7) (n := 39) (Nat.le_of_ble_eq_true rfl) (Nat.le_of_ble_eq_true rfl) ?_
  have hP : va_P (dC, dI) vwCl [(mx, .inr (7, [.ref q1, .ref q4, .null, .null, .null, .null, .null, .int 0, .long 0, .long 0])), (q1, .inr (2, [.ref a2, .ref a3, .int 0])), (a2, .inl (cI, 8, .inl (fun _ => 0))), (a3, .inl (cI, 8, .inl (fun _ => 0))), (q4, .inr (2, [.ref a5, .ref a6, .int 0])), (a5, .inl (cI, 8, .inl (fun _ => 0))), (a6, .inl (cI, 8, .inl (fun _ => 0))), (q7, .inr (1, [.null]))] H := hP
  have hD : va_D A [(mx, .inr (7, [.ref q1, .ref q4, .null, .null, .null, .null, .null, .int 0, .long 0, .long 0])), (q1, .inr (2, [.ref a2, .ref a3, .int 0])), (a2, .inl (cI, 8, .inl (fun _ => 0))), (a3, .inl (cI, 8, .inl (fun _ => 0))), (q4, .inr (2, [.ref a5, .ref a6, .int 0])), (a5, .inl (cI, 8, .inl (fun _ => 0))), (a6, .inl (cI, 8, .inl (fun _ => 0))), (q7, .inr (1, [.null]))] := hD
  refine lv_dup hx hb dX7_init_30 rfl ?_
  have hPc := hP.sub (ws' := [(q7, .inr (1, [.null]))]) [7] rfl
  have hDc := hD.sub (ws' := [(q7, .inr (1, [.null]))]) [7] (by decide) rfl
  have hFc := va_free (wc := [(q7, .inr (1, [.null]))]) hD hS hA [7] rfl
  refine va_callv (va_runIN (As := []) (rest := [.ref q7, .ref mx]) ⟨hx, hb, hml, hown, hts⟩ (mz_Books_init l dC dI cI cJ cZ q7 H.size ) ⟨va_cnB (host := "MadeItSo") 0 hts gX7_init_X1_init_n21 rfl rfl rfl (hN (RX7, 21, yX1_init, "MadeItSo") (by decide +kernel)) (hts (.initialized RX1) (by decide +kernel)) (by decide +kernel) ⟨Nat.le_of_ble_eq_true rfl, Nat.le_of_ble_eq_true rfl⟩, rfl, hts (.instanceMethod yX1_init) (by decide +kernel)⟩ ⟨fun a U g mk q => mz_blI q, fun U hU hW => ⟨rfl, by rw [hU], by rw [hU]; exact hPc, va_K.moved hW.alike hK, hDc.weaken (fun _ _ _ _ => trivial), mz_nw hW hN⟩⟩ rfl rfl hl.1 rfl (lv_room (Nat.le_of_ble_eq_true rfl)) dX7_init_31 ⟨Nat.le_of_ble_eq_true rfl, Nat.le_of_ble_eq_true rfl⟩) hS (fun q _ h => hFc q h) hFc (fun u t H1 locs ht hvm hw hB hz1 hk1 hS => ?_)
  obtain ⟨a8, hP1, hD1⟩ := hB
  rw [ht] at hP1
  obtain ⟨hP, hD⟩ := va_join (wr := [(mx, .inr (7, [.ref q1, .ref q4, .null, .null, .null, .null, .null, .int 0, .long 0, .long 0])), (q1, .inr (2, [.ref a2, .ref a3, .int 0])), (a2, .inl (cI, 8, .inl (fun _ => 0))), (a3, .inl (cI, 8, .inl (fun _ => 0))), (q4, .inr (2, [.ref a5, .ref a6, .int 0])), (a5, .inl (cI, 8, .inl (fun _ => 0))), (a6, .inl (cI, 8, .inl (fun _ => 0)))]) (w1 := [(q7, .inr (1, [.ref a8])), (a8, .inl (cI, 1024, .inl (fun _ => 0)))]) hP hD [7] [0, 1, 2, 3, 4, 5, 6] rfl rfl (by decide) (by decide) hk1 hFc hP1 hD1
  generalize H1 = H at hP hS ⊢
  have hP : va_P (dC, dI) vwCl [(mx, .inr (7, [.ref q1, .ref q4, .null, .null, .null, .null, .null, .int 0, .long 0, .long 0])), (q1, .inr (2, [.ref a2, .ref a3, .int 0])), (a2, .inl (cI, 8, .inl (fun _ => 0))), (a3, .inl (cI, 8, .inl (fun _ => 0))), (q4, .inr (2, [.ref a5, .ref a6, .int 0])), (a5, .inl (cI, 8, .inl (fun _ => 0))), (a6, .inl (cI, 8, .inl (fun _ => 0))), (q7, .inr (1, [.ref a8])), (a8, .inl (cI, 1024, .inl (fun _ => 0)))] H := hP
  have hD : va_D A [(mx, .inr (7, [.ref q1, .ref q4, .null, .null, .null, .null, .null, .int 0, .long 0, .long 0])), (q1, .inr (2, [.ref a2, .ref a3, .int 0])), (a2, .inl (cI, 8, .inl (fun _ => 0))), (a3, .inl (cI, 8, .inl (fun _ => 0))), (q4, .inr (2, [.ref a5, .ref a6, .int 0])), (a5, .inl (cI, 8, .inl (fun _ => 0))), (a6, .inl (cI, 8, .inl (fun _ => 0))), (q7, .inr (1, [.ref a8])), (a8, .inl (cI, 1024, .inl (fun _ => 0)))] := hD
  refine W.widen (k := 8) (n := 1063) (Nat.le_of_ble_eq_true rfl) (Nat.le_of_ble_eq_true rfl) ?_
  refine va_putF (D := (dC, dI)) (ci := 7) (v := .ref q7) (ty := .object "MadeItSo$Books") (C := RX7) (T := TX7) (N := 10) hx hb hts hiX7 tyX7 tyX7_ok nmX7 hown hK hP hD hS 0 rfl rfl 2 (by decide) (hts (.fieldLink RX7 22 "MadeItSo" "books" "LMadeItSo$Books;") (by decide +kernel)) (fun _ h9 => h9) rfl hin rfl (by decide +kernel) rfl rfl (Nat.le_of_ble_eq_true rfl) dX7_init_34 (fun H locs hP hD hS => ?_)
  have hP : va_P (dC, dI) vwCl [(mx, .inr (7, [.ref q1, .ref q4, .ref q7, .null, .null, .null, .null, .int 0, .long 0, .long 0])), (q1, .inr (2, [.ref a2, .ref a3, .int 0])), (a2, .inl (cI, 8, .inl (fun _ => 0))), (a3, .inl (cI, 8, .inl (fun _ => 0))), (q4, .inr (2, [.ref a5, .ref a6, .int 0])), (a5, .inl (cI, 8, .inl (fun _ => 0))), (a6, .inl (cI, 8, .inl (fun _ => 0))), (q7, .inr (1, [.ref a8])), (a8, .inl (cI, 1024, .inl (fun _ => 0)))] H := hP
  have hD : va_D A [(mx, .inr (7, [.ref q1, .ref q4, .ref q7, .null, .null, .null, .null, .int 0, .long 0, .long 0])), (q1, .inr (2, [.ref a2, .ref a3, .int 0])), (a2, .inl (cI, 8, .inl (fun _ => 0))), (a3, .inl (cI, 8, .inl (fun _ => 0))), (q4, .inr (2, [.ref a5, .ref a6, .int 0])), (a5, .inl (cI, 8, .inl (fun _ => 0))), (a6, .inl (cI, 8, .inl (fun _ => 0))), (q7, .inr (1, [.ref a8])), (a8, .inl (cI, 1024, .inl (fun _ => 0)))] := hD
  refine lv_aload_n hx hb dX7_init_37 rfl (lv_at hl 0 rfl) ?_
  refine va_new (ci := 6) (fs := [.null, .int 0]) (C := RX6) (T := TX6) (N := 2) hx hb hts hiX6 tyX6 tyX6_ok hown (hts (.classLink RX7 26 RX6) (by decide +kernel)) (hts (.instantiable RX6 2) (by decide +kernel)) (hts (.initialized RX6) (by decide +kernel)) hK hP hD hS hA rfl (fun j hj => by rcases (show j = 0 ∨ j = 1 by omega) with rfl | rfl <;> rfl) (Nat.le_of_ble_eq_true rfl) (Nat.le_of_ble_eq_true rfl) dX7_init_38 (fun q9 H hP hD hS => ?_)
  refine W.widen (k := 9) (n := 1065) (Nat.le_of_ble_eq_true rfl) (Nat.le_of_ble_eq_true rfl) ?_
  have hP : va_P (dC, dI) vwCl [(mx, .inr (7, [.ref q1, .ref q4, .ref q7, .null, .null, .null, .null, .int 0, .long 0, .long 0])), (q1, .inr (2, [.ref a2, .ref a3, .int 0])), (a2, .inl (cI, 8, .inl (fun _ => 0))), (a3, .inl (cI, 8, .inl (fun _ => 0))), (q4, .inr (2, [.ref a5, .ref a6, .int 0])), (a5, .inl (cI, 8, .inl (fun _ => 0))), (a6, .inl (cI, 8, .inl (fun _ => 0))), (q7, .inr (1, [.ref a8])), (a8, .inl (cI, 1024, .inl (fun _ => 0))), (q9, .inr (6, [.null, .int 0]))] H := hP
  have hD : va_D A [(mx, .inr (7, [.ref q1, .ref q4, .ref q7, .null, .null, .null, .null, .int 0, .long 0, .long 0])), (q1, .inr (2, [.ref a2, .ref a3, .int 0])), (a2, .inl (cI, 8, .inl (fun _ => 0))), (a3, .inl (cI, 8, .inl (fun _ => 0))), (q4, .inr (2, [.ref a5, .ref a6, .int 0])), (a5, .inl (cI, 8, .inl (fun _ => 0))), (a6, .inl (cI, 8, .inl (fun _ => 0))), (q7, .inr (1, [.ref a8])), (a8, .inl (cI, 1024, .inl (fun _ => 0))), (q9, .inr (6, [.null, .int 0]))] := hD
  refine lv_dup hx hb dX7_init_41 rfl ?_
  have hPc := hP.sub (ws' := [(q9, .inr (6, [.null, .int 0]))]) [9] rfl
  have hDc := hD.sub (ws' := [(q9, .inr (6, [.null, .int 0]))]) [9] (by decide) rfl
  have hFc := va_free (wc := [(q9, .inr (6, [.null, .int 0]))]) hD hS hA [9] rfl
  refine va_callv (va_runIN (As := []) (rest := [.ref q9, .ref mx]) ⟨hx, hb, hml, hown, hts⟩ (mz_Weights_init l dC dI cI cJ cZ q9 H.size ) ⟨va_cnB (host := "MadeItSo") 0 hts gX7_init_X6_init_n28 rfl rfl rfl (hN (RX7, 28, yX6_init, "MadeItSo") (by decide +kernel)) (hts (.initialized RX6) (by decide +kernel)) (by decide +kernel) ⟨Nat.le_of_ble_eq_true rfl, Nat.le_of_ble_eq_true rfl⟩, rfl, hts (.instanceMethod yX6_init) (by decide +kernel)⟩ ⟨fun a U g mk q => mz_blI q, fun U hU hW => ⟨rfl, by rw [hU], by rw [hU]; exact hPc, va_K.moved hW.alike hK, hDc.weaken (fun _ _ _ _ => trivial), mz_nw hW hN⟩⟩ rfl rfl hl.1 rfl (lv_room (Nat.le_of_ble_eq_true rfl)) dX7_init_42 ⟨Nat.le_of_ble_eq_true rfl, Nat.le_of_ble_eq_true rfl⟩) hS (fun q _ h => hFc q h) hFc (fun u t H1 locs ht hvm hw hB hz1 hk1 hS => ?_)
  obtain ⟨a10, hP1, hD1⟩ := hB
  rw [ht] at hP1
  obtain ⟨hP, hD⟩ := va_join (wr := [(mx, .inr (7, [.ref q1, .ref q4, .ref q7, .null, .null, .null, .null, .int 0, .long 0, .long 0])), (q1, .inr (2, [.ref a2, .ref a3, .int 0])), (a2, .inl (cI, 8, .inl (fun _ => 0))), (a3, .inl (cI, 8, .inl (fun _ => 0))), (q4, .inr (2, [.ref a5, .ref a6, .int 0])), (a5, .inl (cI, 8, .inl (fun _ => 0))), (a6, .inl (cI, 8, .inl (fun _ => 0))), (q7, .inr (1, [.ref a8])), (a8, .inl (cI, 1024, .inl (fun _ => 0)))]) (w1 := [(q9, .inr (6, [.ref a10, .int 0])), (a10, .inl (cJ, 256, .inr (.inl (fun _ => 0))))]) hP hD [9] [0, 1, 2, 3, 4, 5, 6, 7, 8] rfl rfl (by decide) (by decide) hk1 hFc hP1 hD1
  generalize H1 = H at hP hS ⊢
  have hP : va_P (dC, dI) vwCl [(mx, .inr (7, [.ref q1, .ref q4, .ref q7, .null, .null, .null, .null, .int 0, .long 0, .long 0])), (q1, .inr (2, [.ref a2, .ref a3, .int 0])), (a2, .inl (cI, 8, .inl (fun _ => 0))), (a3, .inl (cI, 8, .inl (fun _ => 0))), (q4, .inr (2, [.ref a5, .ref a6, .int 0])), (a5, .inl (cI, 8, .inl (fun _ => 0))), (a6, .inl (cI, 8, .inl (fun _ => 0))), (q7, .inr (1, [.ref a8])), (a8, .inl (cI, 1024, .inl (fun _ => 0))), (q9, .inr (6, [.ref a10, .int 0])), (a10, .inl (cJ, 256, .inr (.inl (fun _ => 0))))] H := hP
  have hD : va_D A [(mx, .inr (7, [.ref q1, .ref q4, .ref q7, .null, .null, .null, .null, .int 0, .long 0, .long 0])), (q1, .inr (2, [.ref a2, .ref a3, .int 0])), (a2, .inl (cI, 8, .inl (fun _ => 0))), (a3, .inl (cI, 8, .inl (fun _ => 0))), (q4, .inr (2, [.ref a5, .ref a6, .int 0])), (a5, .inl (cI, 8, .inl (fun _ => 0))), (a6, .inl (cI, 8, .inl (fun _ => 0))), (q7, .inr (1, [.ref a8])), (a8, .inl (cI, 1024, .inl (fun _ => 0))), (q9, .inr (6, [.ref a10, .int 0])), (a10, .inl (cJ, 256, .inr (.inl (fun _ => 0))))] := hD
  refine W.widen (k := 10) (n := 1321) (Nat.le_of_ble_eq_true rfl) (Nat.le_of_ble_eq_true rfl) ?_
  refine va_putF (D := (dC, dI)) (ci := 7) (v := .ref q9) (ty := .object "MadeItSo$Weights") (C := RX7) (T := TX7) (N := 10) hx hb hts hiX7 tyX7 tyX7_ok nmX7 hown hK hP hD hS 0 rfl rfl 3 (by decide) (hts (.fieldLink RX7 29 "MadeItSo" "weights" "LMadeItSo$Weights;") (by decide +kernel)) (fun _ h9 => h9) rfl hin rfl (by decide +kernel) rfl rfl (Nat.le_of_ble_eq_true rfl) dX7_init_45 (fun H locs hP hD hS => ?_)
  have hP : va_P (dC, dI) vwCl [(mx, .inr (7, [.ref q1, .ref q4, .ref q7, .ref q9, .null, .null, .null, .int 0, .long 0, .long 0])), (q1, .inr (2, [.ref a2, .ref a3, .int 0])), (a2, .inl (cI, 8, .inl (fun _ => 0))), (a3, .inl (cI, 8, .inl (fun _ => 0))), (q4, .inr (2, [.ref a5, .ref a6, .int 0])), (a5, .inl (cI, 8, .inl (fun _ => 0))), (a6, .inl (cI, 8, .inl (fun _ => 0))), (q7, .inr (1, [.ref a8])), (a8, .inl (cI, 1024, .inl (fun _ => 0))), (q9, .inr (6, [.ref a10, .int 0])), (a10, .inl (cJ, 256, .inr (.inl (fun _ => 0))))] H := hP
  have hD : va_D A [(mx, .inr (7, [.ref q1, .ref q4, .ref q7, .ref q9, .null, .null, .null, .int 0, .long 0, .long 0])), (q1, .inr (2, [.ref a2, .ref a3, .int 0])), (a2, .inl (cI, 8, .inl (fun _ => 0))), (a3, .inl (cI, 8, .inl (fun _ => 0))), (q4, .inr (2, [.ref a5, .ref a6, .int 0])), (a5, .inl (cI, 8, .inl (fun _ => 0))), (a6, .inl (cI, 8, .inl (fun _ => 0))), (q7, .inr (1, [.ref a8])), (a8, .inl (cI, 1024, .inl (fun _ => 0))), (q9, .inr (6, [.ref a10, .int 0])), (a10, .inl (cJ, 256, .inr (.inl (fun _ => 0))))] := hD
  refine lv_aload_n hx hb dX7_init_48 rfl (lv_at hl 0 rfl) ?_
  refine va_new (ci := 5) (fs := [.null, .null, .null]) (C := RX5) (T := TX5) (N := 3) hx hb hts hiX5 tyX5 tyX5_ok hown (hts (.classLink RX7 33 RX5) (by decide +kernel)) (hts (.instantiable RX5 3) (by decide +kernel)) (hts (.initialized RX5) (by decide +kernel)) hK hP hD hS hA rfl (fun j hj => by rcases (show j = 0 ∨ j = 1 ∨ j = 2 by omega) with rfl | rfl | rfl <;> rfl) (Nat.le_of_ble_eq_true rfl) (Nat.le_of_ble_eq_true rfl) dX7_init_49 (fun q11 H hP hD hS => ?_)
  refine W.widen (k := 11) (n := 1324) (Nat.le_of_ble_eq_true rfl) (Nat.le_of_ble_eq_true rfl) ?_
  have hP : va_P (dC, dI) vwCl [(mx, .inr (7, [.ref q1, .ref q4, .ref q7, .ref q9, .null, .null, .null, .int 0, .long 0, .long 0])), (q1, .inr (2, [.ref a2, .ref a3, .int 0])), (a2, .inl (cI, 8, .inl (fun _ => 0))), (a3, .inl (cI, 8, .inl (fun _ => 0))), (q4, .inr (2, [.ref a5, .ref a6, .int 0])), (a5, .inl (cI, 8, .inl (fun _ => 0))), (a6, .inl (cI, 8, .inl (fun _ => 0))), (q7, .inr (1, [.ref a8])), (a8, .inl (cI, 1024, .inl (fun _ => 0))), (q9, .inr (6, [.ref a10, .int 0])), (a10, .inl (cJ, 256, .inr (.inl (fun _ => 0)))), (q11, .inr (5, [.null, .null, .null]))] H := hP
  have hD : va_D A [(mx, .inr (7, [.ref q1, .ref q4, .ref q7, .ref q9, .null, .null, .null, .int 0, .long 0, .long 0])), (q1, .inr (2, [.ref a2, .ref a3, .int 0])), (a2, .inl (cI, 8, .inl (fun _ => 0))), (a3, .inl (cI, 8, .inl (fun _ => 0))), (q4, .inr (2, [.ref a5, .ref a6, .int 0])), (a5, .inl (cI, 8, .inl (fun _ => 0))), (a6, .inl (cI, 8, .inl (fun _ => 0))), (q7, .inr (1, [.ref a8])), (a8, .inl (cI, 1024, .inl (fun _ => 0))), (q9, .inr (6, [.ref a10, .int 0])), (a10, .inl (cJ, 256, .inr (.inl (fun _ => 0)))), (q11, .inr (5, [.null, .null, .null]))] := hD
  refine lv_dup hx hb dX7_init_52 rfl ?_
  have hPc := hP.sub (ws' := [(q11, .inr (5, [.null, .null, .null]))]) [11] rfl
  have hDc := hD.sub (ws' := [(q11, .inr (5, [.null, .null, .null]))]) [11] (by decide) rfl
  have hFc := va_free (wc := [(q11, .inr (5, [.null, .null, .null]))]) hD hS hA [11] rfl
  refine va_callv (va_runIN (As := []) (rest := [.ref q11, .ref mx]) ⟨hx, hb, hml, hown, hts⟩ (mz_Total_init l dC dI cI cJ cZ q11 H.size ) ⟨va_cnB (host := "MadeItSo") 0 hts gX7_init_X5_init_n35 rfl rfl rfl (hN (RX7, 35, yX5_init, "MadeItSo") (by decide +kernel)) (hts (.initialized RX5) (by decide +kernel)) (by decide +kernel) ⟨Nat.le_of_ble_eq_true rfl, Nat.le_of_ble_eq_true rfl⟩, rfl, hts (.instanceMethod yX5_init) (by decide +kernel)⟩ ⟨fun a U g mk q => mz_blI q, fun U hU hW => ⟨rfl, by rw [hU], by rw [hU]; exact hPc, va_K.moved hW.alike hK, hDc.weaken (fun _ _ _ _ => trivial), mz_nw hW hN⟩⟩ rfl rfl hl.1 rfl (lv_room (Nat.le_of_ble_eq_true rfl)) dX7_init_53 ⟨Nat.le_of_ble_eq_true rfl, Nat.le_of_ble_eq_true rfl⟩) hS (fun q _ h => hFc q h) hFc (fun u t H1 locs ht hvm hw hB hz1 hk1 hS => ?_)
  obtain ⟨b12, b1l13, b14, b2l15, b16, b3l17, hP1, hD1⟩ := hB
  rw [ht] at hP1
  obtain ⟨hP, hD⟩ := va_join (wr := [(mx, .inr (7, [.ref q1, .ref q4, .ref q7, .ref q9, .null, .null, .null, .int 0, .long 0, .long 0])), (q1, .inr (2, [.ref a2, .ref a3, .int 0])), (a2, .inl (cI, 8, .inl (fun _ => 0))), (a3, .inl (cI, 8, .inl (fun _ => 0))), (q4, .inr (2, [.ref a5, .ref a6, .int 0])), (a5, .inl (cI, 8, .inl (fun _ => 0))), (a6, .inl (cI, 8, .inl (fun _ => 0))), (q7, .inr (1, [.ref a8])), (a8, .inl (cI, 1024, .inl (fun _ => 0))), (q9, .inr (6, [.ref a10, .int 0])), (a10, .inl (cJ, 256, .inr (.inl (fun _ => 0))))]) (w1 := [(q11, .inr (5, [.ref b12, .ref b14, .ref b16])), (b12, .inr (0, [.ref b1l13, .int 0])), (b1l13, .inl (cJ, 128, .inr (.inl (fun _ => 0)))), (b14, .inr (0, [.ref b2l15, .int 0])), (b2l15, .inl (cJ, 128, .inr (.inl (fun _ => 0)))), (b16, .inr (0, [.ref b3l17, .int 0])), (b3l17, .inl (cJ, 128, .inr (.inl (fun _ => 0))))]) hP hD [11] [0, 1, 2, 3, 4, 5, 6, 7, 8, 9, 10] rfl rfl (by decide) (by decide) hk1 hFc hP1 hD1
  generalize H1 = H at hP hS ⊢
  have hP : va_P (dC, dI) vwCl [(mx, .inr (7, [.ref q1, .ref q4, .ref q7, .ref q9, .null, .null, .null, .int 0, .long 0, .long 0])), (q1, .inr (2, [.ref a2, .ref a3, .int 0])), (a2, .inl (cI, 8, .inl (fun _ => 0))), (a3, .inl (cI, 8, .inl (fun _ => 0))), (q4, .inr (2, [.ref a5, .ref a6, .int 0])), (a5, .inl (cI, 8, .inl (fun _ => 0))), (a6, .inl (cI, 8, .inl (fun _ => 0))), (q7, .inr (1, [.ref a8])), (a8, .inl (cI, 1024, .inl (fun _ => 0))), (q9, .inr (6, [.ref a10, .int 0])), (a10, .inl (cJ, 256, .inr (.inl (fun _ => 0)))), (q11, .inr (5, [.ref b12, .ref b14, .ref b16])), (b12, .inr (0, [.ref b1l13, .int 0])), (b1l13, .inl (cJ, 128, .inr (.inl (fun _ => 0)))), (b14, .inr (0, [.ref b2l15, .int 0])), (b2l15, .inl (cJ, 128, .inr (.inl (fun _ => 0)))), (b16, .inr (0, [.ref b3l17, .int 0])), (b3l17, .inl (cJ, 128, .inr (.inl (fun _ => 0))))] H := hP
  have hD : va_D A [(mx, .inr (7, [.ref q1, .ref q4, .ref q7, .ref q9, .null, .null, .null, .int 0, .long 0, .long 0])), (q1, .inr (2, [.ref a2, .ref a3, .int 0])), (a2, .inl (cI, 8, .inl (fun _ => 0))), (a3, .inl (cI, 8, .inl (fun _ => 0))), (q4, .inr (2, [.ref a5, .ref a6, .int 0])), (a5, .inl (cI, 8, .inl (fun _ => 0))), (a6, .inl (cI, 8, .inl (fun _ => 0))), (q7, .inr (1, [.ref a8])), (a8, .inl (cI, 1024, .inl (fun _ => 0))), (q9, .inr (6, [.ref a10, .int 0])), (a10, .inl (cJ, 256, .inr (.inl (fun _ => 0)))), (q11, .inr (5, [.ref b12, .ref b14, .ref b16])), (b12, .inr (0, [.ref b1l13, .int 0])), (b1l13, .inl (cJ, 128, .inr (.inl (fun _ => 0)))), (b14, .inr (0, [.ref b2l15, .int 0])), (b2l15, .inl (cJ, 128, .inr (.inl (fun _ => 0)))), (b16, .inr (0, [.ref b3l17, .int 0])), (b3l17, .inl (cJ, 128, .inr (.inl (fun _ => 0))))] := hD
  refine W.widen (k := 17) (n := 1714) (Nat.le_of_ble_eq_true rfl) (Nat.le_of_ble_eq_true rfl) ?_
  refine va_putF (D := (dC, dI)) (ci := 7) (v := .ref q11) (ty := .object "MadeItSo$Total") (C := RX7) (T := TX7) (N := 10) hx hb hts hiX7 tyX7 tyX7_ok nmX7 hown hK hP hD hS 0 rfl rfl 4 (by decide) (hts (.fieldLink RX7 36 "MadeItSo" "total" "LMadeItSo$Total;") (by decide +kernel)) (fun _ h9 => h9) rfl hin rfl (by decide +kernel) rfl rfl (Nat.le_of_ble_eq_true rfl) dX7_init_56 (fun H locs hP hD hS => ?_)
  have hP : va_P (dC, dI) vwCl [(mx, .inr (7, [.ref q1, .ref q4, .ref q7, .ref q9, .ref q11, .null, .null, .int 0, .long 0, .long 0])), (q1, .inr (2, [.ref a2, .ref a3, .int 0])), (a2, .inl (cI, 8, .inl (fun _ => 0))), (a3, .inl (cI, 8, .inl (fun _ => 0))), (q4, .inr (2, [.ref a5, .ref a6, .int 0])), (a5, .inl (cI, 8, .inl (fun _ => 0))), (a6, .inl (cI, 8, .inl (fun _ => 0))), (q7, .inr (1, [.ref a8])), (a8, .inl (cI, 1024, .inl (fun _ => 0))), (q9, .inr (6, [.ref a10, .int 0])), (a10, .inl (cJ, 256, .inr (.inl (fun _ => 0)))), (q11, .inr (5, [.ref b12, .ref b14, .ref b16])), (b12, .inr (0, [.ref b1l13, .int 0])), (b1l13, .inl (cJ, 128, .inr (.inl (fun _ => 0)))), (b14, .inr (0, [.ref b2l15, .int 0])), (b2l15, .inl (cJ, 128, .inr (.inl (fun _ => 0)))), (b16, .inr (0, [.ref b3l17, .int 0])), (b3l17, .inl (cJ, 128, .inr (.inl (fun _ => 0))))] H := hP
  have hD : va_D A [(mx, .inr (7, [.ref q1, .ref q4, .ref q7, .ref q9, .ref q11, .null, .null, .int 0, .long 0, .long 0])), (q1, .inr (2, [.ref a2, .ref a3, .int 0])), (a2, .inl (cI, 8, .inl (fun _ => 0))), (a3, .inl (cI, 8, .inl (fun _ => 0))), (q4, .inr (2, [.ref a5, .ref a6, .int 0])), (a5, .inl (cI, 8, .inl (fun _ => 0))), (a6, .inl (cI, 8, .inl (fun _ => 0))), (q7, .inr (1, [.ref a8])), (a8, .inl (cI, 1024, .inl (fun _ => 0))), (q9, .inr (6, [.ref a10, .int 0])), (a10, .inl (cJ, 256, .inr (.inl (fun _ => 0)))), (q11, .inr (5, [.ref b12, .ref b14, .ref b16])), (b12, .inr (0, [.ref b1l13, .int 0])), (b1l13, .inl (cJ, 128, .inr (.inl (fun _ => 0)))), (b14, .inr (0, [.ref b2l15, .int 0])), (b2l15, .inl (cJ, 128, .inr (.inl (fun _ => 0)))), (b16, .inr (0, [.ref b3l17, .int 0])), (b3l17, .inl (cJ, 128, .inr (.inl (fun _ => 0))))] := hD
  refine lv_aload_n hx hb dX7_init_59 rfl (lv_at hl 0 rfl) ?_
  refine va_new (ci := 3) (fs := [.null, .int 0]) (C := RX3) (T := TX3) (N := 2) hx hb hts hiX3 tyX3 tyX3_ok hown (hts (.classLink RX7 40 RX3) (by decide +kernel)) (hts (.instantiable RX3 2) (by decide +kernel)) (hts (.initialized RX3) (by decide +kernel)) hK hP hD hS hA rfl (fun j hj => by rcases (show j = 0 ∨ j = 1 by omega) with rfl | rfl <;> rfl) (Nat.le_of_ble_eq_true rfl) (Nat.le_of_ble_eq_true rfl) dX7_init_60 (fun q18 H hP hD hS => ?_)
  refine W.widen (k := 18) (n := 1716) (Nat.le_of_ble_eq_true rfl) (Nat.le_of_ble_eq_true rfl) ?_
  have hP : va_P (dC, dI) vwCl [(mx, .inr (7, [.ref q1, .ref q4, .ref q7, .ref q9, .ref q11, .null, .null, .int 0, .long 0, .long 0])), (q1, .inr (2, [.ref a2, .ref a3, .int 0])), (a2, .inl (cI, 8, .inl (fun _ => 0))), (a3, .inl (cI, 8, .inl (fun _ => 0))), (q4, .inr (2, [.ref a5, .ref a6, .int 0])), (a5, .inl (cI, 8, .inl (fun _ => 0))), (a6, .inl (cI, 8, .inl (fun _ => 0))), (q7, .inr (1, [.ref a8])), (a8, .inl (cI, 1024, .inl (fun _ => 0))), (q9, .inr (6, [.ref a10, .int 0])), (a10, .inl (cJ, 256, .inr (.inl (fun _ => 0)))), (q11, .inr (5, [.ref b12, .ref b14, .ref b16])), (b12, .inr (0, [.ref b1l13, .int 0])), (b1l13, .inl (cJ, 128, .inr (.inl (fun _ => 0)))), (b14, .inr (0, [.ref b2l15, .int 0])), (b2l15, .inl (cJ, 128, .inr (.inl (fun _ => 0)))), (b16, .inr (0, [.ref b3l17, .int 0])), (b3l17, .inl (cJ, 128, .inr (.inl (fun _ => 0)))), (q18, .inr (3, [.null, .int 0]))] H := hP
  have hD : va_D A [(mx, .inr (7, [.ref q1, .ref q4, .ref q7, .ref q9, .ref q11, .null, .null, .int 0, .long 0, .long 0])), (q1, .inr (2, [.ref a2, .ref a3, .int 0])), (a2, .inl (cI, 8, .inl (fun _ => 0))), (a3, .inl (cI, 8, .inl (fun _ => 0))), (q4, .inr (2, [.ref a5, .ref a6, .int 0])), (a5, .inl (cI, 8, .inl (fun _ => 0))), (a6, .inl (cI, 8, .inl (fun _ => 0))), (q7, .inr (1, [.ref a8])), (a8, .inl (cI, 1024, .inl (fun _ => 0))), (q9, .inr (6, [.ref a10, .int 0])), (a10, .inl (cJ, 256, .inr (.inl (fun _ => 0)))), (q11, .inr (5, [.ref b12, .ref b14, .ref b16])), (b12, .inr (0, [.ref b1l13, .int 0])), (b1l13, .inl (cJ, 128, .inr (.inl (fun _ => 0)))), (b14, .inr (0, [.ref b2l15, .int 0])), (b2l15, .inl (cJ, 128, .inr (.inl (fun _ => 0)))), (b16, .inr (0, [.ref b3l17, .int 0])), (b3l17, .inl (cJ, 128, .inr (.inl (fun _ => 0)))), (q18, .inr (3, [.null, .int 0]))] := hD
  refine lv_dup hx hb dX7_init_63 rfl ?_
  have hPc := hP.sub (ws' := [(q18, .inr (3, [.null, .int 0]))]) [18] rfl
  have hDc := hD.sub (ws' := [(q18, .inr (3, [.null, .int 0]))]) [18] (by decide) rfl
  have hFc := va_free (wc := [(q18, .inr (3, [.null, .int 0]))]) hD hS hA [18] rfl
  refine va_callv (va_runIN (As := []) (rest := [.ref q18, .ref mx]) ⟨hx, hb, hml, hown, hts⟩ (mz_LeastHeaps_init l dC dI cI cJ cZ q18 H.size ) ⟨va_cnB (host := "MadeItSo") 0 hts gX7_init_X3_init_n42 rfl rfl rfl (hN (RX7, 42, yX3_init, "MadeItSo") (by decide +kernel)) (hts (.initialized RX3) (by decide +kernel)) (by decide +kernel) ⟨Nat.le_of_ble_eq_true rfl, Nat.le_of_ble_eq_true rfl⟩, rfl, hts (.instanceMethod yX3_init) (by decide +kernel)⟩ ⟨fun a U g mk q => mz_blI q, fun U hU hW => ⟨rfl, by rw [hU], by rw [hU]; exact hPc, va_K.moved hW.alike hK, hDc.weaken (fun _ _ _ _ => trivial), mz_nw hW hN⟩⟩ rfl rfl hl.1 rfl (lv_room (Nat.le_of_ble_eq_true rfl)) dX7_init_64 ⟨Nat.le_of_ble_eq_true rfl, Nat.le_of_ble_eq_true rfl⟩) hS (fun q _ h => hFc q h) hFc (fun u t H1 locs ht hvm hw hB hz1 hk1 hS => ?_)
  obtain ⟨a19, hP1, hD1⟩ := hB
  rw [ht] at hP1
  obtain ⟨hP, hD⟩ := va_join (wr := [(mx, .inr (7, [.ref q1, .ref q4, .ref q7, .ref q9, .ref q11, .null, .null, .int 0, .long 0, .long 0])), (q1, .inr (2, [.ref a2, .ref a3, .int 0])), (a2, .inl (cI, 8, .inl (fun _ => 0))), (a3, .inl (cI, 8, .inl (fun _ => 0))), (q4, .inr (2, [.ref a5, .ref a6, .int 0])), (a5, .inl (cI, 8, .inl (fun _ => 0))), (a6, .inl (cI, 8, .inl (fun _ => 0))), (q7, .inr (1, [.ref a8])), (a8, .inl (cI, 1024, .inl (fun _ => 0))), (q9, .inr (6, [.ref a10, .int 0])), (a10, .inl (cJ, 256, .inr (.inl (fun _ => 0)))), (q11, .inr (5, [.ref b12, .ref b14, .ref b16])), (b12, .inr (0, [.ref b1l13, .int 0])), (b1l13, .inl (cJ, 128, .inr (.inl (fun _ => 0)))), (b14, .inr (0, [.ref b2l15, .int 0])), (b2l15, .inl (cJ, 128, .inr (.inl (fun _ => 0)))), (b16, .inr (0, [.ref b3l17, .int 0])), (b3l17, .inl (cJ, 128, .inr (.inl (fun _ => 0))))]) (w1 := [(q18, .inr (3, [.ref a19, .int 0])), (a19, .inl (cI, 64, .inl (fun _ => 0)))]) hP hD [18] [0, 1, 2, 3, 4, 5, 6, 7, 8, 9, 10, 11, 12, 13, 14, 15, 16, 17] rfl rfl (by decide) (by decide) hk1 hFc hP1 hD1
  generalize H1 = H at hP hS ⊢
  have hP : va_P (dC, dI) vwCl [(mx, .inr (7, [.ref q1, .ref q4, .ref q7, .ref q9, .ref q11, .null, .null, .int 0, .long 0, .long 0])), (q1, .inr (2, [.ref a2, .ref a3, .int 0])), (a2, .inl (cI, 8, .inl (fun _ => 0))), (a3, .inl (cI, 8, .inl (fun _ => 0))), (q4, .inr (2, [.ref a5, .ref a6, .int 0])), (a5, .inl (cI, 8, .inl (fun _ => 0))), (a6, .inl (cI, 8, .inl (fun _ => 0))), (q7, .inr (1, [.ref a8])), (a8, .inl (cI, 1024, .inl (fun _ => 0))), (q9, .inr (6, [.ref a10, .int 0])), (a10, .inl (cJ, 256, .inr (.inl (fun _ => 0)))), (q11, .inr (5, [.ref b12, .ref b14, .ref b16])), (b12, .inr (0, [.ref b1l13, .int 0])), (b1l13, .inl (cJ, 128, .inr (.inl (fun _ => 0)))), (b14, .inr (0, [.ref b2l15, .int 0])), (b2l15, .inl (cJ, 128, .inr (.inl (fun _ => 0)))), (b16, .inr (0, [.ref b3l17, .int 0])), (b3l17, .inl (cJ, 128, .inr (.inl (fun _ => 0)))), (q18, .inr (3, [.ref a19, .int 0])), (a19, .inl (cI, 64, .inl (fun _ => 0)))] H := hP
  have hD : va_D A [(mx, .inr (7, [.ref q1, .ref q4, .ref q7, .ref q9, .ref q11, .null, .null, .int 0, .long 0, .long 0])), (q1, .inr (2, [.ref a2, .ref a3, .int 0])), (a2, .inl (cI, 8, .inl (fun _ => 0))), (a3, .inl (cI, 8, .inl (fun _ => 0))), (q4, .inr (2, [.ref a5, .ref a6, .int 0])), (a5, .inl (cI, 8, .inl (fun _ => 0))), (a6, .inl (cI, 8, .inl (fun _ => 0))), (q7, .inr (1, [.ref a8])), (a8, .inl (cI, 1024, .inl (fun _ => 0))), (q9, .inr (6, [.ref a10, .int 0])), (a10, .inl (cJ, 256, .inr (.inl (fun _ => 0)))), (q11, .inr (5, [.ref b12, .ref b14, .ref b16])), (b12, .inr (0, [.ref b1l13, .int 0])), (b1l13, .inl (cJ, 128, .inr (.inl (fun _ => 0)))), (b14, .inr (0, [.ref b2l15, .int 0])), (b2l15, .inl (cJ, 128, .inr (.inl (fun _ => 0)))), (b16, .inr (0, [.ref b3l17, .int 0])), (b3l17, .inl (cJ, 128, .inr (.inl (fun _ => 0)))), (q18, .inr (3, [.ref a19, .int 0])), (a19, .inl (cI, 64, .inl (fun _ => 0)))] := hD
  refine W.widen (k := 19) (n := 1780) (Nat.le_of_ble_eq_true rfl) (Nat.le_of_ble_eq_true rfl) ?_
  refine va_putF (D := (dC, dI)) (ci := 7) (v := .ref q18) (ty := .object "MadeItSo$LeastHeaps") (C := RX7) (T := TX7) (N := 10) hx hb hts hiX7 tyX7 tyX7_ok nmX7 hown hK hP hD hS 0 rfl rfl 5 (by decide) (hts (.fieldLink RX7 43 "MadeItSo" "leastHeaps" "LMadeItSo$LeastHeaps;") (by decide +kernel)) (fun _ h9 => h9) rfl hin rfl (by decide +kernel) rfl rfl (Nat.le_of_ble_eq_true rfl) dX7_init_67 (fun H locs hP hD hS => ?_)
  have hP : va_P (dC, dI) vwCl [(mx, .inr (7, [.ref q1, .ref q4, .ref q7, .ref q9, .ref q11, .ref q18, .null, .int 0, .long 0, .long 0])), (q1, .inr (2, [.ref a2, .ref a3, .int 0])), (a2, .inl (cI, 8, .inl (fun _ => 0))), (a3, .inl (cI, 8, .inl (fun _ => 0))), (q4, .inr (2, [.ref a5, .ref a6, .int 0])), (a5, .inl (cI, 8, .inl (fun _ => 0))), (a6, .inl (cI, 8, .inl (fun _ => 0))), (q7, .inr (1, [.ref a8])), (a8, .inl (cI, 1024, .inl (fun _ => 0))), (q9, .inr (6, [.ref a10, .int 0])), (a10, .inl (cJ, 256, .inr (.inl (fun _ => 0)))), (q11, .inr (5, [.ref b12, .ref b14, .ref b16])), (b12, .inr (0, [.ref b1l13, .int 0])), (b1l13, .inl (cJ, 128, .inr (.inl (fun _ => 0)))), (b14, .inr (0, [.ref b2l15, .int 0])), (b2l15, .inl (cJ, 128, .inr (.inl (fun _ => 0)))), (b16, .inr (0, [.ref b3l17, .int 0])), (b3l17, .inl (cJ, 128, .inr (.inl (fun _ => 0)))), (q18, .inr (3, [.ref a19, .int 0])), (a19, .inl (cI, 64, .inl (fun _ => 0)))] H := hP
  have hD : va_D A [(mx, .inr (7, [.ref q1, .ref q4, .ref q7, .ref q9, .ref q11, .ref q18, .null, .int 0, .long 0, .long 0])), (q1, .inr (2, [.ref a2, .ref a3, .int 0])), (a2, .inl (cI, 8, .inl (fun _ => 0))), (a3, .inl (cI, 8, .inl (fun _ => 0))), (q4, .inr (2, [.ref a5, .ref a6, .int 0])), (a5, .inl (cI, 8, .inl (fun _ => 0))), (a6, .inl (cI, 8, .inl (fun _ => 0))), (q7, .inr (1, [.ref a8])), (a8, .inl (cI, 1024, .inl (fun _ => 0))), (q9, .inr (6, [.ref a10, .int 0])), (a10, .inl (cJ, 256, .inr (.inl (fun _ => 0)))), (q11, .inr (5, [.ref b12, .ref b14, .ref b16])), (b12, .inr (0, [.ref b1l13, .int 0])), (b1l13, .inl (cJ, 128, .inr (.inl (fun _ => 0)))), (b14, .inr (0, [.ref b2l15, .int 0])), (b2l15, .inl (cJ, 128, .inr (.inl (fun _ => 0)))), (b16, .inr (0, [.ref b3l17, .int 0])), (b3l17, .inl (cJ, 128, .inr (.inl (fun _ => 0)))), (q18, .inr (3, [.ref a19, .int 0])), (a19, .inl (cI, 64, .inl (fun _ => 0)))] := hD
  refine lv_aload_n hx hb dX7_init_70 rfl (lv_at hl 0 rfl) ?_
  refine va_new (ci := 4) (fs := [.null]) (C := RX4) (T := TX4) (N := 1) hx hb hts hiX4 tyX4 tyX4_ok hown (hts (.classLink RX7 47 RX4) (by decide +kernel)) (hts (.instantiable RX4 1) (by decide +kernel)) (hts (.initialized RX4) (by decide +kernel)) hK hP hD hS hA rfl (fun j hj => by rcases (show j = 0 by omega) with rfl <;> rfl) (Nat.le_of_ble_eq_true rfl) (Nat.le_of_ble_eq_true rfl) dX7_init_71 (fun q20 H hP hD hS => ?_)
  refine W.widen (k := 20) (n := 1781) (Nat.le_of_ble_eq_true rfl) (Nat.le_of_ble_eq_true rfl) ?_
  have hP : va_P (dC, dI) vwCl [(mx, .inr (7, [.ref q1, .ref q4, .ref q7, .ref q9, .ref q11, .ref q18, .null, .int 0, .long 0, .long 0])), (q1, .inr (2, [.ref a2, .ref a3, .int 0])), (a2, .inl (cI, 8, .inl (fun _ => 0))), (a3, .inl (cI, 8, .inl (fun _ => 0))), (q4, .inr (2, [.ref a5, .ref a6, .int 0])), (a5, .inl (cI, 8, .inl (fun _ => 0))), (a6, .inl (cI, 8, .inl (fun _ => 0))), (q7, .inr (1, [.ref a8])), (a8, .inl (cI, 1024, .inl (fun _ => 0))), (q9, .inr (6, [.ref a10, .int 0])), (a10, .inl (cJ, 256, .inr (.inl (fun _ => 0)))), (q11, .inr (5, [.ref b12, .ref b14, .ref b16])), (b12, .inr (0, [.ref b1l13, .int 0])), (b1l13, .inl (cJ, 128, .inr (.inl (fun _ => 0)))), (b14, .inr (0, [.ref b2l15, .int 0])), (b2l15, .inl (cJ, 128, .inr (.inl (fun _ => 0)))), (b16, .inr (0, [.ref b3l17, .int 0])), (b3l17, .inl (cJ, 128, .inr (.inl (fun _ => 0)))), (q18, .inr (3, [.ref a19, .int 0])), (a19, .inl (cI, 64, .inl (fun _ => 0))), (q20, .inr (4, [.null]))] H := hP
  have hD : va_D A [(mx, .inr (7, [.ref q1, .ref q4, .ref q7, .ref q9, .ref q11, .ref q18, .null, .int 0, .long 0, .long 0])), (q1, .inr (2, [.ref a2, .ref a3, .int 0])), (a2, .inl (cI, 8, .inl (fun _ => 0))), (a3, .inl (cI, 8, .inl (fun _ => 0))), (q4, .inr (2, [.ref a5, .ref a6, .int 0])), (a5, .inl (cI, 8, .inl (fun _ => 0))), (a6, .inl (cI, 8, .inl (fun _ => 0))), (q7, .inr (1, [.ref a8])), (a8, .inl (cI, 1024, .inl (fun _ => 0))), (q9, .inr (6, [.ref a10, .int 0])), (a10, .inl (cJ, 256, .inr (.inl (fun _ => 0)))), (q11, .inr (5, [.ref b12, .ref b14, .ref b16])), (b12, .inr (0, [.ref b1l13, .int 0])), (b1l13, .inl (cJ, 128, .inr (.inl (fun _ => 0)))), (b14, .inr (0, [.ref b2l15, .int 0])), (b2l15, .inl (cJ, 128, .inr (.inl (fun _ => 0)))), (b16, .inr (0, [.ref b3l17, .int 0])), (b3l17, .inl (cJ, 128, .inr (.inl (fun _ => 0)))), (q18, .inr (3, [.ref a19, .int 0])), (a19, .inl (cI, 64, .inl (fun _ => 0))), (q20, .inr (4, [.null]))] := hD
  refine lv_dup hx hb dX7_init_74 rfl ?_
  have hPc := hP.sub (ws' := [(q20, .inr (4, [.null]))]) [20] rfl
  have hDc := hD.sub (ws' := [(q20, .inr (4, [.null]))]) [20] (by decide) rfl
  have hFc := va_free (wc := [(q20, .inr (4, [.null]))]) hD hS hA [20] rfl
  refine va_callv (va_runIN (As := []) (rest := [.ref q20, .ref mx]) ⟨hx, hb, hml, hown, hts⟩ (mz_Lookalikes_init l dC dI cI cJ cZ q20 H.size ) ⟨va_cnB (host := "MadeItSo") 0 hts gX7_init_X4_init_n49 rfl rfl rfl (hN (RX7, 49, yX4_init, "MadeItSo") (by decide +kernel)) (hts (.initialized RX4) (by decide +kernel)) (by decide +kernel) ⟨Nat.le_of_ble_eq_true rfl, Nat.le_of_ble_eq_true rfl⟩, rfl, hts (.instanceMethod yX4_init) (by decide +kernel)⟩ ⟨fun a U g mk q => mz_blI q, fun U hU hW => ⟨rfl, by rw [hU], by rw [hU]; exact hPc, va_K.moved hW.alike hK, hDc.weaken (fun _ _ _ _ => trivial), mz_nw hW hN⟩⟩ rfl rfl hl.1 rfl (lv_room (Nat.le_of_ble_eq_true rfl)) dX7_init_75 ⟨Nat.le_of_ble_eq_true rfl, Nat.le_of_ble_eq_true rfl⟩) hS (fun q _ h => hFc q h) hFc (fun u t H1 locs ht hvm hw hB hz1 hk1 hS => ?_)
  obtain ⟨a21, hP1, hD1⟩ := hB
  rw [ht] at hP1
  obtain ⟨hP, hD⟩ := va_join (wr := [(mx, .inr (7, [.ref q1, .ref q4, .ref q7, .ref q9, .ref q11, .ref q18, .null, .int 0, .long 0, .long 0])), (q1, .inr (2, [.ref a2, .ref a3, .int 0])), (a2, .inl (cI, 8, .inl (fun _ => 0))), (a3, .inl (cI, 8, .inl (fun _ => 0))), (q4, .inr (2, [.ref a5, .ref a6, .int 0])), (a5, .inl (cI, 8, .inl (fun _ => 0))), (a6, .inl (cI, 8, .inl (fun _ => 0))), (q7, .inr (1, [.ref a8])), (a8, .inl (cI, 1024, .inl (fun _ => 0))), (q9, .inr (6, [.ref a10, .int 0])), (a10, .inl (cJ, 256, .inr (.inl (fun _ => 0)))), (q11, .inr (5, [.ref b12, .ref b14, .ref b16])), (b12, .inr (0, [.ref b1l13, .int 0])), (b1l13, .inl (cJ, 128, .inr (.inl (fun _ => 0)))), (b14, .inr (0, [.ref b2l15, .int 0])), (b2l15, .inl (cJ, 128, .inr (.inl (fun _ => 0)))), (b16, .inr (0, [.ref b3l17, .int 0])), (b3l17, .inl (cJ, 128, .inr (.inl (fun _ => 0)))), (q18, .inr (3, [.ref a19, .int 0])), (a19, .inl (cI, 64, .inl (fun _ => 0)))]) (w1 := [(q20, .inr (4, [.ref a21])), (a21, .inl (cI, 256, .inl (fun _ => 0)))]) hP hD [20] [0, 1, 2, 3, 4, 5, 6, 7, 8, 9, 10, 11, 12, 13, 14, 15, 16, 17, 18, 19] rfl rfl (by decide) (by decide) hk1 hFc hP1 hD1
  generalize H1 = H at hP hS ⊢
  have hP : va_P (dC, dI) vwCl [(mx, .inr (7, [.ref q1, .ref q4, .ref q7, .ref q9, .ref q11, .ref q18, .null, .int 0, .long 0, .long 0])), (q1, .inr (2, [.ref a2, .ref a3, .int 0])), (a2, .inl (cI, 8, .inl (fun _ => 0))), (a3, .inl (cI, 8, .inl (fun _ => 0))), (q4, .inr (2, [.ref a5, .ref a6, .int 0])), (a5, .inl (cI, 8, .inl (fun _ => 0))), (a6, .inl (cI, 8, .inl (fun _ => 0))), (q7, .inr (1, [.ref a8])), (a8, .inl (cI, 1024, .inl (fun _ => 0))), (q9, .inr (6, [.ref a10, .int 0])), (a10, .inl (cJ, 256, .inr (.inl (fun _ => 0)))), (q11, .inr (5, [.ref b12, .ref b14, .ref b16])), (b12, .inr (0, [.ref b1l13, .int 0])), (b1l13, .inl (cJ, 128, .inr (.inl (fun _ => 0)))), (b14, .inr (0, [.ref b2l15, .int 0])), (b2l15, .inl (cJ, 128, .inr (.inl (fun _ => 0)))), (b16, .inr (0, [.ref b3l17, .int 0])), (b3l17, .inl (cJ, 128, .inr (.inl (fun _ => 0)))), (q18, .inr (3, [.ref a19, .int 0])), (a19, .inl (cI, 64, .inl (fun _ => 0))), (q20, .inr (4, [.ref a21])), (a21, .inl (cI, 256, .inl (fun _ => 0)))] H := hP
  have hD : va_D A [(mx, .inr (7, [.ref q1, .ref q4, .ref q7, .ref q9, .ref q11, .ref q18, .null, .int 0, .long 0, .long 0])), (q1, .inr (2, [.ref a2, .ref a3, .int 0])), (a2, .inl (cI, 8, .inl (fun _ => 0))), (a3, .inl (cI, 8, .inl (fun _ => 0))), (q4, .inr (2, [.ref a5, .ref a6, .int 0])), (a5, .inl (cI, 8, .inl (fun _ => 0))), (a6, .inl (cI, 8, .inl (fun _ => 0))), (q7, .inr (1, [.ref a8])), (a8, .inl (cI, 1024, .inl (fun _ => 0))), (q9, .inr (6, [.ref a10, .int 0])), (a10, .inl (cJ, 256, .inr (.inl (fun _ => 0)))), (q11, .inr (5, [.ref b12, .ref b14, .ref b16])), (b12, .inr (0, [.ref b1l13, .int 0])), (b1l13, .inl (cJ, 128, .inr (.inl (fun _ => 0)))), (b14, .inr (0, [.ref b2l15, .int 0])), (b2l15, .inl (cJ, 128, .inr (.inl (fun _ => 0)))), (b16, .inr (0, [.ref b3l17, .int 0])), (b3l17, .inl (cJ, 128, .inr (.inl (fun _ => 0)))), (q18, .inr (3, [.ref a19, .int 0])), (a19, .inl (cI, 64, .inl (fun _ => 0))), (q20, .inr (4, [.ref a21])), (a21, .inl (cI, 256, .inl (fun _ => 0)))] := hD
  refine W.widen (k := 21) (n := 2037) (Nat.le_of_ble_eq_true rfl) (Nat.le_of_ble_eq_true rfl) ?_
  refine va_putF (D := (dC, dI)) (ci := 7) (v := .ref q20) (ty := .object "MadeItSo$Lookalikes") (C := RX7) (T := TX7) (N := 10) hx hb hts hiX7 tyX7 tyX7_ok nmX7 hown hK hP hD hS 0 rfl rfl 6 (by decide) (hts (.fieldLink RX7 50 "MadeItSo" "lookalikes" "LMadeItSo$Lookalikes;") (by decide +kernel)) (fun _ h9 => h9) rfl hin rfl (by decide +kernel) rfl rfl (Nat.le_of_ble_eq_true rfl) dX7_init_78 (fun H locs hP hD hS => ?_)
  have hP : va_P (dC, dI) vwCl [(mx, .inr (7, [.ref q1, .ref q4, .ref q7, .ref q9, .ref q11, .ref q18, .ref q20, .int 0, .long 0, .long 0])), (q1, .inr (2, [.ref a2, .ref a3, .int 0])), (a2, .inl (cI, 8, .inl (fun _ => 0))), (a3, .inl (cI, 8, .inl (fun _ => 0))), (q4, .inr (2, [.ref a5, .ref a6, .int 0])), (a5, .inl (cI, 8, .inl (fun _ => 0))), (a6, .inl (cI, 8, .inl (fun _ => 0))), (q7, .inr (1, [.ref a8])), (a8, .inl (cI, 1024, .inl (fun _ => 0))), (q9, .inr (6, [.ref a10, .int 0])), (a10, .inl (cJ, 256, .inr (.inl (fun _ => 0)))), (q11, .inr (5, [.ref b12, .ref b14, .ref b16])), (b12, .inr (0, [.ref b1l13, .int 0])), (b1l13, .inl (cJ, 128, .inr (.inl (fun _ => 0)))), (b14, .inr (0, [.ref b2l15, .int 0])), (b2l15, .inl (cJ, 128, .inr (.inl (fun _ => 0)))), (b16, .inr (0, [.ref b3l17, .int 0])), (b3l17, .inl (cJ, 128, .inr (.inl (fun _ => 0)))), (q18, .inr (3, [.ref a19, .int 0])), (a19, .inl (cI, 64, .inl (fun _ => 0))), (q20, .inr (4, [.ref a21])), (a21, .inl (cI, 256, .inl (fun _ => 0)))] H := hP
  have hD : va_D A [(mx, .inr (7, [.ref q1, .ref q4, .ref q7, .ref q9, .ref q11, .ref q18, .ref q20, .int 0, .long 0, .long 0])), (q1, .inr (2, [.ref a2, .ref a3, .int 0])), (a2, .inl (cI, 8, .inl (fun _ => 0))), (a3, .inl (cI, 8, .inl (fun _ => 0))), (q4, .inr (2, [.ref a5, .ref a6, .int 0])), (a5, .inl (cI, 8, .inl (fun _ => 0))), (a6, .inl (cI, 8, .inl (fun _ => 0))), (q7, .inr (1, [.ref a8])), (a8, .inl (cI, 1024, .inl (fun _ => 0))), (q9, .inr (6, [.ref a10, .int 0])), (a10, .inl (cJ, 256, .inr (.inl (fun _ => 0)))), (q11, .inr (5, [.ref b12, .ref b14, .ref b16])), (b12, .inr (0, [.ref b1l13, .int 0])), (b1l13, .inl (cJ, 128, .inr (.inl (fun _ => 0)))), (b14, .inr (0, [.ref b2l15, .int 0])), (b2l15, .inl (cJ, 128, .inr (.inl (fun _ => 0)))), (b16, .inr (0, [.ref b3l17, .int 0])), (b3l17, .inl (cJ, 128, .inr (.inl (fun _ => 0)))), (q18, .inr (3, [.ref a19, .int 0])), (a19, .inl (cI, 64, .inl (fun _ => 0))), (q20, .inr (4, [.ref a21])), (a21, .inl (cI, 256, .inl (fun _ => 0)))] := hD
  refine lv_aload_n hx hb dX7_init_81 rfl (lv_at hl 0 rfl) ?_
  refine lv_iconst (v := 0) hx hb dX7_init_82 (by decide +kernel) ?_
  refine va_put (D := (dC, dI)) (ci := 7) (v := .int 0) (ty := .int) (C := RX7) (T := TX7) (N := 10) hx hb hts hiX7 tyX7 tyX7_ok nmX7 hown hK hP hD hS 0 rfl rfl 7 (by decide) (hts (.fieldLink RX7 54 "MadeItSo" "seenHeap" "I") (by decide +kernel)) (fun _ h9 => h9) rfl (by decide +kernel) rfl rfl (Nat.le_of_ble_eq_true rfl) dX7_init_83 (fun H locs hP hD hS => ?_)
  have hP : va_P (dC, dI) vwCl [(mx, .inr (7, [.ref q1, .ref q4, .ref q7, .ref q9, .ref q11, .ref q18, .ref q20, .int 0, .long 0, .long 0])), (q1, .inr (2, [.ref a2, .ref a3, .int 0])), (a2, .inl (cI, 8, .inl (fun _ => 0))), (a3, .inl (cI, 8, .inl (fun _ => 0))), (q4, .inr (2, [.ref a5, .ref a6, .int 0])), (a5, .inl (cI, 8, .inl (fun _ => 0))), (a6, .inl (cI, 8, .inl (fun _ => 0))), (q7, .inr (1, [.ref a8])), (a8, .inl (cI, 1024, .inl (fun _ => 0))), (q9, .inr (6, [.ref a10, .int 0])), (a10, .inl (cJ, 256, .inr (.inl (fun _ => 0)))), (q11, .inr (5, [.ref b12, .ref b14, .ref b16])), (b12, .inr (0, [.ref b1l13, .int 0])), (b1l13, .inl (cJ, 128, .inr (.inl (fun _ => 0)))), (b14, .inr (0, [.ref b2l15, .int 0])), (b2l15, .inl (cJ, 128, .inr (.inl (fun _ => 0)))), (b16, .inr (0, [.ref b3l17, .int 0])), (b3l17, .inl (cJ, 128, .inr (.inl (fun _ => 0)))), (q18, .inr (3, [.ref a19, .int 0])), (a19, .inl (cI, 64, .inl (fun _ => 0))), (q20, .inr (4, [.ref a21])), (a21, .inl (cI, 256, .inl (fun _ => 0)))] H := hP
  have hD : va_D A [(mx, .inr (7, [.ref q1, .ref q4, .ref q7, .ref q9, .ref q11, .ref q18, .ref q20, .int 0, .long 0, .long 0])), (q1, .inr (2, [.ref a2, .ref a3, .int 0])), (a2, .inl (cI, 8, .inl (fun _ => 0))), (a3, .inl (cI, 8, .inl (fun _ => 0))), (q4, .inr (2, [.ref a5, .ref a6, .int 0])), (a5, .inl (cI, 8, .inl (fun _ => 0))), (a6, .inl (cI, 8, .inl (fun _ => 0))), (q7, .inr (1, [.ref a8])), (a8, .inl (cI, 1024, .inl (fun _ => 0))), (q9, .inr (6, [.ref a10, .int 0])), (a10, .inl (cJ, 256, .inr (.inl (fun _ => 0)))), (q11, .inr (5, [.ref b12, .ref b14, .ref b16])), (b12, .inr (0, [.ref b1l13, .int 0])), (b1l13, .inl (cJ, 128, .inr (.inl (fun _ => 0)))), (b14, .inr (0, [.ref b2l15, .int 0])), (b2l15, .inl (cJ, 128, .inr (.inl (fun _ => 0)))), (b16, .inr (0, [.ref b3l17, .int 0])), (b3l17, .inl (cJ, 128, .inr (.inl (fun _ => 0)))), (q18, .inr (3, [.ref a19, .int 0])), (a19, .inl (cI, 64, .inl (fun _ => 0))), (q20, .inr (4, [.ref a21])), (a21, .inl (cI, 256, .inl (fun _ => 0)))] := hD
  refine lv_aload_n hx hb dX7_init_86 rfl (lv_at hl 0 rfl) ?_
  refine lv_lconst (v := 0) hx hb dX7_init_87 (by decide +kernel) ?_
  refine va_put (D := (dC, dI)) (ci := 7) (v := .long 0) (ty := .long) (C := RX7) (T := TX7) (N := 10) hx hb hts hiX7 tyX7 tyX7_ok nmX7 hown hK hP hD hS 0 rfl rfl 8 (by decide) (hts (.fieldLink RX7 58 "MadeItSo" "aboveLine" "J") (by decide +kernel)) (fun _ h9 => h9) rfl (by decide +kernel) rfl rfl (Nat.le_of_ble_eq_true rfl) dX7_init_88 (fun H locs hP hD hS => ?_)
  have hP : va_P (dC, dI) vwCl [(mx, .inr (7, [.ref q1, .ref q4, .ref q7, .ref q9, .ref q11, .ref q18, .ref q20, .int 0, .long 0, .long 0])), (q1, .inr (2, [.ref a2, .ref a3, .int 0])), (a2, .inl (cI, 8, .inl (fun _ => 0))), (a3, .inl (cI, 8, .inl (fun _ => 0))), (q4, .inr (2, [.ref a5, .ref a6, .int 0])), (a5, .inl (cI, 8, .inl (fun _ => 0))), (a6, .inl (cI, 8, .inl (fun _ => 0))), (q7, .inr (1, [.ref a8])), (a8, .inl (cI, 1024, .inl (fun _ => 0))), (q9, .inr (6, [.ref a10, .int 0])), (a10, .inl (cJ, 256, .inr (.inl (fun _ => 0)))), (q11, .inr (5, [.ref b12, .ref b14, .ref b16])), (b12, .inr (0, [.ref b1l13, .int 0])), (b1l13, .inl (cJ, 128, .inr (.inl (fun _ => 0)))), (b14, .inr (0, [.ref b2l15, .int 0])), (b2l15, .inl (cJ, 128, .inr (.inl (fun _ => 0)))), (b16, .inr (0, [.ref b3l17, .int 0])), (b3l17, .inl (cJ, 128, .inr (.inl (fun _ => 0)))), (q18, .inr (3, [.ref a19, .int 0])), (a19, .inl (cI, 64, .inl (fun _ => 0))), (q20, .inr (4, [.ref a21])), (a21, .inl (cI, 256, .inl (fun _ => 0)))] H := hP
  have hD : va_D A [(mx, .inr (7, [.ref q1, .ref q4, .ref q7, .ref q9, .ref q11, .ref q18, .ref q20, .int 0, .long 0, .long 0])), (q1, .inr (2, [.ref a2, .ref a3, .int 0])), (a2, .inl (cI, 8, .inl (fun _ => 0))), (a3, .inl (cI, 8, .inl (fun _ => 0))), (q4, .inr (2, [.ref a5, .ref a6, .int 0])), (a5, .inl (cI, 8, .inl (fun _ => 0))), (a6, .inl (cI, 8, .inl (fun _ => 0))), (q7, .inr (1, [.ref a8])), (a8, .inl (cI, 1024, .inl (fun _ => 0))), (q9, .inr (6, [.ref a10, .int 0])), (a10, .inl (cJ, 256, .inr (.inl (fun _ => 0)))), (q11, .inr (5, [.ref b12, .ref b14, .ref b16])), (b12, .inr (0, [.ref b1l13, .int 0])), (b1l13, .inl (cJ, 128, .inr (.inl (fun _ => 0)))), (b14, .inr (0, [.ref b2l15, .int 0])), (b2l15, .inl (cJ, 128, .inr (.inl (fun _ => 0)))), (b16, .inr (0, [.ref b3l17, .int 0])), (b3l17, .inl (cJ, 128, .inr (.inl (fun _ => 0)))), (q18, .inr (3, [.ref a19, .int 0])), (a19, .inl (cI, 64, .inl (fun _ => 0))), (q20, .inr (4, [.ref a21])), (a21, .inl (cI, 256, .inl (fun _ => 0)))] := hD
  refine lv_aload_n hx hb dX7_init_91 rfl (lv_at hl 0 rfl) ?_
  refine lv_lconst (v := 1) hx hb dX7_init_92 (by decide +kernel) ?_
  refine va_put (D := (dC, dI)) (ci := 7) (v := .long 1) (ty := .long) (C := RX7) (T := TX7) (N := 10) hx hb hts hiX7 tyX7 tyX7_ok nmX7 hown hK hP hD hS 0 rfl rfl 9 (by decide) (hts (.fieldLink RX7 62 "MadeItSo" "belowLine" "J") (by decide +kernel)) (fun _ h9 => h9) rfl (by decide +kernel) rfl rfl (Nat.le_of_ble_eq_true rfl) dX7_init_93 (fun H locs hP hD hS => ?_)
  have hP : va_P (dC, dI) vwCl [(mx, .inr (7, [.ref q1, .ref q4, .ref q7, .ref q9, .ref q11, .ref q18, .ref q20, .int 0, .long 0, .long 1])), (q1, .inr (2, [.ref a2, .ref a3, .int 0])), (a2, .inl (cI, 8, .inl (fun _ => 0))), (a3, .inl (cI, 8, .inl (fun _ => 0))), (q4, .inr (2, [.ref a5, .ref a6, .int 0])), (a5, .inl (cI, 8, .inl (fun _ => 0))), (a6, .inl (cI, 8, .inl (fun _ => 0))), (q7, .inr (1, [.ref a8])), (a8, .inl (cI, 1024, .inl (fun _ => 0))), (q9, .inr (6, [.ref a10, .int 0])), (a10, .inl (cJ, 256, .inr (.inl (fun _ => 0)))), (q11, .inr (5, [.ref b12, .ref b14, .ref b16])), (b12, .inr (0, [.ref b1l13, .int 0])), (b1l13, .inl (cJ, 128, .inr (.inl (fun _ => 0)))), (b14, .inr (0, [.ref b2l15, .int 0])), (b2l15, .inl (cJ, 128, .inr (.inl (fun _ => 0)))), (b16, .inr (0, [.ref b3l17, .int 0])), (b3l17, .inl (cJ, 128, .inr (.inl (fun _ => 0)))), (q18, .inr (3, [.ref a19, .int 0])), (a19, .inl (cI, 64, .inl (fun _ => 0))), (q20, .inr (4, [.ref a21])), (a21, .inl (cI, 256, .inl (fun _ => 0)))] H := hP
  have hD : va_D A [(mx, .inr (7, [.ref q1, .ref q4, .ref q7, .ref q9, .ref q11, .ref q18, .ref q20, .int 0, .long 0, .long 1])), (q1, .inr (2, [.ref a2, .ref a3, .int 0])), (a2, .inl (cI, 8, .inl (fun _ => 0))), (a3, .inl (cI, 8, .inl (fun _ => 0))), (q4, .inr (2, [.ref a5, .ref a6, .int 0])), (a5, .inl (cI, 8, .inl (fun _ => 0))), (a6, .inl (cI, 8, .inl (fun _ => 0))), (q7, .inr (1, [.ref a8])), (a8, .inl (cI, 1024, .inl (fun _ => 0))), (q9, .inr (6, [.ref a10, .int 0])), (a10, .inl (cJ, 256, .inr (.inl (fun _ => 0)))), (q11, .inr (5, [.ref b12, .ref b14, .ref b16])), (b12, .inr (0, [.ref b1l13, .int 0])), (b1l13, .inl (cJ, 128, .inr (.inl (fun _ => 0)))), (b14, .inr (0, [.ref b2l15, .int 0])), (b2l15, .inl (cJ, 128, .inr (.inl (fun _ => 0)))), (b16, .inr (0, [.ref b3l17, .int 0])), (b3l17, .inl (cJ, 128, .inr (.inl (fun _ => 0)))), (q18, .inr (3, [.ref a19, .int 0])), (a19, .inl (cI, 64, .inl (fun _ => 0))), (q20, .inr (4, [.ref a21])), (a21, .inl (cI, 256, .inl (fun _ => 0)))] := hD
  have hP9 := hP.sub (ws' := [(mx, .inr (7, [.ref q1, .ref q4, .ref q7, .ref q9, .ref q11, .ref q18, .ref q20, .int 0, .long 0, .long 1])), (q1, .inr (2, [.ref a2, .ref a3, .int 0])), (a2, .inl (cI, 8, .inl (fun _ => 0))), (a3, .inl (cI, 8, .inl (fun _ => 0))), (q4, .inr (2, [.ref a5, .ref a6, .int 0])), (a5, .inl (cI, 8, .inl (fun _ => 0))), (a6, .inl (cI, 8, .inl (fun _ => 0))), (q7, .inr (1, [.ref a8])), (a8, .inl (cI, 1024, .inl (fun _ => 0))), (q9, .inr (6, [.ref a10, .int 0])), (a10, .inl (cJ, 256, .inr (.inl (fun _ => 0)))), (q11, .inr (5, [.ref b12, .ref b14, .ref b16])), (b12, .inr (0, [.ref b1l13, .int 0])), (b1l13, .inl (cJ, 128, .inr (.inl (fun _ => 0)))), (b14, .inr (0, [.ref b2l15, .int 0])), (b2l15, .inl (cJ, 128, .inr (.inl (fun _ => 0)))), (b16, .inr (0, [.ref b3l17, .int 0])), (b3l17, .inl (cJ, 128, .inr (.inl (fun _ => 0)))), (q18, .inr (3, [.ref a19, .int 0])), (a19, .inl (cI, 64, .inl (fun _ => 0))), (q20, .inr (4, [.ref a21])), (a21, .inl (cI, 256, .inl (fun _ => 0)))]) [0, 1, 2, 3, 4, 5, 6, 7, 8, 9, 10, 11, 12, 13, 14, 15, 16, 17, 18, 19, 20, 21] rfl
  have hD9 := hD.sub (ws' := [(mx, .inr (7, [.ref q1, .ref q4, .ref q7, .ref q9, .ref q11, .ref q18, .ref q20, .int 0, .long 0, .long 1])), (q1, .inr (2, [.ref a2, .ref a3, .int 0])), (a2, .inl (cI, 8, .inl (fun _ => 0))), (a3, .inl (cI, 8, .inl (fun _ => 0))), (q4, .inr (2, [.ref a5, .ref a6, .int 0])), (a5, .inl (cI, 8, .inl (fun _ => 0))), (a6, .inl (cI, 8, .inl (fun _ => 0))), (q7, .inr (1, [.ref a8])), (a8, .inl (cI, 1024, .inl (fun _ => 0))), (q9, .inr (6, [.ref a10, .int 0])), (a10, .inl (cJ, 256, .inr (.inl (fun _ => 0)))), (q11, .inr (5, [.ref b12, .ref b14, .ref b16])), (b12, .inr (0, [.ref b1l13, .int 0])), (b1l13, .inl (cJ, 128, .inr (.inl (fun _ => 0)))), (b14, .inr (0, [.ref b2l15, .int 0])), (b2l15, .inl (cJ, 128, .inr (.inl (fun _ => 0)))), (b16, .inr (0, [.ref b3l17, .int 0])), (b3l17, .inl (cJ, 128, .inr (.inl (fun _ => 0)))), (q18, .inr (3, [.ref a19, .int 0])), (a19, .inl (cI, 64, .inl (fun _ => 0))), (q20, .inr (4, [.ref a21])), (a21, .inl (cI, 256, .inl (fun _ => 0)))]) [0, 1, 2, 3, 4, 5, 6, 7, 8, 9, 10, 11, 12, 13, 14, 15, 16, 17, 18, 19, 20, 21] (by decide) rfl
  refine W.widen (k := 21) (n := 2037) (Nat.le_of_ble_eq_true rfl) (Nat.le_of_ble_eq_true rfl) ?_
  exact W.vret hx hb hr (fun t ht hW => ⟨⟨(), rfl, trivial, q1, a2, a3, q4, a5, a6, q7, a8, q9, a10, q11, b12, b1l13, b14, b2l15, b16, b3l17, q18, a19, q20, a21, by rw [ht]; exact hP9, hD9⟩, hS.F ht⟩) hS.2.2 dX7_init_96
end
section
/-! MadeItSo without things: every method answers so -/
set_option maxHeartbeats 1000000 in
set_option maxRecDepth 100000 in
theorem mz_bit0 (l : Launch) (dC : Nat → ClassId) (dI : Nat → Nat → Nat) (cI cJ cZ : ClassId)  (Hq : Heap)  : Met l yX7_bit wsX7_bit ({ frames := 0, cells := 0, slots := 0, locals := 0 }) (va_Pc [.int 0] (fun U => U.heap = Hq ∧ va_P (dC, dI) vwCl [] Hq ∧ va_K (dC, dI) vwCl [(cI, FieldType.int), (cJ, FieldType.long), (cZ, FieldType.boolean)] U ∧ mz_N U)) (va_Qi (fun (r : Int32) (_ : Unit) => r = 1) (fun _ t => t.heap = Hq) (fun _ : Nat => False)) 0 0 (fun _ : Nat => False) := by
  refine Met.ofW (cc := cX7_bit) (maxL := 1) (ret := (some .int)) (by decide) rfl ?_
  intro p e s m args below meth c s₁ B hml hv
  obtain ⟨rfl, hH, hP, hK, hN⟩ := hv
  subst hH
  have hx := B.exec
  have hb := B.bytes
  have hr := B.returns
  have hts := atoms_spec (ws := wsX7_bit) B.pre
  have hown : s.vm.findClass RX7 = some m.cls := findClass_of_methodNamed B.named
  have hlocks := B.notSynchronized
  have hS : va_S (fun _ : Nat => False) s.heap s.heap [] := va_S.rf
  have hl := lv_entry ([.int 0]) (n := 1) (Nat.le_of_ble_eq_true rfl)
  rw [lg_entry_eq]
  generalize (lg_sl ([.int 0]) ++ List.replicate (1 - (lg_sl ([.int 0])).length) Slot.unset).toArray = ls at hl ⊢
  have hl : lv_has ls 1 [(0, .int 0)] := hl
  refine lv_iconst (v := 1) hx hb dX7_bit_0 (by decide +kernel) ?_
  refine lv_iload_n hx hb dX7_bit_1 rfl (lv_at hl 0 rfl) ?_
  refine lv_ishl hx hb dX7_bit_2 ?_
  refine mz_ti (y := 1) (by decide +kernel) ?_
  refine W.widen (k := 0) (n := 0) (Nat.le_of_ble_eq_true rfl) (Nat.le_of_ble_eq_true rfl) ?_
  exact W.iret (v := 1) hx hb hr (fun t ht hW => ⟨⟨1, (), rfl, rfl, ht⟩, hS.F ht⟩) hS.2.2 dX7_bit_3
set_option maxHeartbeats 1000000 in
set_option maxRecDepth 100000 in
theorem mz_inHeap0 (l : Launch) (dC : Nat → ClassId) (dI : Nat → Nat → Nat) (cI cJ cZ : ClassId) (p1 : Int32) (Hq : Heap)  : Met l yX7_inHeap wsX7_inHeap ({ frames := 0, cells := 0, slots := 0, locals := 0 }) (va_Pc [.int 0, .int p1] (fun U => U.heap = Hq ∧ va_P (dC, dI) vwCl [] Hq ∧ va_K (dC, dI) vwCl [(cI, FieldType.int), (cJ, FieldType.long), (cZ, FieldType.boolean)] U ∧ mz_N U)) (va_Qi (fun (r : Int32) (_ : Unit) => r = 0) (fun _ t => t.heap = Hq) (fun _ : Nat => False)) 0 0 (fun _ : Nat => False) := by
  refine Met.ofW (cc := cX7_inHeap) (maxL := 2) (ret := (some .boolean)) (by decide) rfl ?_
  intro p e s m args below meth c s₁ B hml hv
  obtain ⟨rfl, hH, hP, hK, hN⟩ := hv
  subst hH
  have hx := B.exec
  have hb := B.bytes
  have hr := B.returns
  have hts := atoms_spec (ws := wsX7_inHeap) B.pre
  have hown : s.vm.findClass RX7 = some m.cls := findClass_of_methodNamed B.named
  have hlocks := B.notSynchronized
  have hS : va_S (fun _ : Nat => False) s.heap s.heap [] := va_S.rf
  have hl := lv_entry ([.int 0, .int p1]) (n := 2) (Nat.le_of_ble_eq_true rfl)
  rw [lg_entry_eq]
  generalize (lg_sl ([.int 0, .int p1]) ++ List.replicate (2 - (lg_sl ([.int 0, .int p1])).length) Slot.unset).toArray = ls at hl ⊢
  have hl : lv_has ls 2 [(0, .int 0), (1, .int p1)] := hl
  refine lv_iload_n hx hb dX7_inHeap_0 rfl (lv_at hl 0 rfl) ?_
  refine lv_iload_n hx hb dX7_inHeap_1 rfl (lv_at hl 1 rfl) ?_
  refine lv_ishr hx hb dX7_inHeap_2 ?_
  refine mz_ti (y := 0) (mz_0s _) ?_
  refine lv_iconst (v := 1) hx hb dX7_inHeap_3 (by decide +kernel) ?_
  refine lv_iand hx hb dX7_inHeap_4 ?_
  refine mz_ti (y := 0) (by decide +kernel) ?_
  refine lv_iconst (v := 1) hx hb dX7_inHeap_5 (by decide +kernel) ?_
  refine lv_icmp_ne (tgt := 13) hx hb dX7_inHeap_6 (by decide) (fun _ => ?_) (fun c_6 => absurd c_6 (by decide +kernel))
  refine lv_iconst (v := 0) hx hb dX7_inHeap_13 (by decide +kernel) ?_
  refine W.widen (k := 0) (n := 0) (Nat.le_of_ble_eq_true rfl) (Nat.le_of_ble_eq_true rfl) ?_
  exact W.zret (v := 0) hx hb hr (mz_nz (by decide +kernel)) (fun t ht hW => ⟨⟨0, (), rfl, rfl, ht⟩, hS.F ht⟩) hS.2.2 dX7_inHeap_14
set_option maxHeartbeats 1000000 in
set_option maxRecDepth 100000 in
theorem mz_heapOf (l : Launch) (dC : Nat → ClassId) (dI : Nat → Nat → Nat) (cI cJ cZ : ClassId) (p0 : Int32) (Hq : Heap)  : Met l yX7_heapOf wsX7_heapOf ({ frames := 0, cells := 0, slots := 0, locals := 0 }) (va_Pc [.int p0] (fun U => U.heap = Hq ∧ va_P (dC, dI) vwCl [] Hq ∧ va_K (dC, dI) vwCl [(cI, FieldType.int), (cJ, FieldType.long), (cZ, FieldType.boolean)] U ∧ mz_N U)) (va_Qi (fun (r : Int32) (_ : Unit) => r = (p0 &&& 255)) (fun _ t => t.heap = Hq) (fun _ : Nat => False)) 0 0 (fun _ : Nat => False) := by
  refine Met.ofW (cc := cX7_heapOf) (maxL := 1) (ret := (some .int)) (by decide) rfl ?_
  intro p e s m args below meth c s₁ B hml hv
  obtain ⟨rfl, hH, hP, hK, hN⟩ := hv
  subst hH
  have hx := B.exec
  have hb := B.bytes
  have hr := B.returns
  have hts := atoms_spec (ws := wsX7_heapOf) B.pre
  have hown : s.vm.findClass RX7 = some m.cls := findClass_of_methodNamed B.named
  have hlocks := B.notSynchronized
  have hS : va_S (fun _ : Nat => False) s.heap s.heap [] := va_S.rf
  have hl := lv_entry ([.int p0]) (n := 1) (Nat.le_of_ble_eq_true rfl)
  rw [lg_entry_eq]
  generalize (lg_sl ([.int p0]) ++ List.replicate (1 - (lg_sl ([.int p0])).length) Slot.unset).toArray = ls at hl ⊢
  have hl : lv_has ls 1 [(0, .int p0)] := hl
  refine lv_iload_n hx hb dX7_heapOf_0 rfl (lv_at hl 0 rfl) ?_
  refine lv_sipush (v := 255) hx hb dX7_heapOf_1 (by decide +kernel) ?_
  refine lv_iand hx hb dX7_heapOf_4 ?_
  refine W.widen (k := 0) (n := 0) (Nat.le_of_ble_eq_true rfl) (Nat.le_of_ble_eq_true rfl) ?_
  exact W.iret (v := (p0 &&& 255)) hx hb hr (fun t ht hW => ⟨⟨(p0 &&& 255), (), rfl, rfl, ht⟩, hS.F ht⟩) hS.2.2 dX7_heapOf_5
set_option maxHeartbeats 1000000 in
set_option maxRecDepth 100000 in
theorem mz_onesOf (l : Launch) (dC : Nat → ClassId) (dI : Nat → Nat → Nat) (cI cJ cZ : ClassId) (p0 : Int32) (Hq : Heap)  : Met l yX7_onesOf wsX7_onesOf ({ frames := 0, cells := 0, slots := 0, locals := 0 }) (va_Pc [.int p0] (fun U => U.heap = Hq ∧ va_P (dC, dI) vwCl [] Hq ∧ va_K (dC, dI) vwCl [(cI, FieldType.int), (cJ, FieldType.long), (cZ, FieldType.boolean)] U ∧ mz_N U)) (va_Qi (fun (r : Int32) (_ : Unit) => r = ((p0 >>> (8 &&& 31)) &&& 255)) (fun _ t => t.heap = Hq) (fun _ : Nat => False)) 0 0 (fun _ : Nat => False) := by
  refine Met.ofW (cc := cX7_onesOf) (maxL := 1) (ret := (some .int)) (by decide) rfl ?_
  intro p e s m args below meth c s₁ B hml hv
  obtain ⟨rfl, hH, hP, hK, hN⟩ := hv
  subst hH
  have hx := B.exec
  have hb := B.bytes
  have hr := B.returns
  have hts := atoms_spec (ws := wsX7_onesOf) B.pre
  have hown : s.vm.findClass RX7 = some m.cls := findClass_of_methodNamed B.named
  have hlocks := B.notSynchronized
  have hS : va_S (fun _ : Nat => False) s.heap s.heap [] := va_S.rf
  have hl := lv_entry ([.int p0]) (n := 1) (Nat.le_of_ble_eq_true rfl)
  rw [lg_entry_eq]
  generalize (lg_sl ([.int p0]) ++ List.replicate (1 - (lg_sl ([.int p0])).length) Slot.unset).toArray = ls at hl ⊢
  have hl : lv_has ls 1 [(0, .int p0)] := hl
  refine lv_iload_n hx hb dX7_onesOf_0 rfl (lv_at hl 0 rfl) ?_
  refine lv_bipush (v := 8) hx hb dX7_onesOf_1 (by decide +kernel) ?_
  refine lv_ishr hx hb dX7_onesOf_3 ?_
  refine lv_sipush (v := 255) hx hb dX7_onesOf_4 (by decide +kernel) ?_
  refine lv_iand hx hb dX7_onesOf_7 ?_
  refine W.widen (k := 0) (n := 0) (Nat.le_of_ble_eq_true rfl) (Nat.le_of_ble_eq_true rfl) ?_
  exact W.iret (v := ((p0 >>> (8 &&& 31)) &&& 255)) hx hb hr (fun t ht hW => ⟨⟨((p0 >>> (8 &&& 31)) &&& 255), (), rfl, rfl, ht⟩, hS.F ht⟩) hS.2.2 dX7_onesOf_8
set_option maxHeartbeats 1000000 in
set_option maxRecDepth 100000 in
theorem mz_bitCount0 (l : Launch) (dC : Nat → ClassId) (dI : Nat → Nat → Nat) (cI cJ cZ : ClassId)  (Hq : Heap)  : Met l yJ6_bitCount_0f7a4 wsJ6_bitCount_0f7a4 ({ frames := 0, cells := 0, slots := 0, locals := 0 }) (va_Pc [.int 0] (fun U => U.heap = Hq ∧ va_P (dC, dI) vwCl [] Hq ∧ va_K (dC, dI) vwCl [(cI, FieldType.int), (cJ, FieldType.long), (cZ, FieldType.boolean)] U ∧ mz_N U)) (va_Qi (fun (r : Int32) (_ : Unit) => r = 0) (fun _ t => t.heap = Hq) (fun _ : Nat => False)) 0 0 (fun _ : Nat => False) := by
  refine Met.ofW (cc := cJ6_bitCount_0f7a4) (maxL := 1) (ret := (some .int)) (by decide) rfl ?_
  intro p e s m args below meth c s₁ B hml hv
  obtain ⟨rfl, hH, hP, hK, hN⟩ := hv
  subst hH
  have hx := B.exec
  have hb := B.bytes
  have hr := B.returns
  have hts := atoms_spec (ws := wsJ6_bitCount_0f7a4) B.pre
  have hown : s.vm.findClass RJ6 = some m.cls := findClass_of_methodNamed B.named
  have hlocks := B.notSynchronized
  have hS : va_S (fun _ : Nat => False) s.heap s.heap [] := va_S.rf
  have hl := lv_entry ([.int 0]) (n := 1) (Nat.le_of_ble_eq_true rfl)
  rw [lg_entry_eq]
  generalize (lg_sl ([.int 0]) ++ List.replicate (1 - (lg_sl ([.int 0])).length) Slot.unset).toArray = ls at hl ⊢
  have hl : lv_has ls 1 [(0, .int 0)] := hl
  refine lv_iload_n hx hb dJ6_bitCount_0f7a4_0 rfl (lv_at hl 0 rfl) ?_
  refine lv_iload_n hx hb dJ6_bitCount_0f7a4_1 rfl (lv_at hl 0 rfl) ?_
  refine lv_iconst (v := 1) hx hb dJ6_bitCount_0f7a4_2 (by decide +kernel) ?_
  refine lv_iushr (v := 0) hx hb dJ6_bitCount_0f7a4_3 (by decide +kernel) ?_
  refine lv_ldcw hx hb hown (hts (.constant RJ6 265 (1431655765)) (by decide +kernel)) dJ6_bitCount_0f7a4_4 ?_
  refine lv_iand hx hb dJ6_bitCount_0f7a4_7 ?_
  refine mz_ti (y := 0) (by decide +kernel) ?_
  refine lv_isub hx hb dJ6_bitCount_0f7a4_8 ?_
  refine mz_ti (y := 0) (by decide +kernel) ?_
  refine lv_istore_n (lv' := [(0, .int 0)]) hx hb dJ6_bitCount_0f7a4_9 rfl hl (by decide) rfl (fun ls hl => ?_)
  refine lv_iload_n hx hb dJ6_bitCount_0f7a4_10 rfl (lv_at hl 0 rfl) ?_
  refine lv_ldcw hx hb hown (hts (.constant RJ6 266 (858993459)) (by decide +kernel)) dJ6_bitCount_0f7a4_11 ?_
  refine lv_iand hx hb dJ6_bitCount_0f7a4_14 ?_
  refine mz_ti (y := 0) (by decide +kernel) ?_
  refine lv_iload_n hx hb dJ6_bitCount_0f7a4_15 rfl (lv_at hl 0 rfl) ?_
  refine lv_iconst (v := 2) hx hb dJ6_bitCount_0f7a4_16 (by decide +kernel) ?_
  refine lv_iushr (v := 0) hx hb dJ6_bitCount_0f7a4_17 (by decide +kernel) ?_
  refine lv_ldcw hx hb hown (hts (.constant RJ6 266 (858993459)) (by decide +kernel)) dJ6_bitCount_0f7a4_18 ?_
  refine lv_iand hx hb dJ6_bitCount_0f7a4_21 ?_
  refine mz_ti (y := 0) (by decide +kernel) ?_
  refine lv_iadd hx hb dJ6_bitCount_0f7a4_22 ?_
  refine mz_ti (y := 0) (by decide +kernel) ?_
  refine lv_istore_n (lv' := [(0, .int 0)]) hx hb dJ6_bitCount_0f7a4_23 rfl hl (by decide) rfl (fun ls hl => ?_)
  refine lv_iload_n hx hb dJ6_bitCount_0f7a4_24 rfl (lv_at hl 0 rfl) ?_
  refine lv_iload_n hx hb dJ6_bitCount_0f7a4_25 rfl (lv_at hl 0 rfl) ?_
  refine lv_iconst (v := 4) hx hb dJ6_bitCount_0f7a4_26 (by decide +kernel) ?_
  refine lv_iushr (v := 0) hx hb dJ6_bitCount_0f7a4_27 (by decide +kernel) ?_
  refine lv_iadd hx hb dJ6_bitCount_0f7a4_28 ?_
  refine mz_ti (y := 0) (by decide +kernel) ?_
  refine lv_ldcw hx hb hown (hts (.constant RJ6 267 (252645135)) (by decide +kernel)) dJ6_bitCount_0f7a4_29 ?_
  refine lv_iand hx hb dJ6_bitCount_0f7a4_32 ?_
  refine mz_ti (y := 0) (by decide +kernel) ?_
  refine lv_istore_n (lv' := [(0, .int 0)]) hx hb dJ6_bitCount_0f7a4_33 rfl hl (by decide) rfl (fun ls hl => ?_)
  refine lv_iload_n hx hb dJ6_bitCount_0f7a4_34 rfl (lv_at hl 0 rfl) ?_
  refine lv_iload_n hx hb dJ6_bitCount_0f7a4_35 rfl (lv_at hl 0 rfl) ?_
  refine lv_bipush (v := 8) hx hb dJ6_bitCount_0f7a4_36 (by decide +kernel) ?_
  refine lv_iushr (v := 0) hx hb dJ6_bitCount_0f7a4_38 (by decide +kernel) ?_
  refine lv_iadd hx hb dJ6_bitCount_0f7a4_39 ?_
  refine mz_ti (y := 0) (by decide +kernel) ?_
  refine lv_istore_n (lv' := [(0, .int 0)]) hx hb dJ6_bitCount_0f7a4_40 rfl hl (by decide) rfl (fun ls hl => ?_)
  refine lv_iload_n hx hb dJ6_bitCount_0f7a4_41 rfl (lv_at hl 0 rfl) ?_
  refine lv_iload_n hx hb dJ6_bitCount_0f7a4_42 rfl (lv_at hl 0 rfl) ?_
  refine lv_bipush (v := 16) hx hb dJ6_bitCount_0f7a4_43 (by decide +kernel) ?_
  refine lv_iushr (v := 0) hx hb dJ6_bitCount_0f7a4_45 (by decide +kernel) ?_
  refine lv_iadd hx hb dJ6_bitCount_0f7a4_46 ?_
  refine mz_ti (y := 0) (by decide +kernel) ?_
  refine lv_istore_n (lv' := [(0, .int 0)]) hx hb dJ6_bitCount_0f7a4_47 rfl hl (by decide) rfl (fun ls hl => ?_)
  refine lv_iload_n hx hb dJ6_bitCount_0f7a4_48 rfl (lv_at hl 0 rfl) ?_
  refine lv_bipush (v := 63) hx hb dJ6_bitCount_0f7a4_49 (by decide +kernel) ?_
  refine lv_iand hx hb dJ6_bitCount_0f7a4_51 ?_
  refine mz_ti (y := 0) (by decide +kernel) ?_
  refine W.widen (k := 0) (n := 0) (Nat.le_of_ble_eq_true rfl) (Nat.le_of_ble_eq_true rfl) ?_
  exact W.iret (v := 0) hx hb hr (fun t ht hW => ⟨⟨0, (), rfl, rfl, ht⟩, hS.F ht⟩) hS.2.2 dJ6_bitCount_0f7a4_52
set_option maxHeartbeats 1000000 in
set_option maxRecDepth 100000 in
theorem mz_partsOf0 (l : Launch) (dC : Nat → ClassId) (dI : Nat → Nat → Nat) (cI cJ cZ : ClassId)  (Hq : Heap)  : Met l yX7_partsOf wsX7_partsOf ({ frames := 1, cells := 0, slots := 0, locals := 20 }) (va_Pc [.int 0] (fun U => U.heap = Hq ∧ va_P (dC, dI) vwCl [] Hq ∧ va_K (dC, dI) vwCl [(cI, FieldType.int), (cJ, FieldType.long), (cZ, FieldType.boolean)] U ∧ mz_N U)) (va_Qi (fun (r : Int32) (_ : Unit) => r = 1) (fun _ t => t.heap = Hq) (fun _ : Nat => False)) 0 0 (fun _ : Nat => False) := by
  refine Met.ofW (cc := cX7_partsOf) (maxL := 1) (ret := (some .int)) (by decide) rfl ?_
  intro p e s m args below meth c s₁ B hml hv
  obtain ⟨rfl, hH, hP, hK, hN⟩ := hv
  subst hH
  have hx := B.exec
  have hb := B.bytes
  have hr := B.returns
  have hts := atoms_spec (ws := wsX7_partsOf) B.pre
  have hown : s.vm.findClass RX7 = some m.cls := findClass_of_methodNamed B.named
  have hlocks := B.notSynchronized
  have hS : va_S (fun _ : Nat => False) s.heap s.heap [] := va_S.rf
  have hl := lv_entry ([.int 0]) (n := 1) (Nat.le_of_ble_eq_true rfl)
  rw [lg_entry_eq]
  generalize (lg_sl ([.int 0]) ++ List.replicate (1 - (lg_sl ([.int 0])).length) Slot.unset).toArray = ls at hl ⊢
  have hl : lv_has ls 1 [(0, .int 0)] := hl
  refine lv_iconst (v := 1) hx hb dX7_partsOf_0 (by decide +kernel) ?_
  refine lv_iload_n hx hb dX7_partsOf_1 rfl (lv_at hl 0 rfl) ?_
  have hPc := hP.sub (ws' := []) [] rfl
  refine va_calli (va_runS (As := [.int 0]) (rest := [.int 1]) ⟨hx, hb, hml, hown, hts⟩ (mz_bitCount0 l dC dI cI cJ cZ  s.heap ) (va_cwS 1 hts gX7_partsOf_J6_bitCount_0f7a4 rfl rfl rfl (by decide +kernel) ⟨Nat.le_of_ble_eq_true rfl, Nat.le_of_ble_eq_true rfl⟩) ⟨fun a U g mk q => mz_blP q, fun U hU hW => ⟨rfl, hU, hPc, va_K.moved hW.alike hK, mz_nw hW hN⟩⟩ rfl rfl hl.1 rfl (lv_room (Nat.le_of_ble_eq_true rfl)) dX7_partsOf_2 ⟨Nat.le_of_ble_eq_true rfl, Nat.le_of_ble_eq_true rfl⟩) hS (fun q _ h => h.elim) (fun q h => h.elim) (fun r u t H1 locs ht hvm hw hB hz1 hk1 hS => ?_)
  have hE : s.heap = H1 := hB.symm.trans ht
  subst hE
  obtain rfl : r = 0 := hw
  refine lv_ishl hx hb dX7_partsOf_5 ?_
  refine mz_ti (y := 1) (by decide +kernel) ?_
  refine W.widen (k := 0) (n := 0) (Nat.le_of_ble_eq_true rfl) (Nat.le_of_ble_eq_true rfl) ?_
  exact W.iret (v := 1) hx hb hr (fun t ht hW => ⟨⟨1, (), rfl, rfl, ht⟩, hS.F ht⟩) hS.2.2 dX7_partsOf_6
set_option maxHeartbeats 1000000 in
set_option maxRecDepth 100000 in
theorem mz_nextPart0 (l : Launch) (dC : Nat → ClassId) (dI : Nat → Nat → Nat) (cI cJ cZ : ClassId)  (Hq : Heap)  : Met l yX7_nextPart wsX7_nextPart ({ frames := 0, cells := 0, slots := 0, locals := 0 }) (va_Pc [.int 0, .int 0] (fun U => U.heap = Hq ∧ va_P (dC, dI) vwCl [] Hq ∧ va_K (dC, dI) vwCl [(cI, FieldType.int), (cJ, FieldType.long), (cZ, FieldType.boolean)] U ∧ mz_N U)) (va_Qi (fun (r : Int32) (_ : Unit) => r = 0) (fun _ t => t.heap = Hq) (fun _ : Nat => False)) 0 0 (fun _ : Nat => False) := by
  refine Met.ofW (cc := cX7_nextPart) (maxL := 2) (ret := (some .int)) (by decide) rfl ?_
  intro p e s m args below meth c s₁ B hml hv
  obtain ⟨rfl, hH, hP, hK, hN⟩ := hv
  subst hH
  have hx := B.exec
  have hb := B.bytes
  have hr := B.returns
  have hts := atoms_spec (ws := wsX7_nextPart) B.pre
  have hown : s.vm.findClass RX7 = some m.cls := findClass_of_methodNamed B.named
  have hlocks := B.notSynchronized
  have hS : va_S (fun _ : Nat => False) s.heap s.heap [] := va_S.rf
  have hl := lv_entry ([.int 0, .int 0]) (n := 2) (Nat.le_of_ble_eq_true rfl)
  rw [lg_entry_eq]
  generalize (lg_sl ([.int 0, .int 0]) ++ List.replicate (2 - (lg_sl ([.int 0, .int 0])).length) Slot.unset).toArray = ls at hl ⊢
  have hl : lv_has ls 2 [(0, .int 0), (1, .int 0)] := hl
  refine lv_iload_n hx hb dX7_nextPart_0 rfl (lv_at hl 0 rfl) ?_
  refine lv_iload_n hx hb dX7_nextPart_1 rfl (lv_at hl 1 rfl) ?_
  refine lv_isub hx hb dX7_nextPart_2 ?_
  refine mz_ti (y := 0) (by decide +kernel) ?_
  refine lv_iload_n hx hb dX7_nextPart_3 rfl (lv_at hl 1 rfl) ?_
  refine lv_iand hx hb dX7_nextPart_4 ?_
  refine mz_ti (y := 0) (by decide +kernel) ?_
  refine W.widen (k := 0) (n := 0) (Nat.le_of_ble_eq_true rfl) (Nat.le_of_ble_eq_true rfl) ?_
  exact W.iret (v := 0) hx hb hr (fun t ht hW => ⟨⟨0, (), rfl, rfl, ht⟩, hS.F ht⟩) hS.2.2 dX7_nextPart_5
set_option maxHeartbeats 1000000 in
set_option maxRecDepth 100000 in
theorem mz_clash0 (l : Launch) (dC : Nat → ClassId) (dI : Nat → Nat → Nat) (cI cJ cZ : ClassId)  (Hq : Heap)  : Met l yX7_clash wsX7_clash ({ frames := 1, cells := 0, slots := 0, locals := 20 }) (va_Pc [.int 0, .int 0] (fun U => U.heap = Hq ∧ va_P (dC, dI) vwCl [] Hq ∧ va_K (dC, dI) vwCl [(cI, FieldType.int), (cJ, FieldType.long), (cZ, FieldType.boolean)] U ∧ mz_N U)) (va_Qi (fun (r : Int32) (_ : Unit) => r = 0) (fun _ t => t.heap = Hq) (fun _ : Nat => False)) 0 0 (fun _ : Nat => False) := by
  refine Met.ofW (cc := cX7_clash) (maxL := 2) (ret := (some .boolean)) (by decide) rfl ?_
  intro p e s m args below meth c s₁ B hml hv
  obtain ⟨rfl, hH, hP, hK, hN⟩ := hv
  subst hH
  have hx := B.exec
  have hb := B.bytes
  have hr := B.returns
  have hts := atoms_spec (ws := wsX7_clash) B.pre
  have hown : s.vm.findClass RX7 = some m.cls := findClass_of_methodNamed B.named
  have hlocks := B.notSynchronized
  have hS : va_S (fun _ : Nat => False) s.heap s.heap [] := va_S.rf
  have hl := lv_entry ([.int 0, .int 0]) (n := 2) (Nat.le_of_ble_eq_true rfl)
  rw [lg_entry_eq]
  generalize (lg_sl ([.int 0, .int 0]) ++ List.replicate (2 - (lg_sl ([.int 0, .int 0])).length) Slot.unset).toArray = ls at hl ⊢
  have hl : lv_has ls 2 [(0, .int 0), (1, .int 0)] := hl
  refine lv_iload_n hx hb dX7_clash_0 rfl (lv_at hl 0 rfl) ?_
  have hPc := hP.sub (ws' := []) [] rfl
  refine va_calli (va_runS (As := [.int 0]) (rest := []) ⟨hx, hb, hml, hown, hts⟩ (mz_heapOf l dC dI cI cJ cZ 0 s.heap ) (va_cwS 1 hts gX7_clash_X7_heapOf rfl rfl rfl (by decide +kernel) ⟨Nat.le_of_ble_eq_true rfl, Nat.le_of_ble_eq_true rfl⟩) ⟨fun a U g mk q => mz_blP q, fun U hU hW => ⟨rfl, hU, hPc, va_K.moved hW.alike hK, mz_nw hW hN⟩⟩ rfl rfl hl.1 rfl (lv_room (Nat.le_of_ble_eq_true rfl)) dX7_clash_1 ⟨Nat.le_of_ble_eq_true rfl, Nat.le_of_ble_eq_true rfl⟩) hS (fun q _ h => h.elim) (fun q h => h.elim) (fun r u t H1 locs ht hvm hw hB hz1 hk1 hS => ?_)
  have hE : s.heap = H1 := hB.symm.trans ht
  subst hE
  obtain rfl : r = ((0 : Int32) &&& 255) := hw
  refine mz_ti (y := 0) (by decide +kernel) ?_
  refine lv_iload_n hx hb dX7_clash_4 rfl (lv_at hl 1 rfl) ?_
  have hPc := hP.sub (ws' := []) [] rfl
  refine va_calli (va_runS (As := [.int 0]) (rest := [.int 0]) ⟨hx, hb, hml, hown, hts⟩ (mz_heapOf l dC dI cI cJ cZ 0 s.heap ) (va_cwS 1 hts gX7_clash_X7_heapOf rfl rfl rfl (by decide +kernel) ⟨Nat.le_of_ble_eq_true rfl, Nat.le_of_ble_eq_true rfl⟩) ⟨fun a U g mk q => mz_blP q, fun U hU hW => ⟨rfl, hU, hPc, va_K.moved hW.alike hK, mz_nw hW hN⟩⟩ rfl rfl hl.1 rfl (lv_room (Nat.le_of_ble_eq_true rfl)) dX7_clash_5 ⟨Nat.le_of_ble_eq_true rfl, Nat.le_of_ble_eq_true rfl⟩) hS (fun q _ h => h.elim) (fun q h => h.elim) (fun r u t H1 locs ht hvm hw hB hz1 hk1 hS => ?_)
  have hE : s.heap = H1 := hB.symm.trans ht
  subst hE
  obtain rfl : r = ((0 : Int32) &&& 255) := hw
  refine mz_ti (y := 0) (by decide +kernel) ?_
  refine lv_iand hx hb dX7_clash_8 ?_
  refine mz_ti (y := 0) (by decide +kernel) ?_
  refine lv_iload_n hx hb dX7_clash_9 rfl (lv_at hl 0 rfl) ?_
  have hPc := hP.sub (ws' := []) [] rfl
  refine va_calli (va_runS (As := [.int 0]) (rest := [.int 0]) ⟨hx, hb, hml, hown, hts⟩ (mz_onesOf l dC dI cI cJ cZ 0 s.heap ) (va_cwS 1 hts gX7_clash_X7_onesOf rfl rfl rfl (by decide +kernel) ⟨Nat.le_of_ble_eq_true rfl, Nat.le_of_ble_eq_true rfl⟩) ⟨fun a U g mk q => mz_blP q, fun U hU hW => ⟨rfl, hU, hPc, va_K.moved hW.alike hK, mz_nw hW hN⟩⟩ rfl rfl hl.1 rfl (lv_room (Nat.le_of_ble_eq_true rfl)) dX7_clash_10 ⟨Nat.le_of_ble_eq_true rfl, Nat.le_of_ble_eq_true rfl⟩) hS (fun q _ h => h.elim) (fun q h => h.elim) (fun r u t H1 locs ht hvm hw hB hz1 hk1 hS => ?_)
  have hE : s.heap = H1 := hB.symm.trans ht
  subst hE
  obtain rfl : r = (((0 : Int32) >>> (8 &&& 31)) &&& 255) := hw
  refine mz_ti (y := 0) (by decide +kernel) ?_
  refine lv_iload_n hx hb dX7_clash_13 rfl (lv_at hl 1 rfl) ?_
  have hPc := hP.sub (ws' := []) [] rfl
  refine va_calli (va_runS (As := [.int 0]) (rest := [.int 0, .int 0]) ⟨hx, hb, hml, hown, hts⟩ (mz_onesOf l dC dI cI cJ cZ 0 s.heap ) (va_cwS 1 hts gX7_clash_X7_onesOf rfl rfl rfl (by decide +kernel) ⟨Nat.le_of_ble_eq_true rfl, Nat.le_of_ble_eq_true rfl⟩) ⟨fun a U g mk q => mz_blP q, fun U hU hW => ⟨rfl, hU, hPc, va_K.moved hW.alike hK, mz_nw hW hN⟩⟩ rfl rfl hl.1 rfl (lv_room (Nat.le_of_ble_eq_true rfl)) dX7_clash_14 ⟨Nat.le_of_ble_eq_true rfl, Nat.le_of_ble_eq_true rfl⟩) hS (fun q _ h => h.elim) (fun q h => h.elim) (fun r u t H1 locs ht hvm hw hB hz1 hk1 hS => ?_)
  have hE : s.heap = H1 := hB.symm.trans ht
  subst hE
  obtain rfl : r = (((0 : Int32) >>> (8 &&& 31)) &&& 255) := hw
  refine mz_ti (y := 0) (by decide +kernel) ?_
  refine lv_ixor hx hb dX7_clash_17 ?_
  refine mz_ti (y := 0) (by decide +kernel) ?_
  refine lv_iand hx hb dX7_clash_18 ?_
  refine mz_ti (y := 0) (by decide +kernel) ?_
  refine lv_if_eq (tgt := 26) hx hb dX7_clash_19 (by decide) (fun _ => ?_) (fun c_19 => absurd (by decide +kernel) c_19)
  refine lv_iconst (v := 0) hx hb dX7_clash_26 (by decide +kernel) ?_
  refine W.widen (k := 0) (n := 0) (Nat.le_of_ble_eq_true rfl) (Nat.le_of_ble_eq_true rfl) ?_
  exact W.zret (v := 0) hx hb hr (mz_nz (by decide +kernel)) (fun t ht hW => ⟨⟨0, (), rfl, rfl, ht⟩, hS.F ht⟩) hS.2.2 dX7_clash_27
set_option maxHeartbeats 1000000 in
set_option maxRecDepth 100000 in
theorem mz_commonDivisor1 (l : Launch) (dC : Nat → ClassId) (dI : Nat → Nat → Nat) (cI cJ cZ : ClassId)  (Hq : Heap)  : Met l yX7_commonDivisor wsX7_commonDivisor ({ frames := 1, cells := 0, slots := 0, locals := 15 }) (va_Pc [.long 1, .long 1] (fun U => U.heap = Hq ∧ va_P (dC, dI) vwCl [] Hq ∧ va_K (dC, dI) vwCl [(cI, FieldType.int), (cJ, FieldType.long), (cZ, FieldType.boolean)] U ∧ mz_N U)) (va_Ql (fun (r : Int64) (_ : Unit) => r = 1) (fun _ t => t.heap = Hq) (fun _ : Nat => False)) 0 0 (fun _ : Nat => False) := by
  refine Met.ofW (cc := cX7_commonDivisor) (maxL := 11) (ret := (some .long)) (by decide) rfl ?_
  intro p e s m args below meth c s₁ B hml hv
  obtain ⟨rfl, hH, hP, hK, hN⟩ := hv
  subst hH
  have hx := B.exec
  have hb := B.bytes
  have hr := B.returns
  have hts := atoms_spec (ws := wsX7_commonDivisor) B.pre
  have hown : s.vm.findClass RX7 = some m.cls := findClass_of_methodNamed B.named
  have hlocks := B.notSynchronized
  have hS : va_S (fun _ : Nat => False) s.heap s.heap [] := va_S.rf
  have hl := lv_entry ([.long 1, .long 1]) (n := 11) (Nat.le_of_ble_eq_true rfl)
  rw [lg_entry_eq]
  generalize (lg_sl ([.long 1, .long 1]) ++ List.replicate (11 - (lg_sl ([.long 1, .long 1])).length) Slot.unset).toArray = ls at hl ⊢
  have hl : lv_has ls 11 [(0, .long 1), (2, .long 1)] := hl
  refine lv_lload_n hx hb dX7_commonDivisor_0 rfl (lv_at hl 0 rfl) ?_
  refine lv_lstore (lv' := [(4, .long 1), (0, .long 1), (2, .long 1)]) hx hb dX7_commonDivisor_1 hl (by decide) rfl (fun ls hl => ?_)
  refine lv_lload_n hx hb dX7_commonDivisor_3 rfl (lv_at hl 2 rfl) ?_
  refine lv_lstore (lv' := [(6, .long 1), (4, .long 1), (0, .long 1), (2, .long 1)]) hx hb dX7_commonDivisor_4 hl (by decide) rfl (fun ls hl => ?_)
  refine lv_iconst (v := 0) hx hb dX7_commonDivisor_6 (by decide +kernel) ?_
  refine lv_istore (lv' := [(8, .int 0), (6, .long 1), (4, .long 1), (0, .long 1), (2, .long 1)]) hx hb dX7_commonDivisor_7 hl (by decide) rfl (fun ls hl => ?_)
  refine lv_iload hx hb dX7_commonDivisor_9 (lv_at hl 0 rfl) ?_
  refine lv_bipush (v := 100) hx hb dX7_commonDivisor_11 (by decide +kernel) ?_
  refine lv_icmp_ge (tgt := 44) hx hb dX7_commonDivisor_13 (by decide) (fun c_13 => absurd c_13 (by decide +kernel)) (fun _ => ?_)
  refine lv_lload hx hb dX7_commonDivisor_16 (lv_at hl 1 rfl) ?_
  refine lv_lconst (v := 0) hx hb dX7_commonDivisor_18 (by decide +kernel) ?_
  refine W.lcmp hx hb dX7_commonDivisor_19 ?_
  refine mz_ti (y := 1) (by decide +kernel) ?_
  refine lv_if_eq (tgt := 44) hx hb dX7_commonDivisor_20 (by decide) (fun c_20 => absurd c_20 (by decide +kernel)) (fun _ => ?_)
  refine lv_lload hx hb dX7_commonDivisor_23 (lv_at hl 2 rfl) ?_
  refine lv_lload hx hb dX7_commonDivisor_25 (lv_at hl 1 rfl) ?_
  refine lv_lrem hx hb dX7_commonDivisor_27 (by decide +kernel) ?_
  refine mz_tl (y := 0) (by decide +kernel) ?_
  refine lv_lstore (lv' := [(9, .long 0), (8, .int 0), (6, .long 1), (4, .long 1), (0, .long 1), (2, .long 1)]) hx hb dX7_commonDivisor_28 hl (by decide) rfl (fun ls hl => ?_)
  refine lv_lload hx hb dX7_commonDivisor_30 (lv_at hl 2 rfl) ?_
  refine lv_lstore (lv' := [(4, .long 1), (9, .long 0), (8, .int 0), (6, .long 1), (0, .long 1), (2, .long 1)]) hx hb dX7_commonDivisor_32 hl (by decide) rfl (fun ls hl => ?_)
  refine lv_lload hx hb dX7_commonDivisor_34 (lv_at hl 1 rfl) ?_
  refine lv_lstore (lv' := [(6, .long 0), (4, .long 1), (9, .long 0), (8, .int 0), (0, .long 1), (2, .long 1)]) hx hb dX7_commonDivisor_36 hl (by decide) rfl (fun ls hl => ?_)
  refine lv_iinc (v := 1) (lv' := [(8, .int 1), (6, .long 0), (4, .long 1), (9, .long 0), (0, .long 1), (2, .long 1)]) hx hb dX7_commonDivisor_38 hl (k := 3) rfl (by decide +kernel) (by decide) rfl (fun ls hl => ?_)
  refine lv_goto (tgt := 9) hx hb dX7_commonDivisor_41 (by decide) ?_
  refine lv_iload hx hb dX7_commonDivisor_9 (lv_at hl 0 rfl) ?_
  refine lv_bipush (v := 100) hx hb dX7_commonDivisor_11 (by decide +kernel) ?_
  refine lv_icmp_ge (tgt := 44) hx hb dX7_commonDivisor_13 (by decide) (fun c_13 => absurd c_13 (by decide +kernel)) (fun _ => ?_)
  refine lv_lload hx hb dX7_commonDivisor_16 (lv_at hl 1 rfl) ?_
  refine lv_lconst (v := 0) hx hb dX7_commonDivisor_18 (by decide +kernel) ?_
  refine W.lcmp hx hb dX7_commonDivisor_19 ?_
  refine mz_ti (y := 0) (by decide +kernel) ?_
  refine lv_if_eq (tgt := 44) hx hb dX7_commonDivisor_20 (by decide) (fun _ => ?_) (fun c_20 => absurd (by decide +kernel) c_20)
  refine lv_lconst (v := 1) hx hb dX7_commonDivisor_44 (by decide +kernel) ?_
  refine lv_lload hx hb dX7_commonDivisor_45 (lv_at hl 2 rfl) ?_
  refine va_mmax_long hx hb (by rw [hml]; exact hl.1.symm) hown (hts (.methodLink RX7 199 Lib.MathLoose.max_long.x) (by decide +kernel)) (hts (.static Lib.MathLoose.max_long.x) (by decide +kernel)) (hts (.initialized "java/lang/Math") (by decide +kernel)) (hts (.code Lib.MathLoose.max_long.x Lib.MathLoose.max_long.code 4 (some .long)) (by decide +kernel)) (Nat.le_of_ble_eq_true rfl) (Nat.le_of_ble_eq_true rfl) (Nat.le_of_ble_eq_true rfl) (Nat.le_of_ble_eq_true rfl) dX7_commonDivisor_47 ?_
  refine mz_tl (y := 1) (by decide +kernel) ?_
  refine W.widen (k := 0) (n := 0) (Nat.le_of_ble_eq_true rfl) (Nat.le_of_ble_eq_true rfl) ?_
  exact W.lret (v := 1) hx hb hr (fun t ht hW => ⟨⟨1, (), rfl, rfl, ht⟩, hS.F ht⟩) hS.2.2 dX7_commonDivisor_50
set_option maxHeartbeats 1000000 in
set_option maxRecDepth 100000 in
theorem mz_Drawing_size (l : Launch) (dC : Nat → ClassId) (dI : Nat → Nat → Nat) (cI cJ cZ : ClassId) (dr : Nat) (dp : Nat) (dc : Nat) (Hq : Heap)  : Met l yX2_size wsX2_size ({ frames := 0, cells := 0, slots := 0, locals := 0 }) (va_Pc [.ref dr] (fun U => U.heap = Hq ∧ va_P (dC, dI) vwCl [(dr, .inr (2, [.ref dp, .ref dc, .int 0]))] Hq ∧ va_K (dC, dI) vwCl [(cI, FieldType.int), (cJ, FieldType.long), (cZ, FieldType.boolean)] U ∧ mz_N U)) (va_Qi (fun (r : Int32) (_ : Unit) => r = 0) (fun _ t => t.heap = Hq) (fun _ : Nat => False)) 0 0 (fun _ : Nat => False) := by
  refine Met.ofW (cc := cX2_size) (maxL := 1) (ret := (some .int)) (by decide) rfl ?_
  intro p e s m args below meth c s₁ B hml hv
  obtain ⟨rfl, hH, hP, hK, hN⟩ := hv
  subst hH
  have hx := B.exec
  have hb := B.bytes
  have hr := B.returns
  have hts := atoms_spec (ws := wsX2_size) B.pre
  have hown : s.vm.findClass RX2 = some m.cls := findClass_of_methodNamed B.named
  have hlocks := B.notSynchronized
  have hS : va_S (fun _ : Nat => False) s.heap s.heap [] := va_S.rf
  have hiX2 : ∀ w ∈ u_ws RX2 TX2 3, w ∈ wsX2_size := by decide +kernel
  have hl := lv_entry ([.ref dr]) (n := 1) (Nat.le_of_ble_eq_true rfl)
  rw [lg_entry_eq]
  generalize (lg_sl ([.ref dr]) ++ List.replicate (1 - (lg_sl ([.ref dr])).length) Slot.unset).toArray = ls at hl ⊢
  have hl : lv_has ls 1 [(0, .ref dr)] := hl
  refine lv_aload_n hx hb dX2_size_0 rfl (lv_at hl 0 rfl) ?_
  refine va_get (D := (dC, dI)) (ci := 2) (v := .int 0) (C := RX2) (T := TX2) (N := 3) hx hb hts hiX2 hown hK hP 0 rfl rfl 2 (by decide) (hts (.fieldLink RX2 18 "MadeItSo$Drawing" "things" "I") (by decide +kernel)) (fun _ h9 => h9) rfl dX2_size_1 ?_
  refine W.widen (k := 0) (n := 0) (Nat.le_of_ble_eq_true rfl) (Nat.le_of_ble_eq_true rfl) ?_
  exact W.iret (v := 0) hx hb hr (fun t ht hW => ⟨⟨0, (), rfl, rfl, ht⟩, hS.F ht⟩) hS.2.2 dX2_size_4
set_option maxHeartbeats 1000000 in
set_option maxRecDepth 100000 in
theorem mz_Drawing_has (l : Launch) (dC : Nat → ClassId) (dI : Nat → Nat → Nat) (cI cJ cZ : ClassId) (dr : Nat) (dp : Nat) (dc : Nat) (p0 : Int32) (Hq : Heap)  : Met l yX2_has wsX2_has ({ frames := 0, cells := 0, slots := 0, locals := 0 }) (va_Pc [.ref dr, .int p0] (fun U => U.heap = Hq ∧ va_P (dC, dI) vwCl [(dr, .inr (2, [.ref dp, .ref dc, .int 0]))] Hq ∧ va_K (dC, dI) vwCl [(cI, FieldType.int), (cJ, FieldType.long), (cZ, FieldType.boolean)] U ∧ mz_N U)) (va_Qi (fun (r : Int32) (_ : Unit) => r = 0) (fun _ t => t.heap = Hq) (fun _ : Nat => False)) 0 0 (fun _ : Nat => False) := by
  refine Met.ofW (cc := cX2_has) (maxL := 2) (ret := (some .boolean)) (by decide) rfl ?_
  intro p e s m args below meth c s₁ B hml hv
  obtain ⟨rfl, hH, hP, hK, hN⟩ := hv
  subst hH
  have hx := B.exec
  have hb := B.bytes
  have hr := B.returns
  have hts := atoms_spec (ws := wsX2_has) B.pre
  have hown : s.vm.findClass RX2 = some m.cls := findClass_of_methodNamed B.named
  have hlocks := B.notSynchronized
  have hS : va_S (fun _ : Nat => False) s.heap s.heap [] := va_S.rf
  have hiX2 : ∀ w ∈ u_ws RX2 TX2 3, w ∈ wsX2_has := by decide +kernel
  have hl := lv_entry ([.ref dr, .int p0]) (n := 2) (Nat.le_of_ble_eq_true rfl)
  rw [lg_entry_eq]
  generalize (lg_sl ([.ref dr, .int p0]) ++ List.replicate (2 - (lg_sl ([.ref dr, .int p0])).length) Slot.unset).toArray = ls at hl ⊢
  have hl : lv_has ls 2 [(0, .ref dr), (1, .int p0)] := hl
  refine lv_iload_n hx hb dX2_has_0 rfl (lv_at hl 1 rfl) ?_
  refine lv_if_lt (tgt := 16) hx hb dX2_has_1 (by decide) (fun c_1 => ?_) (fun c_1 => ?_)
  · skip
    refine lv_iconst (v := 0) hx hb dX2_has_16 (by decide +kernel) ?_
    refine W.widen (k := 0) (n := 0) (Nat.le_of_ble_eq_true rfl) (Nat.le_of_ble_eq_true rfl) ?_
    exact W.zret (v := 0) hx hb hr (mz_nz (by decide +kernel)) (fun t ht hW => ⟨⟨0, (), rfl, rfl, ht⟩, hS.F ht⟩) hS.2.2 dX2_has_17
  · skip
    refine lv_iload_n hx hb dX2_has_4 rfl (lv_at hl 1 rfl) ?_
    refine lv_aload_n hx hb dX2_has_5 rfl (lv_at hl 0 rfl) ?_
    refine va_get (D := (dC, dI)) (ci := 2) (v := .int 0) (C := RX2) (T := TX2) (N := 3) hx hb hts hiX2 hown hK hP 0 rfl rfl 2 (by decide) (hts (.fieldLink RX2 18 "MadeItSo$Drawing" "things" "I") (by decide +kernel)) (fun _ h9 => h9) rfl dX2_has_6 ?_
    refine lv_icmp_ge (tgt := 16) hx hb dX2_has_9 (by decide) (fun _ => ?_) (fun c_9 => absurd (mz_nn c_1) c_9)
    refine lv_iconst (v := 0) hx hb dX2_has_16 (by decide +kernel) ?_
    refine W.widen (k := 0) (n := 0) (Nat.le_of_ble_eq_true rfl) (Nat.le_of_ble_eq_true rfl) ?_
    exact W.zret (v := 0) hx hb hr (mz_nz (by decide +kernel)) (fun t ht hW => ⟨⟨0, (), rfl, rfl, ht⟩, hS.F ht⟩) hS.2.2 dX2_has_17
set_option maxHeartbeats 1000000 in
set_option maxRecDepth 100000 in
theorem mz_Drawing_everything (l : Launch) (dC : Nat → ClassId) (dI : Nat → Nat → Nat) (cI cJ cZ : ClassId) (dr : Nat) (dp : Nat) (dc : Nat) (Hq : Heap)  : Met l yX2_everything wsX2_everything ({ frames := 0, cells := 0, slots := 0, locals := 0 }) (va_Pc [.ref dr] (fun U => U.heap = Hq ∧ va_P (dC, dI) vwCl [(dr, .inr (2, [.ref dp, .ref dc, .int 0]))] Hq ∧ va_K (dC, dI) vwCl [(cI, FieldType.int), (cJ, FieldType.long), (cZ, FieldType.boolean)] U ∧ mz_N U)) (va_Qi (fun (r : Int32) (_ : Unit) => r = 0) (fun _ t => t.heap = Hq) (fun _ : Nat => False)) 0 0 (fun _ : Nat => False) := by
  refine Met.ofW (cc := cX2_everything) (maxL := 1) (ret := (some .int)) (by decide) rfl ?_
  intro p e s m args below meth c s₁ B hml hv
  obtain ⟨rfl, hH, hP, hK, hN⟩ := hv
  subst hH
  have hx := B.exec
  have hb := B.bytes
  have hr := B.returns
  have hts := atoms_spec (ws := wsX2_everything) B.pre
  have hown : s.vm.findClass RX2 = some m.cls := findClass_of_methodNamed B.named
  have hlocks := B.notSynchronized
  have hS : va_S (fun _ : Nat => False) s.heap s.heap [] := va_S.rf
  have hiX2 : ∀ w ∈ u_ws RX2 TX2 3, w ∈ wsX2_everything := by decide +kernel
  have hl := lv_entry ([.ref dr]) (n := 1) (Nat.le_of_ble_eq_true rfl)
  rw [lg_entry_eq]
  generalize (lg_sl ([.ref dr]) ++ List.replicate (1 - (lg_sl ([.ref dr])).length) Slot.unset).toArray = ls at hl ⊢
  have hl : lv_has ls 1 [(0, .ref dr)] := hl
  refine lv_iconst (v := 1) hx hb dX2_everything_0 (by decide +kernel) ?_
  refine lv_aload_n hx hb dX2_everything_1 rfl (lv_at hl 0 rfl) ?_
  refine va_get (D := (dC, dI)) (ci := 2) (v := .int 0) (C := RX2) (T := TX2) (N := 3) hx hb hts hiX2 hown hK hP 0 rfl rfl 2 (by decide) (hts (.fieldLink RX2 18 "MadeItSo$Drawing" "things" "I") (by decide +kernel)) (fun _ h9 => h9) rfl dX2_everything_2 ?_
  refine lv_ishl hx hb dX2_everything_5 ?_
  refine mz_ti (y := 1) (by decide +kernel) ?_
  refine lv_iconst (v := 1) hx hb dX2_everything_6 (by decide +kernel) ?_
  refine lv_isub hx hb dX2_everything_7 ?_
  refine mz_ti (y := 0) (by decide +kernel) ?_
  refine W.widen (k := 0) (n := 0) (Nat.le_of_ble_eq_true rfl) (Nat.le_of_ble_eq_true rfl) ?_
  exact W.iret (v := 0) hx hb hr (fun t ht hW => ⟨⟨0, (), rfl, rfl, ht⟩, hS.F ht⟩) hS.2.2 dX2_everything_8
set_option maxHeartbeats 1000000 in
set_option maxRecDepth 100000 in
theorem mz_Drawing_leads (l : Launch) (dC : Nat → ClassId) (dI : Nat → Nat → Nat) (cI cJ cZ : ClassId) (dr : Nat) (dp : Nat) (dc : Nat) (p0 : Int32) (p1 : Int32) (Hq : Heap)  : Met l yX2_leads wsX2_leads ({ frames := 1, cells := 0, slots := 0, locals := 21 }) (va_Pc [.ref dr, .int p0, .int p1] (fun U => U.heap = Hq ∧ va_P (dC, dI) vwCl [(dr, .inr (2, [.ref dp, .ref dc, .int 0]))] Hq ∧ va_K (dC, dI) vwCl [(cI, FieldType.int), (cJ, FieldType.long), (cZ, FieldType.boolean)] U ∧ mz_N U)) (va_Qi (fun (r : Int32) (_ : Unit) => r = 0) (fun _ t => t.heap = Hq) (fun _ : Nat => False)) 0 0 (fun _ : Nat => False) := by
  refine Met.ofW (cc := cX2_leads) (maxL := 3) (ret := (some .boolean)) (by decide) rfl ?_
  intro p e s m args below meth c s₁ B hml hv
  obtain ⟨rfl, hH, hP, hK, hN⟩ := hv
  subst hH
  have hx := B.exec
  have hb := B.bytes
  have hr := B.returns
  have hts := atoms_spec (ws := wsX2_leads) B.pre
  have hown : s.vm.findClass RX2 = some m.cls := findClass_of_methodNamed B.named
  have hlocks := B.notSynchronized
  have hS : va_S (fun _ : Nat => False) s.heap s.heap [] := va_S.rf
  have hl := lv_entry ([.ref dr, .int p0, .int p1]) (n := 3) (Nat.le_of_ble_eq_true rfl)
  rw [lg_entry_eq]
  generalize (lg_sl ([.ref dr, .int p0, .int p1]) ++ List.replicate (3 - (lg_sl ([.ref dr, .int p0, .int p1])).length) Slot.unset).toArray = ls at hl ⊢
  have hl : lv_has ls 3 [(0, .ref dr), (1, .int p0), (2, .int p1)] := hl
  refine lv_aload_n hx hb dX2_leads_0 rfl (lv_at hl 0 rfl) ?_
  refine lv_iload_n hx hb dX2_leads_1 rfl (lv_at hl 1 rfl) ?_
  have hPc := hP.sub (ws' := [(dr, .inr (2, [.ref dp, .ref dc, .int 0]))]) [0] rfl
  refine va_calli (va_runV (As := [.int p0]) (rest := []) ⟨hx, hb, hml, hown, hts⟩ (mz_Drawing_has l dC dI cI cJ cZ dr dp dc p0 s.heap ) (cwV 1 hts gX2_leads_X2_has rfl rfl rfl (by decide +kernel) ⟨Nat.le_of_ble_eq_true rfl, Nat.le_of_ble_eq_true rfl⟩) ⟨fun a U g mk q => mz_blP q, va_recv hK hPc (ci := 2) (q0 := 0) rfl rfl, fun U hU hW => ⟨rfl, hU, hPc, va_K.moved hW.alike hK, mz_nw hW hN⟩⟩ rfl rfl hl.1 rfl (lv_room (Nat.le_of_ble_eq_true rfl)) dX2_leads_2 ⟨Nat.le_of_ble_eq_true rfl, Nat.le_of_ble_eq_true rfl⟩) hS (fun q _ h => h.elim) (fun q h => h.elim) (fun r u t H1 locs ht hvm hw hB hz1 hk1 hS => ?_)
  have hE : s.heap = H1 := hB.symm.trans ht
  subst hE
  obtain rfl : r = 0 := hw
  refine lv_if_eq (tgt := 33) hx hb dX2_leads_5 (by decide) (fun _ => ?_) (fun c_5 => absurd (by decide +kernel) c_5)
  refine lv_iconst (v := 0) hx hb dX2_leads_33 (by decide +kernel) ?_
  refine W.widen (k := 0) (n := 0) (Nat.le_of_ble_eq_true rfl) (Nat.le_of_ble_eq_true rfl) ?_
  exact W.zret (v := 0) hx hb hr (mz_nz (by decide +kernel)) (fun t ht hW => ⟨⟨0, (), rfl, rfl, ht⟩, hS.F ht⟩) hS.2.2 dX2_leads_34
set_option maxHeartbeats 1000000 in
set_option maxRecDepth 100000 in
theorem mz_Drawing_arrows (l : Launch) (dC : Nat → ClassId) (dI : Nat → Nat → Nat) (cI cJ cZ : ClassId) (dr : Nat) (dp : Nat) (dc : Nat) (Hq : Heap)  : Met l yX2_arrows wsX2_arrows ({ frames := 0, cells := 0, slots := 0, locals := 0 }) (va_Pc [.ref dr] (fun U => U.heap = Hq ∧ va_P (dC, dI) vwCl [(dr, .inr (2, [.ref dp, .ref dc, .int 0]))] Hq ∧ va_K (dC, dI) vwCl [(cI, FieldType.int), (cJ, FieldType.long), (cZ, FieldType.boolean)] U ∧ mz_N U)) (va_Qi (fun (r : Int32) (_ : Unit) => r = 0) (fun _ t => t.heap = Hq) (fun _ : Nat => False)) 0 0 (fun _ : Nat => False) := by
  refine Met.ofW (cc := cX2_arrows) (maxL := 3) (ret := (some .int)) (by decide) rfl ?_
  intro p e s m args below meth c s₁ B hml hv
  obtain ⟨rfl, hH, hP, hK, hN⟩ := hv
  subst hH
  have hx := B.exec
  have hb := B.bytes
  have hr := B.returns
  have hts := atoms_spec (ws := wsX2_arrows) B.pre
  have hown : s.vm.findClass RX2 = some m.cls := findClass_of_methodNamed B.named
  have hlocks := B.notSynchronized
  have hS : va_S (fun _ : Nat => False) s.heap s.heap [] := va_S.rf
  have hiX2 : ∀ w ∈ u_ws RX2 TX2 3, w ∈ wsX2_arrows := by decide +kernel
  have hl := lv_entry ([.ref dr]) (n := 3) (Nat.le_of_ble_eq_true rfl)
  rw [lg_entry_eq]
  generalize (lg_sl ([.ref dr]) ++ List.replicate (3 - (lg_sl ([.ref dr])).length) Slot.unset).toArray = ls at hl ⊢
  have hl : lv_has ls 3 [(0, .ref dr)] := hl
  refine lv_iconst (v := 0) hx hb dX2_arrows_0 (by decide +kernel) ?_
  refine lv_istore_n (lv' := [(1, .int 0), (0, .ref dr)]) hx hb dX2_arrows_1 rfl hl (by decide) rfl (fun ls hl => ?_)
  refine lv_iconst (v := 0) hx hb dX2_arrows_2 (by decide +kernel) ?_
  refine lv_istore_n (lv' := [(2, .int 0), (1, .int 0), (0, .ref dr)]) hx hb dX2_arrows_3 rfl hl (by decide) rfl (fun ls hl => ?_)
  refine lv_iload_n hx hb dX2_arrows_4 rfl (lv_at hl 0 rfl) ?_
  refine lv_aload_n hx hb dX2_arrows_5 rfl (lv_at hl 2 rfl) ?_
  refine va_get (D := (dC, dI)) (ci := 2) (v := .int 0) (C := RX2) (T := TX2) (N := 3) hx hb hts hiX2 hown hK hP 0 rfl rfl 2 (by decide) (hts (.fieldLink RX2 18 "MadeItSo$Drawing" "things" "I") (by decide +kernel)) (fun _ h9 => h9) rfl dX2_arrows_6 ?_
  refine lv_icmp_ge (tgt := 30) hx hb dX2_arrows_9 (by decide) (fun _ => ?_) (fun c_9 => absurd (by decide +kernel) c_9)
  refine lv_iload_n hx hb dX2_arrows_30 rfl (lv_at hl 1 rfl) ?_
  refine W.widen (k := 0) (n := 0) (Nat.le_of_ble_eq_true rfl) (Nat.le_of_ble_eq_true rfl) ?_
  exact W.iret (v := 0) hx hb hr (fun t ht hW => ⟨⟨0, (), rfl, rfl, ht⟩, hS.F ht⟩) hS.2.2 dX2_arrows_31
set_option maxHeartbeats 1000000 in
set_option maxRecDepth 100000 in
theorem mz_gather0 (l : Launch) (dC : Nat → ClassId) (dI : Nat → Nat → Nat) (cI cJ cZ : ClassId) (ar : Nat) (f : Nat → Int32) (Hq : Heap)  : Met l yX2_gather wsX2_gather ({ frames := 1, cells := 0, slots := 0, locals := 21 }) (va_Pc [.int 0, .ref ar] (fun U => U.heap = Hq ∧ va_P (dC, dI) vwCl [(ar, .inl (cI, 8, .inl f))] Hq ∧ va_K (dC, dI) vwCl [(cI, FieldType.int), (cJ, FieldType.long), (cZ, FieldType.boolean)] U ∧ mz_N U)) (va_Qi (fun (r : Int32) (_ : Unit) => r = 0) (fun _ t => t.heap = Hq) (fun _ : Nat => False)) 0 0 (fun _ : Nat => False) := by
  refine Met.ofW (cc := cX2_gather) (maxL := 4) (ret := (some .int)) (by decide) rfl ?_
  intro p e s m args below meth c s₁ B hml hv
  obtain ⟨rfl, hH, hP, hK, hN⟩ := hv
  subst hH
  have hx := B.exec
  have hb := B.bytes
  have hr := B.returns
  have hts := atoms_spec (ws := wsX2_gather) B.pre
  have hown : s.vm.findClass RX2 = some m.cls := findClass_of_methodNamed B.named
  have hlocks := B.notSynchronized
  have hS : va_S (fun _ : Nat => False) s.heap s.heap [] := va_S.rf
  have hl := lv_entry ([.int 0, .ref ar]) (n := 4) (Nat.le_of_ble_eq_true rfl)
  rw [lg_entry_eq]
  generalize (lg_sl ([.int 0, .ref ar]) ++ List.replicate (4 - (lg_sl ([.int 0, .ref ar])).length) Slot.unset).toArray = ls at hl ⊢
  have hl : lv_has ls 4 [(0, .int 0), (1, .ref ar)] := hl
  refine lv_iconst (v := 0) hx hb dX2_gather_0 (by decide +kernel) ?_
  refine lv_istore_n (lv' := [(2, .int 0), (0, .int 0), (1, .ref ar)]) hx hb dX2_gather_1 rfl hl (by decide) rfl (fun ls hl => ?_)
  refine lv_iconst (v := 0) hx hb dX2_gather_2 (by decide +kernel) ?_
  refine lv_istore_n (lv' := [(3, .int 0), (2, .int 0), (0, .int 0), (1, .ref ar)]) hx hb dX2_gather_3 rfl hl (by decide) rfl (fun ls hl => ?_)
  refine lv_iload_n hx hb dX2_gather_4 rfl (lv_at hl 0 rfl) ?_
  refine lv_aload_n hx hb dX2_gather_5 rfl (lv_at hl 3 rfl) ?_
  refine va_alen (v := 8) hx hb hK hP 0 0 rfl rfl rfl dX2_gather_6 ?_
  refine lv_icmp_ge (tgt := 30) hx hb dX2_gather_7 (by decide) (fun c_7 => absurd c_7 (by decide +kernel)) (fun _ => ?_)
  refine lv_iload_n hx hb dX2_gather_10 rfl (lv_at hl 2 rfl) ?_
  refine lv_iload_n hx hb dX2_gather_11 rfl (lv_at hl 0 rfl) ?_
  have hPc := hP.sub (ws' := []) [] rfl
  refine va_calli (va_runSN (As := [.int 0, .int 0]) (rest := []) ⟨hx, hb, hml, hown, hts⟩ (mz_inHeap0 l dC dI cI cJ cZ 0 s.heap ) ⟨va_cnB (host := "MadeItSo") 2 hts gX2_gather_X7_inHeap_n26 rfl rfl rfl (hN (RX2, 26, yX7_inHeap, "MadeItSo") (by decide +kernel)) (hts (.initialized RX7) (by decide +kernel)) (by decide +kernel) ⟨Nat.le_of_ble_eq_true rfl, Nat.le_of_ble_eq_true rfl⟩, hts (.static yX7_inHeap) (by decide +kernel), trivial⟩ ⟨fun a U g mk q => mz_blP q, fun U hU hW => ⟨rfl, hU, hPc, va_K.moved hW.alike hK, mz_nw hW hN⟩⟩ rfl rfl hl.1 rfl (lv_room (Nat.le_of_ble_eq_true rfl)) dX2_gather_12 ⟨Nat.le_of_ble_eq_true rfl, Nat.le_of_ble_eq_true rfl⟩) hS (fun q _ h => h.elim) (fun q h => h.elim) (fun r u t H1 locs ht hvm hw hB hz1 hk1 hS => ?_)
  have hE : s.heap = H1 := hB.symm.trans ht
  subst hE
  obtain rfl : r = 0 := hw
  refine lv_if_eq (tgt := 24) hx hb dX2_gather_15 (by decide) (fun _ => ?_) (fun c_15 => absurd (by decide +kernel) c_15)
  refine lv_iinc (v := 1) (lv' := [(3, .int 1), (2, .int 0), (0, .int 0), (1, .ref ar)]) hx hb dX2_gather_24 hl (k := 0) rfl (by decide +kernel) (by decide) rfl (fun ls hl => ?_)
  refine lv_goto (tgt := 4) hx hb dX2_gather_27 (by decide) ?_
  refine lv_iload_n hx hb dX2_gather_4 rfl (lv_at hl 0 rfl) ?_
  refine lv_aload_n hx hb dX2_gather_5 rfl (lv_at hl 3 rfl) ?_
  refine va_alen (v := 8) hx hb hK hP 0 0 rfl rfl rfl dX2_gather_6 ?_
  refine lv_icmp_ge (tgt := 30) hx hb dX2_gather_7 (by decide) (fun c_7 => absurd c_7 (by decide +kernel)) (fun _ => ?_)
  refine lv_iload_n hx hb dX2_gather_10 rfl (lv_at hl 2 rfl) ?_
  refine lv_iload_n hx hb dX2_gather_11 rfl (lv_at hl 0 rfl) ?_
  have hPc := hP.sub (ws' := []) [] rfl
  refine va_calli (va_runSN (As := [.int 0, .int 1]) (rest := []) ⟨hx, hb, hml, hown, hts⟩ (mz_inHeap0 l dC dI cI cJ cZ 1 s.heap ) ⟨va_cnB (host := "MadeItSo") 2 hts gX2_gather_X7_inHeap_n26 rfl rfl rfl (hN (RX2, 26, yX7_inHeap, "MadeItSo") (by decide +kernel)) (hts (.initialized RX7) (by decide +kernel)) (by decide +kernel) ⟨Nat.le_of_ble_eq_true rfl, Nat.le_of_ble_eq_true rfl⟩, hts (.static yX7_inHeap) (by decide +kernel), trivial⟩ ⟨fun a U g mk q => mz_blP q, fun U hU hW => ⟨rfl, hU, hPc, va_K.moved hW.alike hK, mz_nw hW hN⟩⟩ rfl rfl hl.1 rfl (lv_room (Nat.le_of_ble_eq_true rfl)) dX2_gather_12 ⟨Nat.le_of_ble_eq_true rfl, Nat.le_of_ble_eq_true rfl⟩) hS (fun q _ h => h.elim) (fun q h => h.elim) (fun r u t H1 locs ht hvm hw hB hz1 hk1 hS => ?_)
  have hE : s.heap = H1 := hB.symm.trans ht
  subst hE
  obtain rfl : r = 0 := hw
  refine lv_if_eq (tgt := 24) hx hb dX2_gather_15 (by decide) (fun _ => ?_) (fun c_15 => absurd (by decide +kernel) c_15)
  refine lv_iinc (v := 2) (lv' := [(3, .int 2), (2, .int 0), (0, .int 0), (1, .ref ar)]) hx hb dX2_gather_24 hl (k := 0) rfl (by decide +kernel) (by decide) rfl (fun ls hl => ?_)
  refine lv_goto (tgt := 4) hx hb dX2_gather_27 (by decide) ?_
  refine lv_iload_n hx hb dX2_gather_4 rfl (lv_at hl 0 rfl) ?_
  refine lv_aload_n hx hb dX2_gather_5 rfl (lv_at hl 3 rfl) ?_
  refine va_alen (v := 8) hx hb hK hP 0 0 rfl rfl rfl dX2_gather_6 ?_
  refine lv_icmp_ge (tgt := 30) hx hb dX2_gather_7 (by decide) (fun c_7 => absurd c_7 (by decide +kernel)) (fun _ => ?_)
  refine lv_iload_n hx hb dX2_gather_10 rfl (lv_at hl 2 rfl) ?_
  refine lv_iload_n hx hb dX2_gather_11 rfl (lv_at hl 0 rfl) ?_
  have hPc := hP.sub (ws' := []) [] rfl
  refine va_calli (va_runSN (As := [.int 0, .int 2]) (rest := []) ⟨hx, hb, hml, hown, hts⟩ (mz_inHeap0 l dC dI cI cJ cZ 2 s.heap ) ⟨va_cnB (host := "MadeItSo") 2 hts gX2_gather_X7_inHeap_n26 rfl rfl rfl (hN (RX2, 26, yX7_inHeap, "MadeItSo") (by decide +kernel)) (hts (.initialized RX7) (by decide +kernel)) (by decide +kernel) ⟨Nat.le_of_ble_eq_true rfl, Nat.le_of_ble_eq_true rfl⟩, hts (.static yX7_inHeap) (by decide +kernel), trivial⟩ ⟨fun a U g mk q => mz_blP q, fun U hU hW => ⟨rfl, hU, hPc, va_K.moved hW.alike hK, mz_nw hW hN⟩⟩ rfl rfl hl.1 rfl (lv_room (Nat.le_of_ble_eq_true rfl)) dX2_gather_12 ⟨Nat.le_of_ble_eq_true rfl, Nat.le_of_ble_eq_true rfl⟩) hS (fun q _ h => h.elim) (fun q h => h.elim) (fun r u t H1 locs ht hvm hw hB hz1 hk1 hS => ?_)
  have hE : s.heap = H1 := hB.symm.trans ht
  subst hE
  obtain rfl : r = 0 := hw
  refine lv_if_eq (tgt := 24) hx hb dX2_gather_15 (by decide) (fun _ => ?_) (fun c_15 => absurd (by decide +kernel) c_15)
  refine lv_iinc (v := 3) (lv' := [(3, .int 3), (2, .int 0), (0, .int 0), (1, .ref ar)]) hx hb dX2_gather_24 hl (k := 0) rfl (by decide +kernel) (by decide) rfl (fun ls hl => ?_)
  refine lv_goto (tgt := 4) hx hb dX2_gather_27 (by decide) ?_
  refine lv_iload_n hx hb dX2_gather_4 rfl (lv_at hl 0 rfl) ?_
  refine lv_aload_n hx hb dX2_gather_5 rfl (lv_at hl 3 rfl) ?_
  refine va_alen (v := 8) hx hb hK hP 0 0 rfl rfl rfl dX2_gather_6 ?_
  refine lv_icmp_ge (tgt := 30) hx hb dX2_gather_7 (by decide) (fun c_7 => absurd c_7 (by decide +kernel)) (fun _ => ?_)
  refine lv_iload_n hx hb dX2_gather_10 rfl (lv_at hl 2 rfl) ?_
  refine lv_iload_n hx hb dX2_gather_11 rfl (lv_at hl 0 rfl) ?_
  have hPc := hP.sub (ws' := []) [] rfl
  refine va_calli (va_runSN (As := [.int 0, .int 3]) (rest := []) ⟨hx, hb, hml, hown, hts⟩ (mz_inHeap0 l dC dI cI cJ cZ 3 s.heap ) ⟨va_cnB (host := "MadeItSo") 2 hts gX2_gather_X7_inHeap_n26 rfl rfl rfl (hN (RX2, 26, yX7_inHeap, "MadeItSo") (by decide +kernel)) (hts (.initialized RX7) (by decide +kernel)) (by decide +kernel) ⟨Nat.le_of_ble_eq_true rfl, Nat.le_of_ble_eq_true rfl⟩, hts (.static yX7_inHeap) (by decide +kernel), trivial⟩ ⟨fun a U g mk q => mz_blP q, fun U hU hW => ⟨rfl, hU, hPc, va_K.moved hW.alike hK, mz_nw hW hN⟩⟩ rfl rfl hl.1 rfl (lv_room (Nat.le_of_ble_eq_true rfl)) dX2_gather_12 ⟨Nat.le_of_ble_eq_true rfl, Nat.le_of_ble_eq_true rfl⟩) hS (fun q _ h => h.elim) (fun q h => h.elim) (fun r u t H1 locs ht hvm hw hB hz1 hk1 hS => ?_)
  have hE : s.heap = H1 := hB.symm.trans ht
  subst hE
  obtain rfl : r = 0 := hw
  refine lv_if_eq (tgt := 24) hx hb dX2_gather_15 (by decide) (fun _ => ?_) (fun c_15 => absurd (by decide +kernel) c_15)
  refine lv_iinc (v := 4) (lv' := [(3, .int 4), (2, .int 0), (0, .int 0), (1, .ref ar)]) hx hb dX2_gather_24 hl (k := 0) rfl (by decide +kernel) (by decide) rfl (fun ls hl => ?_)
  refine lv_goto (tgt := 4) hx hb dX2_gather_27 (by decide) ?_
  refine lv_iload_n hx hb dX2_gather_4 rfl (lv_at hl 0 rfl) ?_
  refine lv_aload_n hx hb dX2_gather_5 rfl (lv_at hl 3 rfl) ?_
  refine va_alen (v := 8) hx hb hK hP 0 0 rfl rfl rfl dX2_gather_6 ?_
  refine lv_icmp_ge (tgt := 30) hx hb dX2_gather_7 (by decide) (fun c_7 => absurd c_7 (by decide +kernel)) (fun _ => ?_)
  refine lv_iload_n hx hb dX2_gather_10 rfl (lv_at hl 2 rfl) ?_
  refine lv_iload_n hx hb dX2_gather_11 rfl (lv_at hl 0 rfl) ?_
  have hPc := hP.sub (ws' := []) [] rfl
  refine va_calli (va_runSN (As := [.int 0, .int 4]) (rest := []) ⟨hx, hb, hml, hown, hts⟩ (mz_inHeap0 l dC dI cI cJ cZ 4 s.heap ) ⟨va_cnB (host := "MadeItSo") 2 hts gX2_gather_X7_inHeap_n26 rfl rfl rfl (hN (RX2, 26, yX7_inHeap, "MadeItSo") (by decide +kernel)) (hts (.initialized RX7) (by decide +kernel)) (by decide +kernel) ⟨Nat.le_of_ble_eq_true rfl, Nat.le_of_ble_eq_true rfl⟩, hts (.static yX7_inHeap) (by decide +kernel), trivial⟩ ⟨fun a U g mk q => mz_blP q, fun U hU hW => ⟨rfl, hU, hPc, va_K.moved hW.alike hK, mz_nw hW hN⟩⟩ rfl rfl hl.1 rfl (lv_room (Nat.le_of_ble_eq_true rfl)) dX2_gather_12 ⟨Nat.le_of_ble_eq_true rfl, Nat.le_of_ble_eq_true rfl⟩) hS (fun q _ h => h.elim) (fun q h => h.elim) (fun r u t H1 locs ht hvm hw hB hz1 hk1 hS => ?_)
  have hE : s.heap = H1 := hB.symm.trans ht
  subst hE
  obtain rfl : r = 0 := hw
  refine lv_if_eq (tgt := 24) hx hb dX2_gather_15 (by decide) (fun _ => ?_) (fun c_15 => absurd (by decide +kernel) c_15)
  refine lv_iinc (v := 5) (lv' := [(3, .int 5), (2, .int 0), (0, .int 0), (1, .ref ar)]) hx hb dX2_gather_24 hl (k := 0) rfl (by decide +kernel) (by decide) rfl (fun ls hl => ?_)
  refine lv_goto (tgt := 4) hx hb dX2_gather_27 (by decide) ?_
  refine lv_iload_n hx hb dX2_gather_4 rfl (lv_at hl 0 rfl) ?_
  refine lv_aload_n hx hb dX2_gather_5 rfl (lv_at hl 3 rfl) ?_
  refine va_alen (v := 8) hx hb hK hP 0 0 rfl rfl rfl dX2_gather_6 ?_
  refine lv_icmp_ge (tgt := 30) hx hb dX2_gather_7 (by decide) (fun c_7 => absurd c_7 (by decide +kernel)) (fun _ => ?_)
  refine lv_iload_n hx hb dX2_gather_10 rfl (lv_at hl 2 rfl) ?_
  refine lv_iload_n hx hb dX2_gather_11 rfl (lv_at hl 0 rfl) ?_
  have hPc := hP.sub (ws' := []) [] rfl
  refine va_calli (va_runSN (As := [.int 0, .int 5]) (rest := []) ⟨hx, hb, hml, hown, hts⟩ (mz_inHeap0 l dC dI cI cJ cZ 5 s.heap ) ⟨va_cnB (host := "MadeItSo") 2 hts gX2_gather_X7_inHeap_n26 rfl rfl rfl (hN (RX2, 26, yX7_inHeap, "MadeItSo") (by decide +kernel)) (hts (.initialized RX7) (by decide +kernel)) (by decide +kernel) ⟨Nat.le_of_ble_eq_true rfl, Nat.le_of_ble_eq_true rfl⟩, hts (.static yX7_inHeap) (by decide +kernel), trivial⟩ ⟨fun a U g mk q => mz_blP q, fun U hU hW => ⟨rfl, hU, hPc, va_K.moved hW.alike hK, mz_nw hW hN⟩⟩ rfl rfl hl.1 rfl (lv_room (Nat.le_of_ble_eq_true rfl)) dX2_gather_12 ⟨Nat.le_of_ble_eq_true rfl, Nat.le_of_ble_eq_true rfl⟩) hS (fun q _ h => h.elim) (fun q h => h.elim) (fun r u t H1 locs ht hvm hw hB hz1 hk1 hS => ?_)
  have hE : s.heap = H1 := hB.symm.trans ht
  subst hE
  obtain rfl : r = 0 := hw
  refine lv_if_eq (tgt := 24) hx hb dX2_gather_15 (by decide) (fun _ => ?_) (fun c_15 => absurd (by decide +kernel) c_15)
  refine lv_iinc (v := 6) (lv' := [(3, .int 6), (2, .int 0), (0, .int 0), (1, .ref ar)]) hx hb dX2_gather_24 hl (k := 0) rfl (by decide +kernel) (by decide) rfl (fun ls hl => ?_)
  refine lv_goto (tgt := 4) hx hb dX2_gather_27 (by decide) ?_
  refine lv_iload_n hx hb dX2_gather_4 rfl (lv_at hl 0 rfl) ?_
  refine lv_aload_n hx hb dX2_gather_5 rfl (lv_at hl 3 rfl) ?_
  refine va_alen (v := 8) hx hb hK hP 0 0 rfl rfl rfl dX2_gather_6 ?_
  refine lv_icmp_ge (tgt := 30) hx hb dX2_gather_7 (by decide) (fun c_7 => absurd c_7 (by decide +kernel)) (fun _ => ?_)
  refine lv_iload_n hx hb dX2_gather_10 rfl (lv_at hl 2 rfl) ?_
  refine lv_iload_n hx hb dX2_gather_11 rfl (lv_at hl 0 rfl) ?_
  have hPc := hP.sub (ws' := []) [] rfl
  refine va_calli (va_runSN (As := [.int 0, .int 6]) (rest := []) ⟨hx, hb, hml, hown, hts⟩ (mz_inHeap0 l dC dI cI cJ cZ 6 s.heap ) ⟨va_cnB (host := "MadeItSo") 2 hts gX2_gather_X7_inHeap_n26 rfl rfl rfl (hN (RX2, 26, yX7_inHeap, "MadeItSo") (by decide +kernel)) (hts (.initialized RX7) (by decide +kernel)) (by decide +kernel) ⟨Nat.le_of_ble_eq_true rfl, Nat.le_of_ble_eq_true rfl⟩, hts (.static yX7_inHeap) (by decide +kernel), trivial⟩ ⟨fun a U g mk q => mz_blP q, fun U hU hW => ⟨rfl, hU, hPc, va_K.moved hW.alike hK, mz_nw hW hN⟩⟩ rfl rfl hl.1 rfl (lv_room (Nat.le_of_ble_eq_true rfl)) dX2_gather_12 ⟨Nat.le_of_ble_eq_true rfl, Nat.le_of_ble_eq_true rfl⟩) hS (fun q _ h => h.elim) (fun q h => h.elim) (fun r u t H1 locs ht hvm hw hB hz1 hk1 hS => ?_)
  have hE : s.heap = H1 := hB.symm.trans ht
  subst hE
  obtain rfl : r = 0 := hw
  refine lv_if_eq (tgt := 24) hx hb dX2_gather_15 (by decide) (fun _ => ?_) (fun c_15 => absurd (by decide +kernel) c_15)
  refine lv_iinc (v := 7) (lv' := [(3, .int 7), (2, .int 0), (0, .int 0), (1, .ref ar)]) hx hb dX2_gather_24 hl (k := 0) rfl (by decide +kernel) (by decide) rfl (fun ls hl => ?_)
  refine lv_goto (tgt := 4) hx hb dX2_gather_27 (by decide) ?_
  refine lv_iload_n hx hb dX2_gather_4 rfl (lv_at hl 0 rfl) ?_
  refine lv_aload_n hx hb dX2_gather_5 rfl (lv_at hl 3 rfl) ?_
  refine va_alen (v := 8) hx hb hK hP 0 0 rfl rfl rfl dX2_gather_6 ?_
  refine lv_icmp_ge (tgt := 30) hx hb dX2_gather_7 (by decide) (fun c_7 => absurd c_7 (by decide +kernel)) (fun _ => ?_)
  refine lv_iload_n hx hb dX2_gather_10 rfl (lv_at hl 2 rfl) ?_
  refine lv_iload_n hx hb dX2_gather_11 rfl (lv_at hl 0 rfl) ?_
  have hPc := hP.sub (ws' := []) [] rfl
  refine va_calli (va_runSN (As := [.int 0, .int 7]) (rest := []) ⟨hx, hb, hml, hown, hts⟩ (mz_inHeap0 l dC dI cI cJ cZ 7 s.heap ) ⟨va_cnB (host := "MadeItSo") 2 hts gX2_gather_X7_inHeap_n26 rfl rfl rfl (hN (RX2, 26, yX7_inHeap, "MadeItSo") (by decide +kernel)) (hts (.initialized RX7) (by decide +kernel)) (by decide +kernel) ⟨Nat.le_of_ble_eq_true rfl, Nat.le_of_ble_eq_true rfl⟩, hts (.static yX7_inHeap) (by decide +kernel), trivial⟩ ⟨fun a U g mk q => mz_blP q, fun U hU hW => ⟨rfl, hU, hPc, va_K.moved hW.alike hK, mz_nw hW hN⟩⟩ rfl rfl hl.1 rfl (lv_room (Nat.le_of_ble_eq_true rfl)) dX2_gather_12 ⟨Nat.le_of_ble_eq_true rfl, Nat.le_of_ble_eq_true rfl⟩) hS (fun q _ h => h.elim) (fun q h => h.elim) (fun r u t H1 locs ht hvm hw hB hz1 hk1 hS => ?_)
  have hE : s.heap = H1 := hB.symm.trans ht
  subst hE
  obtain rfl : r = 0 := hw
  refine lv_if_eq (tgt := 24) hx hb dX2_gather_15 (by decide) (fun _ => ?_) (fun c_15 => absurd (by decide +kernel) c_15)
  refine lv_iinc (v := 8) (lv' := [(3, .int 8), (2, .int 0), (0, .int 0), (1, .ref ar)]) hx hb dX2_gather_24 hl (k := 0) rfl (by decide +kernel) (by decide) rfl (fun ls hl => ?_)
  refine lv_goto (tgt := 4) hx hb dX2_gather_27 (by decide) ?_
  refine lv_iload_n hx hb dX2_gather_4 rfl (lv_at hl 0 rfl) ?_
  refine lv_aload_n hx hb dX2_gather_5 rfl (lv_at hl 3 rfl) ?_
  refine va_alen (v := 8) hx hb hK hP 0 0 rfl rfl rfl dX2_gather_6 ?_
  refine lv_icmp_ge (tgt := 30) hx hb dX2_gather_7 (by decide) (fun _ => ?_) (fun c_7 => absurd (by decide +kernel) c_7)
  refine lv_iload_n hx hb dX2_gather_30 rfl (lv_at hl 1 rfl) ?_
  refine W.widen (k := 0) (n := 0) (Nat.le_of_ble_eq_true rfl) (Nat.le_of_ble_eq_true rfl) ?_
  exact W.iret (v := 0) hx hb hr (fun t ht hW => ⟨⟨0, (), rfl, rfl, ht⟩, hS.F ht⟩) hS.2.2 dX2_gather_31
set_option maxHeartbeats 1000000 in
set_option maxRecDepth 100000 in
theorem mz_spread0 (l : Launch) (dC : Nat → ClassId) (dI : Nat → Nat → Nat) (cI cJ cZ : ClassId) (dr : Nat) (dp : Nat) (dc : Nat) (ar : Nat) (f : Nat → Int32) (Hq : Heap)  : Met l yX2_spread wsX2_spread ({ frames := 2, cells := 0, slots := 0, locals := 44 }) (va_Pc [.ref dr, .int 0, .ref ar] (fun U => U.heap = Hq ∧ va_P (dC, dI) vwCl [(dr, .inr (2, [.ref dp, .ref dc, .int 0])), (ar, .inl (cI, 8, .inl f))] Hq ∧ va_K (dC, dI) vwCl [(cI, FieldType.int), (cJ, FieldType.long), (cZ, FieldType.boolean)] U ∧ mz_N U)) (va_Qi (fun (r : Int32) (_ : Unit) => r = 0) (fun _ t => t.heap = Hq) (fun _ : Nat => False)) 0 0 (fun _ : Nat => False) := by
  refine Met.ofW (cc := cX2_spread) (maxL := 6) (ret := (some .int)) (by decide) rfl ?_
  intro p e s m args below meth c s₁ B hml hv
  obtain ⟨rfl, hH, hP, hK, hN⟩ := hv
  subst hH
  have hx := B.exec
  have hb := B.bytes
  have hr := B.returns
  have hts := atoms_spec (ws := wsX2_spread) B.pre
  have hown : s.vm.findClass RX2 = some m.cls := findClass_of_methodNamed B.named
  have hlocks := B.notSynchronized
  have hS : va_S (fun _ : Nat => False) s.heap s.heap [] := va_S.rf
  have hl := lv_entry ([.ref dr, .int 0, .ref ar]) (n := 6) (Nat.le_of_ble_eq_true rfl)
  rw [lg_entry_eq]
  generalize (lg_sl ([.ref dr, .int 0, .ref ar]) ++ List.replicate (6 - (lg_sl ([.ref dr, .int 0, .ref ar])).length) Slot.unset).toArray = ls at hl ⊢
  have hl : lv_has ls 6 [(0, .ref dr), (1, .int 0), (2, .ref ar)] := hl
  refine lv_iload_n hx hb dX2_spread_0 rfl (lv_at hl 1 rfl) ?_
  refine lv_istore_n (lv' := [(3, .int 0), (0, .ref dr), (1, .int 0), (2, .ref ar)]) hx hb dX2_spread_1 rfl hl (by decide) rfl (fun ls hl => ?_)
  refine lv_iconst (v := 0) hx hb dX2_spread_2 (by decide +kernel) ?_
  refine lv_istore (lv' := [(4, .int 0), (3, .int 0), (0, .ref dr), (1, .int 0), (2, .ref ar)]) hx hb dX2_spread_3 hl (by decide) rfl (fun ls hl => ?_)
  refine lv_iload hx hb dX2_spread_5 (lv_at hl 0 rfl) ?_
  refine lv_bipush (v := 8) hx hb dX2_spread_7 (by decide +kernel) ?_
  refine lv_icmp_ge (tgt := 39) hx hb dX2_spread_9 (by decide) (fun c_9 => absurd c_9 (by decide +kernel)) (fun _ => ?_)
  refine lv_iload_n hx hb dX2_spread_12 rfl (lv_at hl 1 rfl) ?_
  refine lv_iload_n hx hb dX2_spread_13 rfl (lv_at hl 1 rfl) ?_
  refine lv_aload_n hx hb dX2_spread_14 rfl (lv_at hl 4 rfl) ?_
  have hPc := hP.sub (ws' := [(ar, .inl (cI, 8, .inl f))]) [1] rfl
  refine va_calli (va_runS (As := [.int 0, .ref ar]) (rest := [.int 0]) ⟨hx, hb, hml, hown, hts⟩ (mz_gather0 l dC dI cI cJ cZ ar f s.heap ) (va_cwS 2 hts gX2_spread_X2_gather rfl rfl rfl (by decide +kernel) ⟨Nat.le_of_ble_eq_true rfl, Nat.le_of_ble_eq_true rfl⟩) ⟨fun a U g mk q => mz_blP q, fun U hU hW => ⟨rfl, hU, hPc, va_K.moved hW.alike hK, mz_nw hW hN⟩⟩ rfl rfl hl.1 rfl (lv_room (Nat.le_of_ble_eq_true rfl)) dX2_spread_15 ⟨Nat.le_of_ble_eq_true rfl, Nat.le_of_ble_eq_true rfl⟩) hS (fun q _ h => h.elim) (fun q h => h.elim) (fun r u t H1 locs ht hvm hw hB hz1 hk1 hS => ?_)
  have hE : s.heap = H1 := hB.symm.trans ht
  subst hE
  obtain rfl : r = 0 := hw
  refine lv_ior hx hb dX2_spread_18 ?_
  refine mz_ti (y := 0) (by decide +kernel) ?_
  refine lv_istore (lv' := [(5, .int 0), (4, .int 0), (3, .int 0), (0, .ref dr), (1, .int 0), (2, .ref ar)]) hx hb dX2_spread_19 hl (by decide) rfl (fun ls hl => ?_)
  refine lv_iload hx hb dX2_spread_21 (lv_at hl 0 rfl) ?_
  refine lv_iload_n hx hb dX2_spread_23 rfl (lv_at hl 2 rfl) ?_
  refine lv_icmp_ne (tgt := 30) hx hb dX2_spread_24 (by decide) (fun c_24 => absurd (by decide +kernel) c_24) (fun _ => ?_)
  refine lv_goto (tgt := 39) hx hb dX2_spread_27 (by decide) ?_
  refine lv_iload_n hx hb dX2_spread_39 rfl (lv_at hl 2 rfl) ?_
  refine W.widen (k := 0) (n := 0) (Nat.le_of_ble_eq_true rfl) (Nat.le_of_ble_eq_true rfl) ?_
  exact W.iret (v := 0) hx hb hr (fun t ht hW => ⟨⟨0, (), rfl, rfl, ht⟩, hS.F ht⟩) hS.2.2 dX2_spread_40
set_option maxHeartbeats 1000000 in
set_option maxRecDepth 100000 in
theorem mz_barred0 (l : Launch) (dC : Nat → ClassId) (dI : Nat → Nat → Nat) (cI cJ cZ : ClassId) (dr : Nat) (dp : Nat) (dc : Nat) (fp : Nat → Int32) (fc : Nat → Int32) (Hq : Heap)  : Met l yX2_barred wsX2_barred ({ frames := 3, cells := 0, slots := 0, locals := 69 }) (va_Pc [.ref dr, .int 0, .int 0, .int 0] (fun U => U.heap = Hq ∧ va_P (dC, dI) vwCl [(dr, .inr (2, [.ref dp, .ref dc, .int 0])), (dp, .inl (cI, 8, .inl fp)), (dc, .inl (cI, 8, .inl fc))] Hq ∧ va_K (dC, dI) vwCl [(cI, FieldType.int), (cJ, FieldType.long), (cZ, FieldType.boolean)] U ∧ mz_N U)) (va_Qi (fun (r : Int32) (_ : Unit) => r = 1) (fun _ t => t.heap = Hq) (fun _ : Nat => False)) 0 0 (fun _ : Nat => False) := by
  refine Met.ofW (cc := cX2_barred) (maxL := 12) (ret := (some .boolean)) (by decide) rfl ?_
  intro p e s m args below meth c s₁ B hml hv
  obtain ⟨rfl, hH, hP, hK, hN⟩ := hv
  subst hH
  have hx := B.exec
  have hb := B.bytes
  have hr := B.returns
  have hts := atoms_spec (ws := wsX2_barred) B.pre
  have hown : s.vm.findClass RX2 = some m.cls := findClass_of_methodNamed B.named
  have hlocks := B.notSynchronized
  have hS : va_S (fun _ : Nat => False) s.heap s.heap [] := va_S.rf
  have hiX2 : ∀ w ∈ u_ws RX2 TX2 3, w ∈ wsX2_barred := by decide +kernel
  have hl := lv_entry ([.ref dr, .int 0, .int 0, .int 0]) (n := 12) (Nat.le_of_ble_eq_true rfl)
  rw [lg_entry_eq]
  generalize (lg_sl ([.ref dr, .int 0, .int 0, .int 0]) ++ List.replicate (12 - (lg_sl ([.ref dr, .int 0, .int 0, .int 0])).length) Slot.unset).toArray = ls at hl ⊢
  have hl : lv_has ls 12 [(0, .ref dr), (1, .int 0), (2, .int 0), (3, .int 0)] := hl
  refine lv_aload_n hx hb dX2_barred_0 rfl (lv_at hl 0 rfl) ?_
  refine lv_iload_n hx hb dX2_barred_1 rfl (lv_at hl 3 rfl) ?_
  refine lv_aload_n hx hb dX2_barred_2 rfl (lv_at hl 0 rfl) ?_
  refine va_get (D := (dC, dI)) (ci := 2) (v := .ref dp) (C := RX2) (T := TX2) (N := 3) hx hb hts hiX2 hown hK hP 0 rfl rfl 0 (by decide) (hts (.fieldLink RX2 9 "MadeItSo$Drawing" "parents" "[I") (by decide +kernel)) (fun _ h9 => h9) rfl dX2_barred_3 ?_
  have hPc := hP.sub (ws' := [(dr, .inr (2, [.ref dp, .ref dc, .int 0])), (dp, .inl (cI, 8, .inl fp))]) [0, 1] rfl
  refine va_calli (va_runV (As := [.int 0, .ref dp]) (rest := []) ⟨hx, hb, hml, hown, hts⟩ (mz_spread0 l dC dI cI cJ cZ dr dp dc dp fp s.heap ) (cwV 2 hts gX2_barred_X2_spread rfl rfl rfl (by decide +kernel) ⟨Nat.le_of_ble_eq_true rfl, Nat.le_of_ble_eq_true rfl⟩) ⟨fun a U g mk q => mz_blP q, va_recv hK hPc (ci := 2) (q0 := 0) rfl rfl, fun U hU hW => ⟨rfl, hU, hPc, va_K.moved hW.alike hK, mz_nw hW hN⟩⟩ rfl rfl hl.1 rfl (lv_room (Nat.le_of_ble_eq_true rfl)) dX2_barred_6 ⟨Nat.le_of_ble_eq_true rfl, Nat.le_of_ble_eq_true rfl⟩) hS (fun q _ h => h.elim) (fun q h => h.elim) (fun r u t H1 locs ht hvm hw hB hz1 hk1 hS => ?_)
  have hE : s.heap = H1 := hB.symm.trans ht
  subst hE
  obtain rfl : r = 0 := hw
  refine lv_istore (lv' := [(4, .int 0), (0, .ref dr), (1, .int 0), (2, .int 0), (3, .int 0)]) hx hb dX2_barred_9 hl (by decide) rfl (fun ls hl => ?_)
  refine lv_iload_n hx hb dX2_barred_11 rfl (lv_at hl 2 rfl) ?_
  refine lv_istore (lv' := [(5, .int 0), (4, .int 0), (0, .ref dr), (1, .int 0), (2, .int 0), (3, .int 0)]) hx hb dX2_barred_12 hl (by decide) rfl (fun ls hl => ?_)
  refine lv_iconst (v := 0) hx hb dX2_barred_14 (by decide +kernel) ?_
  refine lv_istore (lv' := [(6, .int 0), (5, .int 0), (4, .int 0), (0, .ref dr), (1, .int 0), (2, .int 0), (3, .int 0)]) hx hb dX2_barred_15 hl (by decide) rfl (fun ls hl => ?_)
  refine lv_iconst (v := 0) hx hb dX2_barred_17 (by decide +kernel) ?_
  refine lv_istore (lv' := [(7, .int 0), (6, .int 0), (5, .int 0), (4, .int 0), (0, .ref dr), (1, .int 0), (2, .int 0), (3, .int 0)]) hx hb dX2_barred_18 hl (by decide) rfl (fun ls hl => ?_)
  refine lv_iload hx hb dX2_barred_20 (lv_at hl 0 rfl) ?_
  refine lv_bipush (v := 16) hx hb dX2_barred_22 (by decide +kernel) ?_
  refine lv_icmp_ge (tgt := 111) hx hb dX2_barred_24 (by decide) (fun c_24 => absurd c_24 (by decide +kernel)) (fun _ => ?_)
  refine lv_iload hx hb dX2_barred_27 (lv_at hl 2 rfl) ?_
  refine lv_iload_n hx hb dX2_barred_29 rfl (lv_at hl 7 rfl) ?_
  refine lv_iconst (v := (-1)) hx hb dX2_barred_30 (by decide +kernel) ?_
  refine lv_ixor hx hb dX2_barred_31 ?_
  refine mz_ti (y := (-1)) (by decide +kernel) ?_
  refine lv_iand hx hb dX2_barred_32 ?_
  refine mz_ti (y := 0) (by decide +kernel) ?_
  refine lv_iload hx hb dX2_barred_33 (lv_at hl 1 rfl) ?_
  refine lv_iload hx hb dX2_barred_35 (lv_at hl 3 rfl) ?_
  refine lv_iand hx hb dX2_barred_37 ?_
  refine mz_ti (y := 0) (by decide +kernel) ?_
  refine lv_ior hx hb dX2_barred_38 ?_
  refine mz_ti (y := 0) (by decide +kernel) ?_
  refine lv_istore (lv' := [(8, .int 0), (7, .int 0), (6, .int 0), (5, .int 0), (4, .int 0), (0, .ref dr), (1, .int 0), (2, .int 0), (3, .int 0)]) hx hb dX2_barred_39 hl (by decide) rfl (fun ls hl => ?_)
  refine lv_iload hx hb dX2_barred_41 (lv_at hl 3 rfl) ?_
  refine lv_iload hx hb dX2_barred_43 (lv_at hl 2 rfl) ?_
  refine lv_ior hx hb dX2_barred_45 ?_
  refine mz_ti (y := 0) (by decide +kernel) ?_
  refine lv_iload_n hx hb dX2_barred_46 rfl (lv_at hl 8 rfl) ?_
  refine lv_iconst (v := (-1)) hx hb dX2_barred_47 (by decide +kernel) ?_
  refine lv_ixor hx hb dX2_barred_48 ?_
  refine mz_ti (y := (-1)) (by decide +kernel) ?_
  refine lv_iand hx hb dX2_barred_49 ?_
  refine mz_ti (y := 0) (by decide +kernel) ?_
  refine lv_istore (lv' := [(9, .int 0), (8, .int 0), (7, .int 0), (6, .int 0), (5, .int 0), (4, .int 0), (0, .ref dr), (1, .int 0), (2, .int 0), (3, .int 0)]) hx hb dX2_barred_50 hl (by decide) rfl (fun ls hl => ?_)
  refine lv_iload hx hb dX2_barred_52 (lv_at hl 4 rfl) ?_
  refine lv_iload hx hb dX2_barred_54 (lv_at hl 1 rfl) ?_
  refine lv_aload_n hx hb dX2_barred_56 rfl (lv_at hl 6 rfl) ?_
  refine va_get (D := (dC, dI)) (ci := 2) (v := .ref dp) (C := RX2) (T := TX2) (N := 3) hx hb hts hiX2 hown hK hP 0 rfl rfl 0 (by decide) (hts (.fieldLink RX2 9 "MadeItSo$Drawing" "parents" "[I") (by decide +kernel)) (fun _ h9 => h9) rfl dX2_barred_57 ?_
  have hPc := hP.sub (ws' := [(dp, .inl (cI, 8, .inl fp))]) [1] rfl
  refine va_calli (va_runS (As := [.int 0, .ref dp]) (rest := [.int 0]) ⟨hx, hb, hml, hown, hts⟩ (mz_gather0 l dC dI cI cJ cZ dp fp s.heap ) (va_cwS 2 hts gX2_barred_X2_gather rfl rfl rfl (by decide +kernel) ⟨Nat.le_of_ble_eq_true rfl, Nat.le_of_ble_eq_true rfl⟩) ⟨fun a U g mk q => mz_blP q, fun U hU hW => ⟨rfl, hU, hPc, va_K.moved hW.alike hK, mz_nw hW hN⟩⟩ rfl rfl hl.1 rfl (lv_room (Nat.le_of_ble_eq_true rfl)) dX2_barred_60 ⟨Nat.le_of_ble_eq_true rfl, Nat.le_of_ble_eq_true rfl⟩) hS (fun q _ h => h.elim) (fun q h => h.elim) (fun r u t H1 locs ht hvm hw hB hz1 hk1 hS => ?_)
  have hE : s.heap = H1 := hB.symm.trans ht
  subst hE
  obtain rfl : r = 0 := hw
  refine lv_ior hx hb dX2_barred_63 ?_
  refine mz_ti (y := 0) (by decide +kernel) ?_
  refine lv_istore (lv' := [(10, .int 0), (9, .int 0), (8, .int 0), (7, .int 0), (6, .int 0), (5, .int 0), (4, .int 0), (0, .ref dr), (1, .int 0), (2, .int 0), (3, .int 0)]) hx hb dX2_barred_64 hl (by decide) rfl (fun ls hl => ?_)
  refine lv_iload hx hb dX2_barred_66 (lv_at hl 4 rfl) ?_
  refine lv_iload hx hb dX2_barred_68 (lv_at hl 1 rfl) ?_
  refine lv_aload_n hx hb dX2_barred_70 rfl (lv_at hl 7 rfl) ?_
  refine va_get (D := (dC, dI)) (ci := 2) (v := .ref dc) (C := RX2) (T := TX2) (N := 3) hx hb hts hiX2 hown hK hP 0 rfl rfl 1 (by decide) (hts (.fieldLink RX2 15 "MadeItSo$Drawing" "children" "[I") (by decide +kernel)) (fun _ h9 => h9) rfl dX2_barred_71 ?_
  have hPc := hP.sub (ws' := [(dc, .inl (cI, 8, .inl fc))]) [2] rfl
  refine va_calli (va_runS (As := [.int 0, .ref dc]) (rest := [.int 0]) ⟨hx, hb, hml, hown, hts⟩ (mz_gather0 l dC dI cI cJ cZ dc fc s.heap ) (va_cwS 2 hts gX2_barred_X2_gather rfl rfl rfl (by decide +kernel) ⟨Nat.le_of_ble_eq_true rfl, Nat.le_of_ble_eq_true rfl⟩) ⟨fun a U g mk q => mz_blP q, fun U hU hW => ⟨rfl, hU, hPc, va_K.moved hW.alike hK, mz_nw hW hN⟩⟩ rfl rfl hl.1 rfl (lv_room (Nat.le_of_ble_eq_true rfl)) dX2_barred_74 ⟨Nat.le_of_ble_eq_true rfl, Nat.le_of_ble_eq_true rfl⟩) hS (fun q _ h => h.elim) (fun q h => h.elim) (fun r u t H1 locs ht hvm hw hB hz1 hk1 hS => ?_)
  have hE : s.heap = H1 := hB.symm.trans ht
  subst hE
  obtain rfl : r = 0 := hw
  refine lv_ior hx hb dX2_barred_77 ?_
  refine mz_ti (y := 0) (by decide +kernel) ?_
  refine lv_istore (lv' := [(11, .int 0), (10, .int 0), (9, .int 0), (8, .int 0), (7, .int 0), (6, .int 0), (5, .int 0), (4, .int 0), (0, .ref dr), (1, .int 0), (2, .int 0), (3, .int 0)]) hx hb dX2_barred_78 hl (by decide) rfl (fun ls hl => ?_)
  refine lv_iload hx hb dX2_barred_80 (lv_at hl 1 rfl) ?_
  refine lv_iload hx hb dX2_barred_82 (lv_at hl 6 rfl) ?_
  refine lv_icmp_ne (tgt := 97) hx hb dX2_barred_84 (by decide) (fun c_84 => absurd (by decide +kernel) c_84) (fun _ => ?_)
  refine lv_iload hx hb dX2_barred_87 (lv_at hl 0 rfl) ?_
  refine lv_iload hx hb dX2_barred_89 (lv_at hl 5 rfl) ?_
  refine lv_icmp_ne (tgt := 97) hx hb dX2_barred_91 (by decide) (fun c_91 => absurd (by decide +kernel) c_91) (fun _ => ?_)
  refine lv_goto (tgt := 111) hx hb dX2_barred_94 (by decide) ?_
  refine lv_iload hx hb dX2_barred_111 (lv_at hl 6 rfl) ?_
  refine lv_iload hx hb dX2_barred_113 (lv_at hl 5 rfl) ?_
  refine lv_ior hx hb dX2_barred_115 ?_
  refine mz_ti (y := 0) (by decide +kernel) ?_
  refine lv_iload_n hx hb dX2_barred_116 rfl (lv_at hl 10 rfl) ?_
  refine lv_iand hx hb dX2_barred_117 ?_
  refine mz_ti (y := 0) (by decide +kernel) ?_
  refine lv_if_ne (tgt := 125) hx hb dX2_barred_118 (by decide) (fun c_118 => absurd (by decide +kernel) c_118) (fun _ => ?_)
  refine lv_iconst (v := 1) hx hb dX2_barred_121 (by decide +kernel) ?_
  refine lv_goto (tgt := 126) hx hb dX2_barred_122 (by decide) ?_
  refine W.widen (k := 0) (n := 0) (Nat.le_of_ble_eq_true rfl) (Nat.le_of_ble_eq_true rfl) ?_
  exact W.zret (v := 1) hx hb hr (mz_nz (by decide +kernel)) (fun t ht hW => ⟨⟨1, (), rfl, rfl, ht⟩, hS.F ht⟩) hS.2.2 dX2_barred_126
set_option maxHeartbeats 1000000 in
set_option maxRecDepth 100000 in
theorem mz_grow0 (l : Launch) (dC : Nat → ClassId) (dI : Nat → Nat → Nat) (cI cJ cZ : ClassId) (dr : Nat) (dp : Nat) (dc : Nat) (sz : Nat)  : Met l yX2_grow wsX2_grow ({ frames := 0, cells := 0, slots := 0, locals := 0 }) (va_Pc [.ref dr] (fun U => U.heap.size = sz ∧ va_P (dC, dI) vwCl [(dr, .inr (2, [.ref dp, .ref dc, .int 0]))] U.heap ∧ va_K (dC, dI) vwCl [(cI, FieldType.int), (cJ, FieldType.long), (cZ, FieldType.boolean)] U ∧ va_D (fun _ => True) [(dr, .inr (2, [.ref dp, .ref dc, .int 0]))] ∧ mz_N U)) (va_Qi (fun (r : Int32) (_ : Unit) => r = 0) (fun _ t => va_P (dC, dI) vwCl [] t.heap ∧ va_D (va_A [(dr, .inr (2, [.ref dp, .ref dc, .int 0]))] sz) []) (va_A [(dr, .inr (2, [.ref dp, .ref dc, .int 0]))] sz)) 0 0 (va_A [(dr, .inr (2, [.ref dp, .ref dc, .int 0]))] sz) := by
  refine Met.ofW (cc := cX2_grow) (maxL := 1) (ret := (some .int)) (by decide) rfl ?_
  intro p e s m args below meth c s₁ B hml hv
  obtain ⟨rfl, hsz, hP, hK, hD0, hN⟩ := hv
  subst hsz
  have hx := B.exec
  have hb := B.bytes
  have hr := B.returns
  have hts := atoms_spec (ws := wsX2_grow) B.pre
  have hown : s.vm.findClass RX2 = some m.cls := findClass_of_methodNamed B.named
  have hlocks := B.notSynchronized
  have hD := hD0.self (sz := s.heap.size)
  generalize hAe : va_A [(dr, .inr (2, [.ref dp, .ref dc, .int 0]))] s.heap.size = A at hD ⊢
  have hA : ∀ q : Nat, s.heap.size ≤ q → A q := fun q h => by rw [← hAe]; exact Or.inr h
  have hS : va_S A s.heap s.heap [] := va_S.rf
  have hiX2 : ∀ w ∈ u_ws RX2 TX2 3, w ∈ wsX2_grow := by decide +kernel
  have hl := lv_entry ([.ref dr]) (n := 1) (Nat.le_of_ble_eq_true rfl)
  rw [lg_entry_eq]
  generalize (lg_sl ([.ref dr]) ++ List.replicate (1 - (lg_sl ([.ref dr])).length) Slot.unset).toArray = ls at hl ⊢
  have hl : lv_has ls 1 [(0, .ref dr)] := hl
  refine lv_aload_n hx hb dX2_grow_0 rfl (lv_at hl 0 rfl) ?_
  refine va_get (D := (dC, dI)) (ci := 2) (v := .int 0) (C := RX2) (T := TX2) (N := 3) hx hb hts hiX2 hown hK hP 0 rfl rfl 2 (by decide) (hts (.fieldLink RX2 18 "MadeItSo$Drawing" "things" "I") (by decide +kernel)) (fun _ h9 => h9) rfl dX2_grow_1 ?_
  refine lv_bipush (v := 8) hx hb dX2_grow_4 (by decide +kernel) ?_
  refine lv_icmp_lt (tgt := 11) hx hb dX2_grow_6 (by decide) (fun _ => ?_) (fun c_6 => absurd (by decide +kernel) c_6)
  refine lv_aload_n hx hb dX2_grow_11 rfl (lv_at hl 0 rfl) ?_
  refine lv_dup hx hb dX2_grow_12 rfl ?_
  refine va_get (D := (dC, dI)) (ci := 2) (v := .int 0) (C := RX2) (T := TX2) (N := 3) hx hb hts hiX2 hown hK hP 0 rfl rfl 2 (by decide) (hts (.fieldLink RX2 18 "MadeItSo$Drawing" "things" "I") (by decide +kernel)) (fun _ h9 => h9) rfl dX2_grow_13 ?_
  refine lv_iconst (v := 1) hx hb dX2_grow_16 (by decide +kernel) ?_
  refine lv_iadd hx hb dX2_grow_17 ?_
  refine mz_ti (y := 1) (by decide +kernel) ?_
  refine va_put (D := (dC, dI)) (ci := 2) (v := .int 1) (ty := .int) (C := RX2) (T := TX2) (N := 3) hx hb hts hiX2 tyX2 tyX2_ok nmX2 hown hK hP hD hS 0 rfl rfl 2 (by decide) (hts (.fieldLink RX2 18 "MadeItSo$Drawing" "things" "I") (by decide +kernel)) (fun _ h9 => h9) rfl (by decide +kernel) rfl rfl (Nat.le_of_ble_eq_true rfl) dX2_grow_18 (fun H locs hP hD hS => ?_)
  have hP : va_P (dC, dI) vwCl [(dr, .inr (2, [.ref dp, .ref dc, .int 1]))] H := hP
  have hD : va_D A [(dr, .inr (2, [.ref dp, .ref dc, .int 1]))] := hD
  refine lv_aload_n hx hb dX2_grow_21 rfl (lv_at hl 0 rfl) ?_
  refine va_get (D := (dC, dI)) (ci := 2) (v := .int 1) (C := RX2) (T := TX2) (N := 3) hx hb hts hiX2 hown hK hP 0 rfl rfl 2 (by decide) (hts (.fieldLink RX2 18 "MadeItSo$Drawing" "things" "I") (by decide +kernel)) (fun _ h9 => h9) rfl dX2_grow_22 ?_
  refine lv_iconst (v := 1) hx hb dX2_grow_25 (by decide +kernel) ?_
  refine lv_isub hx hb dX2_grow_26 ?_
  refine mz_ti (y := 0) (by decide +kernel) ?_
  have hP9 := hP.sub (ws' := []) [] rfl
  have hD9 := hD.sub (ws' := []) [] (by decide) rfl
  refine W.widen (k := 0) (n := 0) (Nat.le_of_ble_eq_true rfl) (Nat.le_of_ble_eq_true rfl) ?_
  exact W.iret (v := 0) hx hb hr (fun t ht hW => ⟨⟨0, (), rfl, rfl, by rw [ht]; exact hP9, hD9⟩, hS.F ht⟩) hS.2.2 dX2_grow_27
set_option maxHeartbeats 1000000 in
set_option maxRecDepth 100000 in
theorem mz_blank0 (l : Launch) (dC : Nat → ClassId) (dI : Nat → Nat → Nat) (cI cJ cZ : ClassId) (bk : Nat) (bp : Nat) (fb : Nat → Int32) (sz : Nat)  : Met l yX1_blank wsX1_blank ({ frames := 0, cells := 0, slots := 0, locals := 0 }) (va_Pc [.ref bk, .int 0] (fun U => U.heap.size = sz ∧ va_P (dC, dI) vwCl [(bk, .inr (1, [.ref bp])), (bp, .inl (cI, 1024, .inl fb))] U.heap ∧ va_K (dC, dI) vwCl [(cI, FieldType.int), (cJ, FieldType.long), (cZ, FieldType.boolean)] U ∧ va_D (fun _ => True) [(bk, .inr (1, [.ref bp])), (bp, .inl (cI, 1024, .inl fb))] ∧ mz_N U)) (va_Qv (fun (_ : Unit) => True) (fun _ t => va_P (dC, dI) vwCl [] t.heap ∧ va_D (va_A [(bk, .inr (1, [.ref bp])), (bp, .inl (cI, 1024, .inl fb))] sz) []) (va_A [(bk, .inr (1, [.ref bp])), (bp, .inl (cI, 1024, .inl fb))] sz)) 0 0 (va_A [(bk, .inr (1, [.ref bp])), (bp, .inl (cI, 1024, .inl fb))] sz) := by
  refine Met.ofW (cc := cX1_blank) (maxL := 3) (ret := none) (by decide) rfl ?_
  intro p e s m args below meth c s₁ B hml hv
  obtain ⟨rfl, hsz, hP, hK, hD0, hN⟩ := hv
  subst hsz
  have hx := B.exec
  have hb := B.bytes
  have hr := B.returns
  have hts := atoms_spec (ws := wsX1_blank) B.pre
  have hown : s.vm.findClass RX1 = some m.cls := findClass_of_methodNamed B.named
  have hlocks := B.notSynchronized
  have hD := hD0.self (sz := s.heap.size)
  generalize hAe : va_A [(bk, .inr (1, [.ref bp])), (bp, .inl (cI, 1024, .inl fb))] s.heap.size = A at hD ⊢
  have hA : ∀ q : Nat, s.heap.size ≤ q → A q := fun q h => by rw [← hAe]; exact Or.inr h
  have hS : va_S A s.heap s.heap [] := va_S.rf
  have hiX1 : ∀ w ∈ u_ws RX1 TX1 1, w ∈ wsX1_blank := by decide +kernel
  have hl := lv_entry ([.ref bk, .int 0]) (n := 3) (Nat.le_of_ble_eq_true rfl)
  rw [lg_entry_eq]
  generalize (lg_sl ([.ref bk, .int 0]) ++ List.replicate (3 - (lg_sl ([.ref bk, .int 0])).length) Slot.unset).toArray = ls at hl ⊢
  have hl : lv_has ls 3 [(0, .ref bk), (1, .int 0)] := hl
  refine lv_iload_n hx hb dX1_blank_0 rfl (lv_at hl 1 rfl) ?_
  refine lv_if_lt (tgt := 39) hx hb dX1_blank_1 (by decide) (fun c_1 => absurd c_1 (by decide +kernel)) (fun _ => ?_)
  refine lv_iload_n hx hb dX1_blank_4 rfl (lv_at hl 1 rfl) ?_
  refine lv_bipush (v := 8) hx hb dX1_blank_5 (by decide +kernel) ?_
  refine lv_icmp_ge (tgt := 39) hx hb dX1_blank_7 (by decide) (fun c_7 => absurd c_7 (by decide +kernel)) (fun _ => ?_)
  refine lv_iconst (v := 0) hx hb dX1_blank_10 (by decide +kernel) ?_
  refine lv_istore_n (lv' := [(2, .int 0), (0, .ref bk), (1, .int 0)]) hx hb dX1_blank_11 rfl hl (by decide) rfl (fun ls hl => ?_)
  refine mz_loop 128 (fun i H locs ls => ∃ f : Nat → Int32, va_P (dC, dI) vwCl [(bk, .inr (1, [.ref bp])), (bp, .inl (cI, 1024, .inl f))] H ∧ va_D A [(bk, .inr (1, [.ref bp])), (bp, .inl (cI, 1024, .inl f))] ∧ va_S A s.heap H locs ∧ lv_has ls 3 [(2, .int (nI i)), (0, .ref bk), (1, .int 0)]) ?_ ?_ 0 (Nat.zero_le _) _ _ _ ⟨_, hP, hD, hS, hl⟩
  · intro i H locs ls hi_ hI kk
    obtain ⟨f, hP, hD, hS, hl⟩ := hI
    refine lv_iload_n hx hb dX1_blank_12 rfl (lv_at hl 0 rfl) ?_
    refine lv_sipush (v := 128) hx hb dX1_blank_13 (by decide +kernel) ?_
    refine lv_icmp_ge (tgt := 39) hx hb dX1_blank_16 (by decide) (fun c_16 => absurd c_16 (nI_ge hi_ (by decide))) (fun _ => ?_)
    refine lv_aload_n hx hb dX1_blank_19 rfl (lv_at hl 1 rfl) ?_
    refine va_get (D := (dC, dI)) (ci := 1) (v := .ref bp) (C := RX1) (T := TX1) (N := 1) hx hb hts hiX1 hown hK hP 0 rfl rfl 0 (by decide) (hts (.fieldLink RX1 9 "MadeItSo$Books" "parts" "[I") (by decide +kernel)) (fun _ h9 => h9) rfl dX1_blank_20 ?_
    refine lv_iload_n hx hb dX1_blank_23 rfl (lv_at hl 2 rfl) ?_
    refine lv_sipush (v := 128) hx hb dX1_blank_24 (by decide +kernel) ?_
    refine lv_imul hx hb dX1_blank_27 ?_
    refine mz_ti (y := 0) (by decide +kernel) ?_
    refine lv_iload_n hx hb dX1_blank_28 rfl (lv_at hl 0 rfl) ?_
    refine lv_iadd hx hb dX1_blank_29 ?_
    refine mz_ti (y := (nI i)) (mz_z0 _) ?_
    refine lv_bipush (v := 50) hx hb dX1_blank_30 (by decide +kernel) ?_
    refine va_iast hx hb hK hP hD hS 1 0 rfl rfl (vp_in_nI (Nat.lt_of_lt_of_le hi_ (by decide)) (by decide)) dX1_blank_32 (fun H locs hP hD hS => ?_)
    have hP : va_P (dC, dI) vwCl [(bk, .inr (1, [.ref bp])), (bp, .inl (cI, 1024, .inl (upd f ((nI i) : Int32).toNatClampNeg 50)))] H := hP
    have hD : va_D A [(bk, .inr (1, [.ref bp])), (bp, .inl (cI, 1024, .inl (upd f ((nI i) : Int32).toNatClampNeg 50)))] := hD
    refine lv_iinc (v := (nI (i + 1))) (lv' := [(2, .int (nI (i + 1))), (0, .ref bk), (1, .int 0)]) hx hb dX1_blank_33 hl (k := 0) rfl (nI_1 i) (by decide) rfl (fun ls hl => ?_)
    refine lv_goto (tgt := 12) hx hb dX1_blank_36 (by decide) ?_
    exact kk _ _ _ ⟨_, hP, hD, hS, lv_sub hl [0, 1, 2] rfl⟩
  · intro H locs ls hI
    obtain ⟨f, hP, hD, hS, hl⟩ := hI
    have hl : lv_has ls 3 [(2, .int 128), (0, .ref bk), (1, .int 0)] := hl
    refine lv_iload_n hx hb dX1_blank_12 rfl (lv_at hl 0 rfl) ?_
    refine lv_sipush (v := 128) hx hb dX1_blank_13 (by decide +kernel) ?_
    refine lv_icmp_ge (tgt := 39) hx hb dX1_blank_16 (by decide) (fun _ => ?_) (fun c_16 => absurd (by decide +kernel) c_16)
    have hP9 := hP.sub (ws' := []) [] rfl
    have hD9 := hD.sub (ws' := []) [] (by decide) rfl
    refine W.widen (k := 0) (n := 0) (Nat.le_of_ble_eq_true rfl) (Nat.le_of_ble_eq_true rfl) ?_
    exact W.vret hx hb hr (fun t ht hW => ⟨⟨(), rfl, trivial, by rw [ht]; exact hP9, hD9⟩, hS.F ht⟩) hS.2.2 dX1_blank_39
set_option maxHeartbeats 1000000 in
set_option maxRecDepth 100000 in
theorem mz_weigh0 (l : Launch) (dC : Nat → ClassId) (dI : Nat → Nat → Nat) (cI cJ cZ : ClassId) (wt : Nat) (wo : Nat) (fw : Nat → Int64) (dr : Nat) (dp : Nat) (dc : Nat) (bk : Nat) (p2 : Int32) (sz : Nat)  : Met l yX6_weigh wsX6_weigh ({ frames := 1, cells := 0, slots := 0, locals := 20 }) (va_Pc [.ref wt, .ref dr, .ref bk, .int p2] (fun U => U.heap.size = sz ∧ va_P (dC, dI) vwCl [(wt, .inr (6, [.ref wo, .int 0])), (wo, .inl (cJ, 256, .inr (.inl fw))), (dr, .inr (2, [.ref dp, .ref dc, .int 0]))] U.heap ∧ va_K (dC, dI) vwCl [(cI, FieldType.int), (cJ, FieldType.long), (cZ, FieldType.boolean)] U ∧ va_D (fun _ => True) [(wt, .inr (6, [.ref wo, .int 0])), (wo, .inl (cJ, 256, .inr (.inl fw))), (dr, .inr (2, [.ref dp, .ref dc, .int 0]))] ∧ mz_N U)) (va_Qv (fun (_ : Unit) => True) (fun _ t => ∃ (fx : Nat → Int64), fx 0 = 1 ∧ va_P (dC, dI) vwCl [(wt, .inr (6, [.ref wo, .int 0])), (wo, .inl (cJ, 256, .inr (.inl fx))), (dr, .inr (2, [.ref dp, .ref dc, .int 0]))] t.heap ∧ va_D (va_A [(wt, .inr (6, [.ref wo, .int 0])), (wo, .inl (cJ, 256, .inr (.inl fw))), (dr, .inr (2, [.ref dp, .ref dc, .int 0]))] sz) [(wt, .inr (6, [.ref wo, .int 0])), (wo, .inl (cJ, 256, .inr (.inl fx))), (dr, .inr (2, [.ref dp, .ref dc, .int 0]))]) (va_A [(wt, .inr (6, [.ref wo, .int 0])), (wo, .inl (cJ, 256, .inr (.inl fw))), (dr, .inr (2, [.ref dp, .ref dc, .int 0]))] sz)) 0 0 (va_A [(wt, .inr (6, [.ref wo, .int 0])), (wo, .inl (cJ, 256, .inr (.inl fw))), (dr, .inr (2, [.ref dp, .ref dc, .int 0]))] sz) := by
  refine Met.ofW (cc := cX6_weigh) (maxL := 10) (ret := none) (by decide) rfl ?_
  intro p e s m args below meth c s₁ B hml hv
  obtain ⟨rfl, hsz, hP, hK, hD0, hN⟩ := hv
  subst hsz
  have hx := B.exec
  have hb := B.bytes
  have hr := B.returns
  have hts := atoms_spec (ws := wsX6_weigh) B.pre
  have hown : s.vm.findClass RX6 = some m.cls := findClass_of_methodNamed B.named
  have hlocks := B.notSynchronized
  have hD := hD0.self (sz := s.heap.size)
  generalize hAe : va_A [(wt, .inr (6, [.ref wo, .int 0])), (wo, .inl (cJ, 256, .inr (.inl fw))), (dr, .inr (2, [.ref dp, .ref dc, .int 0]))] s.heap.size = A at hD ⊢
  have hA : ∀ q : Nat, s.heap.size ≤ q → A q := fun q h => by rw [← hAe]; exact Or.inr h
  have hS : va_S A s.heap s.heap [] := va_S.rf
  have hiX6 : ∀ w ∈ u_ws RX6 TX6 2, w ∈ wsX6_weigh := by decide +kernel
  have hl := lv_entry ([.ref wt, .ref dr, .ref bk, .int p2]) (n := 10) (Nat.le_of_ble_eq_true rfl)
  rw [lg_entry_eq]
  generalize (lg_sl ([.ref wt, .ref dr, .ref bk, .int p2]) ++ List.replicate (10 - (lg_sl ([.ref wt, .ref dr, .ref bk, .int p2])).length) Slot.unset).toArray = ls at hl ⊢
  have hl : lv_has ls 10 [(0, .ref wt), (1, .ref dr), (2, .ref bk), (3, .int p2)] := hl
  refine lv_aload_n hx hb dX6_weigh_0 rfl (lv_at hl 0 rfl) ?_
  refine lv_aload_n hx hb dX6_weigh_1 rfl (lv_at hl 1 rfl) ?_
  have hPc := hP.sub (ws' := [(dr, .inr (2, [.ref dp, .ref dc, .int 0]))]) [2] rfl
  refine va_calli (va_runV (As := []) (rest := [.ref wt]) ⟨hx, hb, hml, hown, hts⟩ (mz_Drawing_everything l dC dI cI cJ cZ dr dp dc s.heap ) (cwV 0 hts gX6_weigh_X2_everything rfl rfl rfl (by decide +kernel) ⟨Nat.le_of_ble_eq_true rfl, Nat.le_of_ble_eq_true rfl⟩) ⟨fun a U g mk q => mz_blP q, va_recv hK hPc (ci := 2) (q0 := 0) rfl rfl, fun U hU hW => ⟨rfl, hU, hPc, va_K.moved hW.alike hK, mz_nw hW hN⟩⟩ rfl rfl hl.1 rfl (lv_room (Nat.le_of_ble_eq_true rfl)) dX6_weigh_2 ⟨Nat.le_of_ble_eq_true rfl, Nat.le_of_ble_eq_true rfl⟩) hS (fun q _ h => h.elim) (fun q h => h.elim) (fun r u t H1 locs ht hvm hw hB hz1 hk1 hS => ?_)
  have hE : s.heap = H1 := hB.symm.trans ht
  subst hE
  obtain rfl : r = 0 := hw
  refine va_put (D := (dC, dI)) (ci := 6) (v := .int 0) (ty := .int) (C := RX6) (T := TX6) (N := 2) hx hb hts hiX6 tyX6 tyX6_ok nmX6 hown hK hP hD hS 0 rfl rfl 1 (by decide) (hts (.fieldLink RX6 15 "MadeItSo$Weights" "everything" "I") (by decide +kernel)) (fun _ h9 => h9) rfl (by decide +kernel) rfl rfl (Nat.le_of_ble_eq_true rfl) dX6_weigh_5 (fun H locs hP hD hS => ?_)
  have hP : va_P (dC, dI) vwCl [(wt, .inr (6, [.ref wo, .int 0])), (wo, .inl (cJ, 256, .inr (.inl fw))), (dr, .inr (2, [.ref dp, .ref dc, .int 0]))] H := hP
  have hD : va_D A [(wt, .inr (6, [.ref wo, .int 0])), (wo, .inl (cJ, 256, .inr (.inl fw))), (dr, .inr (2, [.ref dp, .ref dc, .int 0]))] := hD
  refine lv_aload_n hx hb dX6_weigh_8 rfl (lv_at hl 0 rfl) ?_
  refine va_get (D := (dC, dI)) (ci := 6) (v := .ref wo) (C := RX6) (T := TX6) (N := 2) hx hb hts hiX6 hown hK hP 0 rfl rfl 0 (by decide) (hts (.fieldLink RX6 9 "MadeItSo$Weights" "ofCase" "[J") (by decide +kernel)) (fun _ h9 => h9) rfl dX6_weigh_9 ?_
  refine lv_iconst (v := 0) hx hb dX6_weigh_12 (by decide +kernel) ?_
  refine lv_lconst (v := 1) hx hb dX6_weigh_13 (by decide +kernel) ?_
  refine va_last hx hb hK hP hD hS 1 1 rfl rfl (mz_in (by decide +kernel)) dX6_weigh_14 (fun H locs hP hD hS => ?_)
  have hP : va_P (dC, dI) vwCl [(wt, .inr (6, [.ref wo, .int 0])), (wo, .inl (cJ, 256, .inr (.inl (vp_updL fw (0 : Int32).toNatClampNeg 1)))), (dr, .inr (2, [.ref dp, .ref dc, .int 0]))] H := hP
  have hD : va_D A [(wt, .inr (6, [.ref wo, .int 0])), (wo, .inl (cJ, 256, .inr (.inl (vp_updL fw (0 : Int32).toNatClampNeg 1)))), (dr, .inr (2, [.ref dp, .ref dc, .int 0]))] := hD
  refine lv_iconst (v := 0) hx hb dX6_weigh_15 (by decide +kernel) ?_
  refine lv_istore (lv' := [(4, .int 0), (0, .ref wt), (1, .ref dr), (2, .ref bk), (3, .int p2)]) hx hb dX6_weigh_16 hl (by decide) rfl (fun ls hl => ?_)
  refine lv_iconst (v := 0) hx hb dX6_weigh_18 (by decide +kernel) ?_
  refine lv_istore (lv' := [(5, .int 0), (4, .int 0), (0, .ref wt), (1, .ref dr), (2, .ref bk), (3, .int p2)]) hx hb dX6_weigh_19 hl (by decide) rfl (fun ls hl => ?_)
  refine lv_iload hx hb dX6_weigh_21 (lv_at hl 0 rfl) ?_
  refine lv_aload_n hx hb dX6_weigh_23 rfl (lv_at hl 3 rfl) ?_
  have hPc := hP.sub (ws' := [(dr, .inr (2, [.ref dp, .ref dc, .int 0]))]) [2] rfl
  refine va_calli (va_runV (As := []) (rest := [.int 0]) ⟨hx, hb, hml, hown, hts⟩ (mz_Drawing_size l dC dI cI cJ cZ dr dp dc H ) (cwV 0 hts gX6_weigh_X2_size rfl rfl rfl (by decide +kernel) ⟨Nat.le_of_ble_eq_true rfl, Nat.le_of_ble_eq_true rfl⟩) ⟨fun a U g mk q => mz_blP q, va_recv hK hPc (ci := 2) (q0 := 0) rfl rfl, fun U hU hW => ⟨rfl, hU, hPc, va_K.moved hW.alike hK, mz_nw hW hN⟩⟩ rfl rfl hl.1 rfl (lv_room (Nat.le_of_ble_eq_true rfl)) dX6_weigh_24 ⟨Nat.le_of_ble_eq_true rfl, Nat.le_of_ble_eq_true rfl⟩) hS (fun q _ h => h.elim) (fun q h => h.elim) (fun r u t H1 locs ht hvm hw hB hz1 hk1 hS => ?_)
  have hE : H = H1 := hB.symm.trans ht
  subst hE
  obtain rfl : r = 0 := hw
  refine lv_icmp_ge (tgt := 119) hx hb dX6_weigh_27 (by decide) (fun _ => ?_) (fun c_27 => absurd (by decide +kernel) c_27)
  have hP9 := hP.sub (ws' := [(wt, .inr (6, [.ref wo, .int 0])), (wo, .inl (cJ, 256, .inr (.inl (vp_updL fw (0 : Int32).toNatClampNeg 1)))), (dr, .inr (2, [.ref dp, .ref dc, .int 0]))]) [0, 1, 2] rfl
  have hD9 := hD.sub (ws' := [(wt, .inr (6, [.ref wo, .int 0])), (wo, .inl (cJ, 256, .inr (.inl (vp_updL fw (0 : Int32).toNatClampNeg 1)))), (dr, .inr (2, [.ref dp, .ref dc, .int 0]))]) [0, 1, 2] (by decide) rfl
  refine W.widen (k := 0) (n := 0) (Nat.le_of_ble_eq_true rfl) (Nat.le_of_ble_eq_true rfl) ?_
  exact W.vret hx hb hr (fun t ht hW => ⟨⟨(), rfl, trivial, (vp_updL fw (0 : Int32).toNatClampNeg 1), rfl, by rw [ht]; exact hP9, hD9⟩, hS.F ht⟩) hS.2.2 dX6_weigh_119
set_option maxHeartbeats 1000000 in
set_option maxRecDepth 100000 in
theorem mz_having0 (l : Launch) (dC : Nat → ClassId) (dI : Nat → Nat → Nat) (cI cJ cZ : ClassId) (wt : Nat) (wo : Nat) (fw : Nat → Int64) (Hq : Heap) (hw0 : fw 0 = 1) : Met l yX6_having wsX6_having ({ frames := 2, cells := 0, slots := 0, locals := 40 }) (va_Pc [.ref wt, .int 0, .int 0] (fun U => U.heap = Hq ∧ va_P (dC, dI) vwCl [(wt, .inr (6, [.ref wo, .int 0])), (wo, .inl (cJ, 256, .inr (.inl fw)))] Hq ∧ va_K (dC, dI) vwCl [(cI, FieldType.int), (cJ, FieldType.long), (cZ, FieldType.boolean)] U ∧ mz_N U)) (va_Ql (fun (r : Int64) (_ : Unit) => r = 1) (fun _ t => t.heap = Hq) (fun _ : Nat => False)) 0 0 (fun _ : Nat => False) := by
  refine Met.ofW (cc := cX6_having) (maxL := 9) (ret := (some .long)) (by decide) rfl ?_
  intro p e s m args below meth c s₁ B hml hv
  obtain ⟨rfl, hH, hP, hK, hN⟩ := hv
  subst hH
  have hx := B.exec
  have hb := B.bytes
  have hr := B.returns
  have hts := atoms_spec (ws := wsX6_having) B.pre
  have hown : s.vm.findClass RX6 = some m.cls := findClass_of_methodNamed B.named
  have hlocks := B.notSynchronized
  have hS : va_S (fun _ : Nat => False) s.heap s.heap [] := va_S.rf
  have hiX6 : ∀ w ∈ u_ws RX6 TX6 2, w ∈ wsX6_having := by decide +kernel
  have hl := lv_entry ([.ref wt, .int 0, .int 0]) (n := 9) (Nat.le_of_ble_eq_true rfl)
  rw [lg_entry_eq]
  generalize (lg_sl ([.ref wt, .int 0, .int 0]) ++ List.replicate (9 - (lg_sl ([.ref wt, .int 0, .int 0])).length) Slot.unset).toArray = ls at hl ⊢
  have hl : lv_has ls 9 [(0, .ref wt), (1, .int 0), (2, .int 0)] := hl
  refine lv_aload_n hx hb dX6_having_0 rfl (lv_at hl 0 rfl) ?_
  refine va_get (D := (dC, dI)) (ci := 6) (v := .int 0) (C := RX6) (T := TX6) (N := 2) hx hb hts hiX6 hown hK hP 0 rfl rfl 1 (by decide) (hts (.fieldLink RX6 15 "MadeItSo$Weights" "everything" "I") (by decide +kernel)) (fun _ h9 => h9) rfl dX6_having_1 ?_
  refine lv_iload_n hx hb dX6_having_4 rfl (lv_at hl 1 rfl) ?_
  refine lv_iconst (v := (-1)) hx hb dX6_having_5 (by decide +kernel) ?_
  refine lv_ixor hx hb dX6_having_6 ?_
  refine mz_ti (y := (-1)) (by decide +kernel) ?_
  refine lv_iand hx hb dX6_having_7 ?_
  refine mz_ti (y := 0) (by decide +kernel) ?_
  refine lv_istore_n (lv' := [(3, .int 0), (0, .ref wt), (1, .int 0), (2, .int 0)]) hx hb dX6_having_8 rfl hl (by decide) rfl (fun ls hl => ?_)
  refine lv_iload_n hx hb dX6_having_9 rfl (lv_at hl 0 rfl) ?_
  have hPc := hP.sub (ws' := []) [] rfl
  refine va_calli (va_runSN (As := [.int 0]) (rest := []) ⟨hx, hb, hml, hown, hts⟩ (mz_partsOf0 l dC dI cI cJ cZ  s.heap ) ⟨va_cnB (host := "MadeItSo") 1 hts gX6_having_X7_partsOf_n31 rfl rfl rfl (hN (RX6, 31, yX7_partsOf, "MadeItSo") (by decide +kernel)) (hts (.initialized RX7) (by decide +kernel)) (by decide +kernel) ⟨Nat.le_of_ble_eq_true rfl, Nat.le_of_ble_eq_true rfl⟩, hts (.static yX7_partsOf) (by decide +kernel), trivial⟩ ⟨fun a U g mk q => mz_blP q, fun U hU hW => ⟨rfl, hU, hPc, va_K.moved hW.alike hK, mz_nw hW hN⟩⟩ rfl rfl hl.1 rfl (lv_room (Nat.le_of_ble_eq_true rfl)) dX6_having_10 ⟨Nat.le_of_ble_eq_true rfl, Nat.le_of_ble_eq_true rfl⟩) hS (fun q _ h => h.elim) (fun q h => h.elim) (fun r u t H1 locs ht hvm hw hB hz1 hk1 hS => ?_)
  have hE : s.heap = H1 := hB.symm.trans ht
  subst hE
  obtain rfl : r = 1 := hw
  refine lv_istore (lv' := [(4, .int 1), (3, .int 0), (0, .ref wt), (1, .int 0), (2, .int 0)]) hx hb dX6_having_13 hl (by decide) rfl (fun ls hl => ?_)
  refine lv_lconst (v := 0) hx hb dX6_having_15 (by decide +kernel) ?_
  refine lv_lstore (lv' := [(5, .long 0), (4, .int 1), (3, .int 0), (0, .ref wt), (1, .int 0), (2, .int 0)]) hx hb dX6_having_16 hl (by decide) rfl (fun ls hl => ?_)
  refine lv_iconst (v := 0) hx hb dX6_having_18 (by decide +kernel) ?_
  refine lv_istore (lv' := [(7, .int 0), (5, .long 0), (4, .int 1), (3, .int 0), (0, .ref wt), (1, .int 0), (2, .int 0)]) hx hb dX6_having_19 hl (by decide) rfl (fun ls hl => ?_)
  refine lv_iconst (v := 0) hx hb dX6_having_21 (by decide +kernel) ?_
  refine lv_istore (lv' := [(8, .int 0), (7, .int 0), (5, .long 0), (4, .int 1), (3, .int 0), (0, .ref wt), (1, .int 0), (2, .int 0)]) hx hb dX6_having_22 hl (by decide) rfl (fun ls hl => ?_)
  refine lv_iload hx hb dX6_having_24 (lv_at hl 1 rfl) ?_
  refine lv_iload hx hb dX6_having_26 (lv_at hl 3 rfl) ?_
  refine lv_icmp_ge (tgt := 63) hx hb dX6_having_28 (by decide) (fun c_28 => absurd c_28 (by decide +kernel)) (fun _ => ?_)
  refine lv_lload hx hb dX6_having_31 (lv_at hl 2 rfl) ?_
  refine lv_aload_n hx hb dX6_having_33 rfl (lv_at hl 5 rfl) ?_
  refine va_get (D := (dC, dI)) (ci := 6) (v := .ref wo) (C := RX6) (T := TX6) (N := 2) hx hb hts hiX6 hown hK hP 0 rfl rfl 0 (by decide) (hts (.fieldLink RX6 9 "MadeItSo$Weights" "ofCase" "[J") (by decide +kernel)) (fun _ h9 => h9) rfl dX6_having_34 ?_
  refine lv_iload_n hx hb dX6_having_37 rfl (lv_at hl 7 rfl) ?_
  refine lv_iload hx hb dX6_having_38 (lv_at hl 0 rfl) ?_
  refine lv_ior hx hb dX6_having_40 ?_
  refine mz_ti (y := 0) (by decide +kernel) ?_
  refine lv_sipush (v := 255) hx hb dX6_having_41 (by decide +kernel) ?_
  refine lv_iand hx hb dX6_having_44 ?_
  refine mz_ti (y := 0) (by decide +kernel) ?_
  refine va_lald hx hb hK hP 1 1 rfl rfl (mz_in (by decide +kernel)) dX6_having_45 ?_
  refine mz_tl (y := 1) hw0 ?_
  refine lv_ladd hx hb dX6_having_46 ?_
  refine mz_tl (y := 1) (by decide +kernel) ?_
  refine lv_lstore (lv' := [(5, .long 1), (8, .int 0), (7, .int 0), (4, .int 1), (3, .int 0), (0, .ref wt), (1, .int 0), (2, .int 0)]) hx hb dX6_having_47 hl (by decide) rfl (fun ls hl => ?_)
  refine lv_iinc (v := 1) (lv' := [(7, .int 1), (5, .long 1), (8, .int 0), (4, .int 1), (3, .int 0), (0, .ref wt), (1, .int 0), (2, .int 0)]) hx hb dX6_having_49 hl (k := 2) rfl (by decide +kernel) (by decide) rfl (fun ls hl => ?_)
  refine lv_iload hx hb dX6_having_52 (lv_at hl 2 rfl) ?_
  refine lv_iload_n hx hb dX6_having_54 rfl (lv_at hl 4 rfl) ?_
  have hPc := hP.sub (ws' := []) [] rfl
  refine va_calli (va_runSN (As := [.int 0, .int 0]) (rest := []) ⟨hx, hb, hml, hown, hts⟩ (mz_nextPart0 l dC dI cI cJ cZ  s.heap ) ⟨va_cnB (host := "MadeItSo") 2 hts gX6_having_X7_nextPart_n47 rfl rfl rfl (hN (RX6, 47, yX7_nextPart, "MadeItSo") (by decide +kernel)) (hts (.initialized RX7) (by decide +kernel)) (by decide +kernel) ⟨Nat.le_of_ble_eq_true rfl, Nat.le_of_ble_eq_true rfl⟩, hts (.static yX7_nextPart) (by decide +kernel), trivial⟩ ⟨fun a U g mk q => mz_blP q, fun U hU hW => ⟨rfl, hU, hPc, va_K.moved hW.alike hK, mz_nw hW hN⟩⟩ rfl rfl hl.1 rfl (lv_room (Nat.le_of_ble_eq_true rfl)) dX6_having_55 ⟨Nat.le_of_ble_eq_true rfl, Nat.le_of_ble_eq_true rfl⟩) hS (fun q _ h => h.elim) (fun q h => h.elim) (fun r u t H1 locs ht hvm hw hB hz1 hk1 hS => ?_)
  have hE : s.heap = H1 := hB.symm.trans ht
  subst hE
  obtain rfl : r = 0 := hw
  refine lv_istore (lv' := [(8, .int 0), (7, .int 1), (5, .long 1), (4, .int 1), (3, .int 0), (0, .ref wt), (1, .int 0), (2, .int 0)]) hx hb dX6_having_58 hl (by decide) rfl (fun ls hl => ?_)
  refine lv_goto (tgt := 24) hx hb dX6_having_60 (by decide) ?_
  refine lv_iload hx hb dX6_having_24 (lv_at hl 1 rfl) ?_
  refine lv_iload hx hb dX6_having_26 (lv_at hl 3 rfl) ?_
  refine lv_icmp_ge (tgt := 63) hx hb dX6_having_28 (by decide) (fun _ => ?_) (fun c_28 => absurd (by decide +kernel) c_28)
  refine lv_lload hx hb dX6_having_63 (lv_at hl 2 rfl) ?_
  refine W.widen (k := 0) (n := 0) (Nat.le_of_ble_eq_true rfl) (Nat.le_of_ble_eq_true rfl) ?_
  exact W.lret (v := 1) hx hb hr (fun t ht hW => ⟨⟨1, (), rfl, rfl, ht⟩, hS.F ht⟩) hS.2.2 dX6_having_65
set_option maxHeartbeats 1000000 in
set_option maxRecDepth 100000 in
theorem mz_reckon0 (l : Launch) (dC : Nat → ClassId) (dI : Nat → Nat → Nat) (cI cJ cZ : ClassId) (la : Nat) (lw : Nat) (fl : Nat → Int32) (dr : Nat) (dp : Nat) (dc : Nat) (sz : Nat)  : Met l yX4_reckon wsX4_reckon ({ frames := 1, cells := 0, slots := 0, locals := 20 }) (va_Pc [.ref la, .ref dr, .int (-1), .int (-1)] (fun U => U.heap.size = sz ∧ va_P (dC, dI) vwCl [(la, .inr (4, [.ref lw])), (lw, .inl (cI, 256, .inl fl)), (dr, .inr (2, [.ref dp, .ref dc, .int 0]))] U.heap ∧ va_K (dC, dI) vwCl [(cI, FieldType.int), (cJ, FieldType.long), (cZ, FieldType.boolean)] U ∧ va_D (fun _ => True) [(la, .inr (4, [.ref lw])), (lw, .inl (cI, 256, .inl fl)), (dr, .inr (2, [.ref dp, .ref dc, .int 0]))] ∧ mz_N U)) (va_Qi (fun (r : Int32) (_ : Unit) => r = 1) (fun _ t => va_P (dC, dI) vwCl [] t.heap ∧ va_D (va_A [(la, .inr (4, [.ref lw])), (lw, .inl (cI, 256, .inl fl)), (dr, .inr (2, [.ref dp, .ref dc, .int 0]))] sz) []) (va_A [(la, .inr (4, [.ref lw])), (lw, .inl (cI, 256, .inl fl)), (dr, .inr (2, [.ref dp, .ref dc, .int 0]))] sz)) 0 0 (va_A [(la, .inr (4, [.ref lw])), (lw, .inl (cI, 256, .inl fl)), (dr, .inr (2, [.ref dp, .ref dc, .int 0]))] sz) := by
  refine Met.ofW (cc := cX4_reckon) (maxL := 7) (ret := (some .int)) (by decide) rfl ?_
  intro p e s m args below meth c s₁ B hml hv
  obtain ⟨rfl, hsz, hP, hK, hD0, hN⟩ := hv
  subst hsz
  have hx := B.exec
  have hb := B.bytes
  have hr := B.returns
  have hts := atoms_spec (ws := wsX4_reckon) B.pre
  have hown : s.vm.findClass RX4 = some m.cls := findClass_of_methodNamed B.named
  have hlocks := B.notSynchronized
  have hD := hD0.self (sz := s.heap.size)
  generalize hAe : va_A [(la, .inr (4, [.ref lw])), (lw, .inl (cI, 256, .inl fl)), (dr, .inr (2, [.ref dp, .ref dc, .int 0]))] s.heap.size = A at hD ⊢
  have hA : ∀ q : Nat, s.heap.size ≤ q → A q := fun q h => by rw [← hAe]; exact Or.inr h
  have hS : va_S A s.heap s.heap [] := va_S.rf
  have hiX4 : ∀ w ∈ u_ws RX4 TX4 1, w ∈ wsX4_reckon := by decide +kernel
  have hl := lv_entry ([.ref la, .ref dr, .int (-1), .int (-1)]) (n := 7) (Nat.le_of_ble_eq_true rfl)
  rw [lg_entry_eq]
  generalize (lg_sl ([.ref la, .ref dr, .int (-1), .int (-1)]) ++ List.replicate (7 - (lg_sl ([.ref la, .ref dr, .int (-1), .int (-1)])).length) Slot.unset).toArray = ls at hl ⊢
  have hl : lv_has ls 7 [(0, .ref la), (1, .ref dr), (2, .int (-1)), (3, .int (-1))] := hl
  refine lv_aload_n hx hb dX4_reckon_0 rfl (lv_at hl 1 rfl) ?_
  have hPc := hP.sub (ws' := [(dr, .inr (2, [.ref dp, .ref dc, .int 0]))]) [2] rfl
  refine va_calli (va_runV (As := []) (rest := []) ⟨hx, hb, hml, hown, hts⟩ (mz_Drawing_everything l dC dI cI cJ cZ dr dp dc s.heap ) (cwV 0 hts gX4_reckon_X2_everything rfl rfl rfl (by decide +kernel) ⟨Nat.le_of_ble_eq_true rfl, Nat.le_of_ble_eq_true rfl⟩) ⟨fun a U g mk q => mz_blP q, va_recv hK hPc (ci := 2) (q0 := 0) rfl rfl, fun U hU hW => ⟨rfl, hU, hPc, va_K.moved hW.alike hK, mz_nw hW hN⟩⟩ rfl rfl hl.1 rfl (lv_room (Nat.le_of_ble_eq_true rfl)) dX4_reckon_1 ⟨Nat.le_of_ble_eq_true rfl, Nat.le_of_ble_eq_true rfl⟩) hS (fun q _ h => h.elim) (fun q h => h.elim) (fun r u t H1 locs ht hvm hw hB hz1 hk1 hS => ?_)
  have hE : s.heap = H1 := hB.symm.trans ht
  subst hE
  obtain rfl : r = 0 := hw
  refine lv_sipush (v := 255) hx hb dX4_reckon_4 (by decide +kernel) ?_
  refine lv_iand hx hb dX4_reckon_7 ?_
  refine mz_ti (y := 0) (by decide +kernel) ?_
  refine lv_istore (lv' := [(4, .int 0), (0, .ref la), (1, .ref dr), (2, .int (-1)), (3, .int (-1))]) hx hb dX4_reckon_8 hl (by decide) rfl (fun ls hl => ?_)
  refine lv_aload_n hx hb dX4_reckon_10 rfl (lv_at hl 1 rfl) ?_
  refine va_get (D := (dC, dI)) (ci := 4) (v := .ref lw) (C := RX4) (T := TX4) (N := 1) hx hb hts hiX4 hown hK hP 0 rfl rfl 0 (by decide) (hts (.fieldLink RX4 9 "MadeItSo$Lookalikes" "waysOf" "[I") (by decide +kernel)) (fun _ h9 => h9) rfl dX4_reckon_11 ?_
  refine lv_iconst (v := 0) hx hb dX4_reckon_14 (by decide +kernel) ?_
  refine lv_iconst (v := 1) hx hb dX4_reckon_15 (by decide +kernel) ?_
  refine va_iast hx hb hK hP hD hS 1 0 rfl rfl (mz_in (by decide +kernel)) dX4_reckon_16 (fun H locs hP hD hS => ?_)
  have hP : va_P (dC, dI) vwCl [(la, .inr (4, [.ref lw])), (lw, .inl (cI, 256, .inl (upd fl (0 : Int32).toNatClampNeg 1))), (dr, .inr (2, [.ref dp, .ref dc, .int 0]))] H := hP
  have hD : va_D A [(la, .inr (4, [.ref lw])), (lw, .inl (cI, 256, .inl (upd fl (0 : Int32).toNatClampNeg 1))), (dr, .inr (2, [.ref dp, .ref dc, .int 0]))] := hD
  refine lv_iconst (v := 1) hx hb dX4_reckon_17 (by decide +kernel) ?_
  refine lv_istore (lv' := [(5, .int 1), (4, .int 0), (0, .ref la), (1, .ref dr), (2, .int (-1)), (3, .int (-1))]) hx hb dX4_reckon_18 hl (by decide) rfl (fun ls hl => ?_)
  refine lv_iload hx hb dX4_reckon_20 (lv_at hl 0 rfl) ?_
  refine lv_iload hx hb dX4_reckon_22 (lv_at hl 1 rfl) ?_
  refine lv_icmp_gt (tgt := 82) hx hb dX4_reckon_24 (by decide) (fun _ => ?_) (fun c_24 => absurd (by decide +kernel) c_24)
  refine lv_aload_n hx hb dX4_reckon_82 rfl (lv_at hl 2 rfl) ?_
  refine va_get (D := (dC, dI)) (ci := 4) (v := .ref lw) (C := RX4) (T := TX4) (N := 1) hx hb hts hiX4 hown hK hP 0 rfl rfl 0 (by decide) (hts (.fieldLink RX4 9 "MadeItSo$Lookalikes" "waysOf" "[I") (by decide +kernel)) (fun _ h9 => h9) rfl dX4_reckon_83 ?_
  refine lv_iload hx hb dX4_reckon_86 (lv_at hl 1 rfl) ?_
  refine va_iald hx hb hK hP 1 0 rfl rfl (mz_in (by decide +kernel)) dX4_reckon_88 ?_
  refine mz_ti (y := 1) rfl ?_
  have hP9 := hP.sub (ws' := []) [] rfl
  have hD9 := hD.sub (ws' := []) [] (by decide) rfl
  refine W.widen (k := 0) (n := 0) (Nat.le_of_ble_eq_true rfl) (Nat.le_of_ble_eq_true rfl) ?_
  exact W.iret (v := 1) hx hb hr (fun t ht hW => ⟨⟨1, (), rfl, rfl, by rw [ht]; exact hP9, hD9⟩, hS.F ht⟩) hS.2.2 dX4_reckon_89
set_option maxHeartbeats 1000000 in
set_option maxRecDepth 100000 in
theorem mz_hasRow (l : Launch) (dC : Nat → ClassId) (dI : Nat → Nat → Nat) (cI cJ cZ : ClassId) (mx : Nat) (dr : Nat) (th : Nat) (bk : Nat) (wt : Nat) (tt : Nat) (lh : Nat) (la : Nat) (dp : Nat) (dc : Nat) (p0 : Int32) (p1 : Int32) (Hq : Heap)  : Met l yX7_hasRow wsX7_hasRow ({ frames := 1, cells := 0, slots := 0, locals := 21 }) (va_Pc [.ref mx, .int p0, .int p1] (fun U => U.heap = Hq ∧ va_P (dC, dI) vwCl [(mx, .inr (7, [.ref dr, .ref th, .ref bk, .ref wt, .ref tt, .ref lh, .ref la, .int 0, .long 0, .long 1])), (dr, .inr (2, [.ref dp, .ref dc, .int 0]))] Hq ∧ va_K (dC, dI) vwCl [(cI, FieldType.int), (cJ, FieldType.long), (cZ, FieldType.boolean)] U ∧ mz_N U)) (va_Qi (fun (r : Int32) (_ : Unit) => r = 0) (fun _ t => t.heap = Hq) (fun _ : Nat => False)) 0 0 (fun _ : Nat => False) := by
  refine Met.ofW (cc := cX7_hasRow) (maxL := 3) (ret := (some .boolean)) (by decide) rfl ?_
  intro p e s m args below meth c s₁ B hml hv
  obtain ⟨rfl, hH, hP, hK, hN⟩ := hv
  subst hH
  have hx := B.exec
  have hb := B.bytes
  have hr := B.returns
  have hts := atoms_spec (ws := wsX7_hasRow) B.pre
  have hown : s.vm.findClass RX7 = some m.cls := findClass_of_methodNamed B.named
  have hlocks := B.notSynchronized
  have hS : va_S (fun _ : Nat => False) s.heap s.heap [] := va_S.rf
  have hiX7 : ∀ w ∈ u_ws RX7 TX7 10, w ∈ wsX7_hasRow := by decide +kernel
  have hl := lv_entry ([.ref mx, .int p0, .int p1]) (n := 3) (Nat.le_of_ble_eq_true rfl)
  rw [lg_entry_eq]
  generalize (lg_sl ([.ref mx, .int p0, .int p1]) ++ List.replicate (3 - (lg_sl ([.ref mx, .int p0, .int p1])).length) Slot.unset).toArray = ls at hl ⊢
  have hl : lv_has ls 3 [(0, .ref mx), (1, .int p0), (2, .int p1)] := hl
  refine lv_aload_n hx hb dX7_hasRow_0 rfl (lv_at hl 0 rfl) ?_
  refine va_get (D := (dC, dI)) (ci := 7) (v := .ref dr) (C := RX7) (T := TX7) (N := 10) hx hb hts hiX7 hown hK hP 0 rfl rfl 0 (by decide) (hts (.fieldLink RX7 12 "MadeItSo" "drawing" "LMadeItSo$Drawing;") (by decide +kernel)) (fun _ h9 => h9) rfl dX7_hasRow_1 ?_
  refine lv_iload_n hx hb dX7_hasRow_4 rfl (lv_at hl 1 rfl) ?_
  have hPc := hP.sub (ws' := [(dr, .inr (2, [.ref dp, .ref dc, .int 0]))]) [1] rfl
  refine va_calli (va_runV (As := [.int p0]) (rest := []) ⟨hx, hb, hml, hown, hts⟩ (mz_Drawing_has l dC dI cI cJ cZ dr dp dc p0 s.heap ) (cwV 1 hts gX7_hasRow_X2_has rfl rfl rfl (by decide +kernel) ⟨Nat.le_of_ble_eq_true rfl, Nat.le_of_ble_eq_true rfl⟩) ⟨fun a U g mk q => mz_blP q, va_recv hK hPc (ci := 2) (q0 := 0) rfl rfl, fun U hU hW => ⟨rfl, hU, hPc, va_K.moved hW.alike hK, mz_nw hW hN⟩⟩ rfl rfl hl.1 rfl (lv_room (Nat.le_of_ble_eq_true rfl)) dX7_hasRow_5 ⟨Nat.le_of_ble_eq_true rfl, Nat.le_of_ble_eq_true rfl⟩) hS (fun q _ h => h.elim) (fun q h => h.elim) (fun r u t H1 locs ht hvm hw hB hz1 hk1 hS => ?_)
  have hE : s.heap = H1 := hB.symm.trans ht
  subst hE
  obtain rfl : r = 0 := hw
  refine lv_if_eq (tgt := 34) hx hb dX7_hasRow_8 (by decide) (fun _ => ?_) (fun c_8 => absurd (by decide +kernel) c_8)
  refine lv_iconst (v := 0) hx hb dX7_hasRow_34 (by decide +kernel) ?_
  refine W.widen (k := 0) (n := 0) (Nat.le_of_ble_eq_true rfl) (Nat.le_of_ble_eq_true rfl) ?_
  exact W.zret (v := 0) hx hb hr (mz_nz (by decide +kernel)) (fun t ht hW => ⟨⟨0, (), rfl, rfl, ht⟩, hS.F ht⟩) hS.2.2 dX7_hasRow_35
set_option maxHeartbeats 1000000 in
set_option maxRecDepth 100000 in
theorem mz_areTwo (l : Launch) (dC : Nat → ClassId) (dI : Nat → Nat → Nat) (cI cJ cZ : ClassId) (mx : Nat) (dr : Nat) (th : Nat) (bk : Nat) (wt : Nat) (tt : Nat) (lh : Nat) (la : Nat) (dp : Nat) (dc : Nat) (p0 : Int32) (p1 : Int32) (Hq : Heap)  : Met l yX7_areTwo wsX7_areTwo ({ frames := 1, cells := 0, slots := 0, locals := 21 }) (va_Pc [.ref mx, .int p0, .int p1] (fun U => U.heap = Hq ∧ va_P (dC, dI) vwCl [(mx, .inr (7, [.ref dr, .ref th, .ref bk, .ref wt, .ref tt, .ref lh, .ref la, .int 0, .long 0, .long 1])), (dr, .inr (2, [.ref dp, .ref dc, .int 0]))] Hq ∧ va_K (dC, dI) vwCl [(cI, FieldType.int), (cJ, FieldType.long), (cZ, FieldType.boolean)] U ∧ mz_N U)) (va_Qi (fun (r : Int32) (_ : Unit) => r = 0) (fun _ t => t.heap = Hq) (fun _ : Nat => False)) 0 0 (fun _ : Nat => False) := by
  refine Met.ofW (cc := cX7_areTwo) (maxL := 3) (ret := (some .boolean)) (by decide) rfl ?_
  intro p e s m args below meth c s₁ B hml hv
  obtain ⟨rfl, hH, hP, hK, hN⟩ := hv
  subst hH
  have hx := B.exec
  have hb := B.bytes
  have hr := B.returns
  have hts := atoms_spec (ws := wsX7_areTwo) B.pre
  have hown : s.vm.findClass RX7 = some m.cls := findClass_of_methodNamed B.named
  have hlocks := B.notSynchronized
  have hS : va_S (fun _ : Nat => False) s.heap s.heap [] := va_S.rf
  have hiX7 : ∀ w ∈ u_ws RX7 TX7 10, w ∈ wsX7_areTwo := by decide +kernel
  have hl := lv_entry ([.ref mx, .int p0, .int p1]) (n := 3) (Nat.le_of_ble_eq_true rfl)
  rw [lg_entry_eq]
  generalize (lg_sl ([.ref mx, .int p0, .int p1]) ++ List.replicate (3 - (lg_sl ([.ref mx, .int p0, .int p1])).length) Slot.unset).toArray = ls at hl ⊢
  have hl : lv_has ls 3 [(0, .ref mx), (1, .int p0), (2, .int p1)] := hl
  refine lv_aload_n hx hb dX7_areTwo_0 rfl (lv_at hl 0 rfl) ?_
  refine va_get (D := (dC, dI)) (ci := 7) (v := .ref dr) (C := RX7) (T := TX7) (N := 10) hx hb hts hiX7 hown hK hP 0 rfl rfl 0 (by decide) (hts (.fieldLink RX7 12 "MadeItSo" "drawing" "LMadeItSo$Drawing;") (by decide +kernel)) (fun _ h9 => h9) rfl dX7_areTwo_1 ?_
  refine lv_iload_n hx hb dX7_areTwo_4 rfl (lv_at hl 1 rfl) ?_
  have hPc := hP.sub (ws' := [(dr, .inr (2, [.ref dp, .ref dc, .int 0]))]) [1] rfl
  refine va_calli (va_runV (As := [.int p0]) (rest := []) ⟨hx, hb, hml, hown, hts⟩ (mz_Drawing_has l dC dI cI cJ cZ dr dp dc p0 s.heap ) (cwV 1 hts gX7_areTwo_X2_has rfl rfl rfl (by decide +kernel) ⟨Nat.le_of_ble_eq_true rfl, Nat.le_of_ble_eq_true rfl⟩) ⟨fun a U g mk q => mz_blP q, va_recv hK hPc (ci := 2) (q0 := 0) rfl rfl, fun U hU hW => ⟨rfl, hU, hPc, va_K.moved hW.alike hK, mz_nw hW hN⟩⟩ rfl rfl hl.1 rfl (lv_room (Nat.le_of_ble_eq_true rfl)) dX7_areTwo_5 ⟨Nat.le_of_ble_eq_true rfl, Nat.le_of_ble_eq_true rfl⟩) hS (fun q _ h => h.elim) (fun q h => h.elim) (fun r u t H1 locs ht hvm hw hB hz1 hk1 hS => ?_)
  have hE : s.heap = H1 := hB.symm.trans ht
  subst hE
  obtain rfl : r = 0 := hw
  refine lv_if_eq (tgt := 31) hx hb dX7_areTwo_8 (by decide) (fun _ => ?_) (fun c_8 => absurd (by decide +kernel) c_8)
  refine lv_iconst (v := 0) hx hb dX7_areTwo_31 (by decide +kernel) ?_
  refine W.widen (k := 0) (n := 0) (Nat.le_of_ble_eq_true rfl) (Nat.le_of_ble_eq_true rfl) ?_
  exact W.zret (v := 0) hx hb hr (mz_nz (by decide +kernel)) (fun t ht hW => ⟨⟨0, (), rfl, rfl, ht⟩, hS.F ht⟩) hS.2.2 dX7_areTwo_32
set_option maxHeartbeats 1000000 in
set_option maxRecDepth 100000 in
theorem mz_isHeap_0 (l : Launch) (dC : Nat → ClassId) (dI : Nat → Nat → Nat) (cI cJ cZ : ClassId) (mx : Nat) (dr : Nat) (th : Nat) (bk : Nat) (wt : Nat) (tt : Nat) (lh : Nat) (la : Nat) (dp : Nat) (dc : Nat) (la1 : Int64) (lb1 : Int64) (Hq : Heap)  : Met l yX7_isHeap wsX7_isHeap ({ frames := 1, cells := 0, slots := 0, locals := 20 }) (va_Pc [.ref mx, .int 0] (fun U => U.heap = Hq ∧ va_P (dC, dI) vwCl [(mx, .inr (7, [.ref dr, .ref th, .ref bk, .ref wt, .ref tt, .ref lh, .ref la, .int 0, .long la1, .long lb1])), (dr, .inr (2, [.ref dp, .ref dc, .int 0]))] Hq ∧ va_K (dC, dI) vwCl [(cI, FieldType.int), (cJ, FieldType.long), (cZ, FieldType.boolean)] U ∧ mz_N U)) (va_Qi (fun (r : Int32) (_ : Unit) => r = 1) (fun _ t => t.heap = Hq) (fun _ : Nat => False)) 0 0 (fun _ : Nat => False) := by
  refine Met.ofW (cc := cX7_isHeap) (maxL := 2) (ret := (some .boolean)) (by decide) rfl ?_
  intro p e s m args below meth c s₁ B hml hv
  obtain ⟨rfl, hH, hP, hK, hN⟩ := hv
  subst hH
  have hx := B.exec
  have hb := B.bytes
  have hr := B.returns
  have hts := atoms_spec (ws := wsX7_isHeap) B.pre
  have hown : s.vm.findClass RX7 = some m.cls := findClass_of_methodNamed B.named
  have hlocks := B.notSynchronized
  have hS : va_S (fun _ : Nat => False) s.heap s.heap [] := va_S.rf
  have hiX7 : ∀ w ∈ u_ws RX7 TX7 10, w ∈ wsX7_isHeap := by decide +kernel
  have hl := lv_entry ([.ref mx, .int 0]) (n := 2) (Nat.le_of_ble_eq_true rfl)
  rw [lg_entry_eq]
  generalize (lg_sl ([.ref mx, .int 0]) ++ List.replicate (2 - (lg_sl ([.ref mx, .int 0])).length) Slot.unset).toArray = ls at hl ⊢
  have hl : lv_has ls 2 [(0, .ref mx), (1, .int 0)] := hl
  refine lv_iload_n hx hb dX7_isHeap_0 rfl (lv_at hl 1 rfl) ?_
  refine lv_aload_n hx hb dX7_isHeap_1 rfl (lv_at hl 0 rfl) ?_
  refine va_get (D := (dC, dI)) (ci := 7) (v := .ref dr) (C := RX7) (T := TX7) (N := 10) hx hb hts hiX7 hown hK hP 0 rfl rfl 0 (by decide) (hts (.fieldLink RX7 12 "MadeItSo" "drawing" "LMadeItSo$Drawing;") (by decide +kernel)) (fun _ h9 => h9) rfl dX7_isHeap_2 ?_
  have hPc := hP.sub (ws' := [(dr, .inr (2, [.ref dp, .ref dc, .int 0]))]) [1] rfl
  refine va_calli (va_runV (As := []) (rest := [.int 0]) ⟨hx, hb, hml, hown, hts⟩ (mz_Drawing_everything l dC dI cI cJ cZ dr dp dc s.heap ) (cwV 0 hts gX7_isHeap_X2_everything rfl rfl rfl (by decide +kernel) ⟨Nat.le_of_ble_eq_true rfl, Nat.le_of_ble_eq_true rfl⟩) ⟨fun a U g mk q => mz_blP q, va_recv hK hPc (ci := 2) (q0 := 0) rfl rfl, fun U hU hW => ⟨rfl, hU, hPc, va_K.moved hW.alike hK, mz_nw hW hN⟩⟩ rfl rfl hl.1 rfl (lv_room (Nat.le_of_ble_eq_true rfl)) dX7_isHeap_5 ⟨Nat.le_of_ble_eq_true rfl, Nat.le_of_ble_eq_true rfl⟩) hS (fun q _ h => h.elim) (fun q h => h.elim) (fun r u t H1 locs ht hvm hw hB hz1 hk1 hS => ?_)
  have hE : s.heap = H1 := hB.symm.trans ht
  subst hE
  obtain rfl : r = 0 := hw
  refine lv_iconst (v := (-1)) hx hb dX7_isHeap_8 (by decide +kernel) ?_
  refine lv_ixor hx hb dX7_isHeap_9 ?_
  refine mz_ti (y := (-1)) (by decide +kernel) ?_
  refine lv_iand hx hb dX7_isHeap_10 ?_
  refine mz_ti (y := 0) (by decide +kernel) ?_
  refine lv_if_ne (tgt := 18) hx hb dX7_isHeap_11 (by decide) (fun c_11 => absurd (by decide +kernel) c_11) (fun _ => ?_)
  refine lv_iconst (v := 1) hx hb dX7_isHeap_14 (by decide +kernel) ?_
  refine lv_goto (tgt := 19) hx hb dX7_isHeap_15 (by decide) ?_
  refine W.widen (k := 0) (n := 0) (Nat.le_of_ble_eq_true rfl) (Nat.le_of_ble_eq_true rfl) ?_
  exact W.zret (v := 1) hx hb hr (mz_nz (by decide +kernel)) (fun t ht hW => ⟨⟨1, (), rfl, rfl, ht⟩, hS.F ht⟩) hS.2.2 dX7_isHeap_19
set_option maxHeartbeats 1000000 in
set_option maxRecDepth 100000 in
theorem mz_isHeap_n (l : Launch) (dC : Nat → ClassId) (dI : Nat → Nat → Nat) (cI cJ cZ : ClassId) (mx : Nat) (dr : Nat) (th : Nat) (bk : Nat) (wt : Nat) (tt : Nat) (lh : Nat) (la : Nat) (dp : Nat) (dc : Nat) (la1 : Int64) (lb1 : Int64) (p0 : Int32) (Hq : Heap) (hne : ¬ p0 = 0) : Met l yX7_isHeap wsX7_isHeap ({ frames := 1, cells := 0, slots := 0, locals := 20 }) (va_Pc [.ref mx, .int p0] (fun U => U.heap = Hq ∧ va_P (dC, dI) vwCl [(mx, .inr (7, [.ref dr, .ref th, .ref bk, .ref wt, .ref tt, .ref lh, .ref la, .int 0, .long la1, .long lb1])), (dr, .inr (2, [.ref dp, .ref dc, .int 0]))] Hq ∧ va_K (dC, dI) vwCl [(cI, FieldType.int), (cJ, FieldType.long), (cZ, FieldType.boolean)] U ∧ mz_N U)) (va_Qi (fun (r : Int32) (_ : Unit) => r = 0) (fun _ t => t.heap = Hq) (fun _ : Nat => False)) 0 0 (fun _ : Nat => False) := by
  refine Met.ofW (cc := cX7_isHeap) (maxL := 2) (ret := (some .boolean)) (by decide) rfl ?_
  intro p e s m args below meth c s₁ B hml hv
  obtain ⟨rfl, hH, hP, hK, hN⟩ := hv
  subst hH
  have hx := B.exec
  have hb := B.bytes
  have hr := B.returns
  have hts := atoms_spec (ws := wsX7_isHeap) B.pre
  have hown : s.vm.findClass RX7 = some m.cls := findClass_of_methodNamed B.named
  have hlocks := B.notSynchronized
  have hS : va_S (fun _ : Nat => False) s.heap s.heap [] := va_S.rf
  have hiX7 : ∀ w ∈ u_ws RX7 TX7 10, w ∈ wsX7_isHeap := by decide +kernel
  have hl := lv_entry ([.ref mx, .int p0]) (n := 2) (Nat.le_of_ble_eq_true rfl)
  rw [lg_entry_eq]
  generalize (lg_sl ([.ref mx, .int p0]) ++ List.replicate (2 - (lg_sl ([.ref mx, .int p0])).length) Slot.unset).toArray = ls at hl ⊢
  have hl : lv_has ls 2 [(0, .ref mx), (1, .int p0)] := hl
  refine lv_iload_n hx hb dX7_isHeap_0 rfl (lv_at hl 1 rfl) ?_
  refine lv_aload_n hx hb dX7_isHeap_1 rfl (lv_at hl 0 rfl) ?_
  refine va_get (D := (dC, dI)) (ci := 7) (v := .ref dr) (C := RX7) (T := TX7) (N := 10) hx hb hts hiX7 hown hK hP 0 rfl rfl 0 (by decide) (hts (.fieldLink RX7 12 "MadeItSo" "drawing" "LMadeItSo$Drawing;") (by decide +kernel)) (fun _ h9 => h9) rfl dX7_isHeap_2 ?_
  have hPc := hP.sub (ws' := [(dr, .inr (2, [.ref dp, .ref dc, .int 0]))]) [1] rfl
  refine va_calli (va_runV (As := []) (rest := [.int p0]) ⟨hx, hb, hml, hown, hts⟩ (mz_Drawing_everything l dC dI cI cJ cZ dr dp dc s.heap ) (cwV 0 hts gX7_isHeap_X2_everything rfl rfl rfl (by decide +kernel) ⟨Nat.le_of_ble_eq_true rfl, Nat.le_of_ble_eq_true rfl⟩) ⟨fun a U g mk q => mz_blP q, va_recv hK hPc (ci := 2) (q0 := 0) rfl rfl, fun U hU hW => ⟨rfl, hU, hPc, va_K.moved hW.alike hK, mz_nw hW hN⟩⟩ rfl rfl hl.1 rfl (lv_room (Nat.le_of_ble_eq_true rfl)) dX7_isHeap_5 ⟨Nat.le_of_ble_eq_true rfl, Nat.le_of_ble_eq_true rfl⟩) hS (fun q _ h => h.elim) (fun q h => h.elim) (fun r u t H1 locs ht hvm hw hB hz1 hk1 hS => ?_)
  have hE : s.heap = H1 := hB.symm.trans ht
  subst hE
  obtain rfl : r = 0 := hw
  refine lv_iconst (v := (-1)) hx hb dX7_isHeap_8 (by decide +kernel) ?_
  refine lv_ixor hx hb dX7_isHeap_9 ?_
  refine mz_ti (y := (-1)) (by decide +kernel) ?_
  refine lv_iand hx hb dX7_isHeap_10 ?_
  refine mz_ti (y := p0) (mz_am _) ?_
  refine lv_if_ne (tgt := 18) hx hb dX7_isHeap_11 (by decide) (fun _ => ?_) (fun c_11 => absurd c_11 hne)
  refine lv_iconst (v := 0) hx hb dX7_isHeap_18 (by decide +kernel) ?_
  refine W.widen (k := 0) (n := 0) (Nat.le_of_ble_eq_true rfl) (Nat.le_of_ble_eq_true rfl) ?_
  exact W.zret (v := 0) hx hb hr (mz_nz (by decide +kernel)) (fun t ht hW => ⟨⟨0, (), rfl, rfl, ht⟩, hS.F ht⟩) hS.2.2 dX7_isHeap_19
set_option maxHeartbeats 1000000 in
set_option maxRecDepth 100000 in
theorem mz_isSetting_0 (l : Launch) (dC : Nat → ClassId) (dI : Nat → Nat → Nat) (cI cJ cZ : ClassId) (mx : Nat) (dr : Nat) (th : Nat) (bk : Nat) (wt : Nat) (tt : Nat) (lh : Nat) (la : Nat) (dp : Nat) (dc : Nat) (la1 : Int64) (lb1 : Int64) (Hq : Heap)  : Met l yX7_isSetting wsX7_isSetting ({ frames := 2, cells := 0, slots := 0, locals := 41 }) (va_Pc [.ref mx, .int 0] (fun U => U.heap = Hq ∧ va_P (dC, dI) vwCl [(mx, .inr (7, [.ref dr, .ref th, .ref bk, .ref wt, .ref tt, .ref lh, .ref la, .int 0, .long la1, .long lb1])), (dr, .inr (2, [.ref dp, .ref dc, .int 0]))] Hq ∧ va_K (dC, dI) vwCl [(cI, FieldType.int), (cJ, FieldType.long), (cZ, FieldType.boolean)] U ∧ mz_N U)) (va_Qi (fun (r : Int32) (_ : Unit) => r = 1) (fun _ t => t.heap = Hq) (fun _ : Nat => False)) 0 0 (fun _ : Nat => False) := by
  refine Met.ofW (cc := cX7_isSetting) (maxL := 2) (ret := (some .boolean)) (by decide) rfl ?_
  intro p e s m args below meth c s₁ B hml hv
  obtain ⟨rfl, hH, hP, hK, hN⟩ := hv
  subst hH
  have hx := B.exec
  have hb := B.bytes
  have hr := B.returns
  have hts := atoms_spec (ws := wsX7_isSetting) B.pre
  have hown : s.vm.findClass RX7 = some m.cls := findClass_of_methodNamed B.named
  have hlocks := B.notSynchronized
  have hS : va_S (fun _ : Nat => False) s.heap s.heap [] := va_S.rf
  have hl := lv_entry ([.ref mx, .int 0]) (n := 2) (Nat.le_of_ble_eq_true rfl)
  rw [lg_entry_eq]
  generalize (lg_sl ([.ref mx, .int 0]) ++ List.replicate (2 - (lg_sl ([.ref mx, .int 0])).length) Slot.unset).toArray = ls at hl ⊢
  have hl : lv_has ls 2 [(0, .ref mx), (1, .int 0)] := hl
  refine lv_iload_n hx hb dX7_isSetting_0 rfl (lv_at hl 1 rfl) ?_
  refine lv_bipush (v := 16) hx hb dX7_isSetting_1 (by decide +kernel) ?_
  refine lv_iushr (v := 0) hx hb dX7_isSetting_3 (by decide +kernel) ?_
  refine lv_if_ne (tgt := 36) hx hb dX7_isSetting_4 (by decide) (fun c_4 => absurd (by decide +kernel) c_4) (fun _ => ?_)
  refine lv_aload_n hx hb dX7_isSetting_7 rfl (lv_at hl 0 rfl) ?_
  refine lv_iload_n hx hb dX7_isSetting_8 rfl (lv_at hl 1 rfl) ?_
  have hPc := hP.sub (ws' := []) [] rfl
  refine va_calli (va_runS (As := [.int 0]) (rest := [.ref mx]) ⟨hx, hb, hml, hown, hts⟩ (mz_heapOf l dC dI cI cJ cZ 0 s.heap ) (va_cwS 1 hts gX7_isSetting_X7_heapOf rfl rfl rfl (by decide +kernel) ⟨Nat.le_of_ble_eq_true rfl, Nat.le_of_ble_eq_true rfl⟩) ⟨fun a U g mk q => mz_blP q, fun U hU hW => ⟨rfl, hU, hPc, va_K.moved hW.alike hK, mz_nw hW hN⟩⟩ rfl rfl hl.1 rfl (lv_room (Nat.le_of_ble_eq_true rfl)) dX7_isSetting_9 ⟨Nat.le_of_ble_eq_true rfl, Nat.le_of_ble_eq_true rfl⟩) hS (fun q _ h => h.elim) (fun q h => h.elim) (fun r u t H1 locs ht hvm hw hB hz1 hk1 hS => ?_)
  have hE : s.heap = H1 := hB.symm.trans ht
  subst hE
  obtain rfl : r = ((0 : Int32) &&& 255) := hw
  refine mz_ti (y := 0) (by decide +kernel) ?_
  have hPc := hP.sub (ws' := [(mx, .inr (7, [.ref dr, .ref th, .ref bk, .ref wt, .ref tt, .ref lh, .ref la, .int 0, .long la1, .long lb1])), (dr, .inr (2, [.ref dp, .ref dc, .int 0]))]) [0, 1] rfl
  refine va_calli (va_runV (As := [.int 0]) (rest := []) ⟨hx, hb, hml, hown, hts⟩ (mz_isHeap_0 l dC dI cI cJ cZ mx dr th bk wt tt lh la dp dc la1 lb1 s.heap ) (cwV 1 hts gX7_isSetting_X7_isHeap rfl rfl rfl (by decide +kernel) ⟨Nat.le_of_ble_eq_true rfl, Nat.le_of_ble_eq_true rfl⟩) ⟨fun a U g mk q => mz_blP q, va_recv hK hPc (ci := 7) (q0 := 0) rfl rfl, fun U hU hW => ⟨rfl, hU, hPc, va_K.moved hW.alike hK, mz_nw hW hN⟩⟩ rfl rfl hl.1 rfl (lv_room (Nat.le_of_ble_eq_true rfl)) dX7_isSetting_12 ⟨Nat.le_of_ble_eq_true rfl, Nat.le_of_ble_eq_true rfl⟩) hS (fun q _ h => h.elim) (fun q h => h.elim) (fun r u t H1 locs ht hvm hw hB hz1 hk1 hS => ?_)
  have hE : s.heap = H1 := hB.symm.trans ht
  subst hE
  obtain rfl : r = 1 := hw
  refine lv_if_eq (tgt := 36) hx hb dX7_isSetting_15 (by decide) (fun c_15 => absurd c_15 (by decide +kernel)) (fun _ => ?_)
  refine lv_iload_n hx hb dX7_isSetting_18 rfl (lv_at hl 1 rfl) ?_
  have hPc := hP.sub (ws' := []) [] rfl
  refine va_calli (va_runS (As := [.int 0]) (rest := []) ⟨hx, hb, hml, hown, hts⟩ (mz_onesOf l dC dI cI cJ cZ 0 s.heap ) (va_cwS 1 hts gX7_isSetting_X7_onesOf rfl rfl rfl (by decide +kernel) ⟨Nat.le_of_ble_eq_true rfl, Nat.le_of_ble_eq_true rfl⟩) ⟨fun a U g mk q => mz_blP q, fun U hU hW => ⟨rfl, hU, hPc, va_K.moved hW.alike hK, mz_nw hW hN⟩⟩ rfl rfl hl.1 rfl (lv_room (Nat.le_of_ble_eq_true rfl)) dX7_isSetting_19 ⟨Nat.le_of_ble_eq_true rfl, Nat.le_of_ble_eq_true rfl⟩) hS (fun q _ h => h.elim) (fun q h => h.elim) (fun r u t H1 locs ht hvm hw hB hz1 hk1 hS => ?_)
  have hE : s.heap = H1 := hB.symm.trans ht
  subst hE
  obtain rfl : r = (((0 : Int32) >>> (8 &&& 31)) &&& 255) := hw
  refine mz_ti (y := 0) (by decide +kernel) ?_
  refine lv_iload_n hx hb dX7_isSetting_22 rfl (lv_at hl 1 rfl) ?_
  have hPc := hP.sub (ws' := []) [] rfl
  refine va_calli (va_runS (As := [.int 0]) (rest := [.int 0]) ⟨hx, hb, hml, hown, hts⟩ (mz_heapOf l dC dI cI cJ cZ 0 s.heap ) (va_cwS 1 hts gX7_isSetting_X7_heapOf rfl rfl rfl (by decide +kernel) ⟨Nat.le_of_ble_eq_true rfl, Nat.le_of_ble_eq_true rfl⟩) ⟨fun a U g mk q => mz_blP q, fun U hU hW => ⟨rfl, hU, hPc, va_K.moved hW.alike hK, mz_nw hW hN⟩⟩ rfl rfl hl.1 rfl (lv_room (Nat.le_of_ble_eq_true rfl)) dX7_isSetting_23 ⟨Nat.le_of_ble_eq_true rfl, Nat.le_of_ble_eq_true rfl⟩) hS (fun q _ h => h.elim) (fun q h => h.elim) (fun r u t H1 locs ht hvm hw hB hz1 hk1 hS => ?_)
  have hE : s.heap = H1 := hB.symm.trans ht
  subst hE
  obtain rfl : r = ((0 : Int32) &&& 255) := hw
  refine mz_ti (y := 0) (by decide +kernel) ?_
  refine lv_iconst (v := (-1)) hx hb dX7_isSetting_26 (by decide +kernel) ?_
  refine lv_ixor hx hb dX7_isSetting_27 ?_
  refine mz_ti (y := (-1)) (by decide +kernel) ?_
  refine lv_iand hx hb dX7_isSetting_28 ?_
  refine mz_ti (y := 0) (by decide +kernel) ?_
  refine lv_if_ne (tgt := 36) hx hb dX7_isSetting_29 (by decide) (fun c_29 => absurd (by decide +kernel) c_29) (fun _ => ?_)
  refine lv_iconst (v := 1) hx hb dX7_isSetting_32 (by decide +kernel) ?_
  refine lv_goto (tgt := 37) hx hb dX7_isSetting_33 (by decide) ?_
  refine W.widen (k := 0) (n := 0) (Nat.le_of_ble_eq_true rfl) (Nat.le_of_ble_eq_true rfl) ?_
  exact W.zret (v := 1) hx hb hr (mz_nz (by decide +kernel)) (fun t ht hW => ⟨⟨1, (), rfl, rfl, ht⟩, hS.F ht⟩) hS.2.2 dX7_isSetting_37
set_option maxHeartbeats 1000000 in
set_option maxRecDepth 100000 in
theorem mz_isSetting_n (l : Launch) (dC : Nat → ClassId) (dI : Nat → Nat → Nat) (cI cJ cZ : ClassId) (mx : Nat) (dr : Nat) (th : Nat) (bk : Nat) (wt : Nat) (tt : Nat) (lh : Nat) (la : Nat) (dp : Nat) (dc : Nat) (la1 : Int64) (lb1 : Int64) (p0 : Int32) (Hq : Heap) (hne : ¬ p0 = 0) : Met l yX7_isSetting wsX7_isSetting ({ frames := 2, cells := 0, slots := 0, locals := 41 }) (va_Pc [.ref mx, .int p0] (fun U => U.heap = Hq ∧ va_P (dC, dI) vwCl [(mx, .inr (7, [.ref dr, .ref th, .ref bk, .ref wt, .ref tt, .ref lh, .ref la, .int 0, .long la1, .long lb1])), (dr, .inr (2, [.ref dp, .ref dc, .int 0]))] Hq ∧ va_K (dC, dI) vwCl [(cI, FieldType.int), (cJ, FieldType.long), (cZ, FieldType.boolean)] U ∧ mz_N U)) (va_Qi (fun (r : Int32) (_ : Unit) => r = 0) (fun _ t => t.heap = Hq) (fun _ : Nat => False)) 0 0 (fun _ : Nat => False) := by
  refine Met.ofW (cc := cX7_isSetting) (maxL := 2) (ret := (some .boolean)) (by decide) rfl ?_
  intro p e s m args below meth c s₁ B hml hv
  obtain ⟨rfl, hH, hP, hK, hN⟩ := hv
  subst hH
  have hx := B.exec
  have hb := B.bytes
  have hr := B.returns
  have hts := atoms_spec (ws := wsX7_isSetting) B.pre
  have hown : s.vm.findClass RX7 = some m.cls := findClass_of_methodNamed B.named
  have hlocks := B.notSynchronized
  have hS : va_S (fun _ : Nat => False) s.heap s.heap [] := va_S.rf
  have hl := lv_entry ([.ref mx, .int p0]) (n := 2) (Nat.le_of_ble_eq_true rfl)
  rw [lg_entry_eq]
  generalize (lg_sl ([.ref mx, .int p0]) ++ List.replicate (2 - (lg_sl ([.ref mx, .int p0])).length) Slot.unset).toArray = ls at hl ⊢
  have hl : lv_has ls 2 [(0, .ref mx), (1, .int p0)] := hl
  refine lv_iload_n hx hb dX7_isSetting_0 rfl (lv_at hl 1 rfl) ?_
  refine lv_bipush (v := 16) hx hb dX7_isSetting_1 (by decide +kernel) ?_
  refine lv_iushr hx hb dX7_isSetting_3 rfl ?_
  refine lv_if_ne (tgt := 36) hx hb dX7_isSetting_4 (by decide) (fun c_4 => ?_) (fun c_4 => ?_)
  · skip
    refine lv_iconst (v := 0) hx hb dX7_isSetting_36 (by decide +kernel) ?_
    refine W.widen (k := 0) (n := 0) (Nat.le_of_ble_eq_true rfl) (Nat.le_of_ble_eq_true rfl) ?_
    exact W.zret (v := 0) hx hb hr (mz_nz (by decide +kernel)) (fun t ht hW => ⟨⟨0, (), rfl, rfl, ht⟩, hS.F ht⟩) hS.2.2 dX7_isSetting_37
  · skip
    refine lv_aload_n hx hb dX7_isSetting_7 rfl (lv_at hl 0 rfl) ?_
    refine lv_iload_n hx hb dX7_isSetting_8 rfl (lv_at hl 1 rfl) ?_
    have hPc := hP.sub (ws' := []) [] rfl
    refine va_calli (va_runS (As := [.int p0]) (rest := [.ref mx]) ⟨hx, hb, hml, hown, hts⟩ (mz_heapOf l dC dI cI cJ cZ p0 s.heap ) (va_cwS 1 hts gX7_isSetting_X7_heapOf rfl rfl rfl (by decide +kernel) ⟨Nat.le_of_ble_eq_true rfl, Nat.le_of_ble_eq_true rfl⟩) ⟨fun a U g mk q => mz_blP q, fun U hU hW => ⟨rfl, hU, hPc, va_K.moved hW.alike hK, mz_nw hW hN⟩⟩ rfl rfl hl.1 rfl (lv_room (Nat.le_of_ble_eq_true rfl)) dX7_isSetting_9 ⟨Nat.le_of_ble_eq_true rfl, Nat.le_of_ble_eq_true rfl⟩) hS (fun q _ h => h.elim) (fun q h => h.elim) (fun r u t H1 locs ht hvm hw hB hz1 hk1 hS => ?_)
    have hE : s.heap = H1 := hB.symm.trans ht
    subst hE
    obtain rfl : r = (p0 &&& 255) := hw
    by_cases hz_12 : (p0 &&& 255) = 0
    · refine mz_ti (y := 0) hz_12 ?_
      have hPc := hP.sub (ws' := [(mx, .inr (7, [.ref dr, .ref th, .ref bk, .ref wt, .ref tt, .ref lh, .ref la, .int 0, .long la1, .long lb1])), (dr, .inr (2, [.ref dp, .ref dc, .int 0]))]) [0, 1] rfl
      refine va_calli (va_runV (As := [.int 0]) (rest := []) ⟨hx, hb, hml, hown, hts⟩ (mz_isHeap_0 l dC dI cI cJ cZ mx dr th bk wt tt lh la dp dc la1 lb1 s.heap ) (cwV 1 hts gX7_isSetting_X7_isHeap rfl rfl rfl (by decide +kernel) ⟨Nat.le_of_ble_eq_true rfl, Nat.le_of_ble_eq_true rfl⟩) ⟨fun a U g mk q => mz_blP q, va_recv hK hPc (ci := 7) (q0 := 0) rfl rfl, fun U hU hW => ⟨rfl, hU, hPc, va_K.moved hW.alike hK, mz_nw hW hN⟩⟩ rfl rfl hl.1 rfl (lv_room (Nat.le_of_ble_eq_true rfl)) dX7_isSetting_12 ⟨Nat.le_of_ble_eq_true rfl, Nat.le_of_ble_eq_true rfl⟩) hS (fun q _ h => h.elim) (fun q h => h.elim) (fun r u t H1 locs ht hvm hw hB hz1 hk1 hS => ?_)
      have hE : s.heap = H1 := hB.symm.trans ht
      subst hE
      obtain rfl : r = 1 := hw
      refine lv_if_eq (tgt := 36) hx hb dX7_isSetting_15 (by decide) (fun c_15 => absurd c_15 (by decide +kernel)) (fun _ => ?_)
      refine lv_iload_n hx hb dX7_isSetting_18 rfl (lv_at hl 1 rfl) ?_
      have hPc := hP.sub (ws' := []) [] rfl
      refine va_calli (va_runS (As := [.int p0]) (rest := []) ⟨hx, hb, hml, hown, hts⟩ (mz_onesOf l dC dI cI cJ cZ p0 s.heap ) (va_cwS 1 hts gX7_isSetting_X7_onesOf rfl rfl rfl (by decide +kernel) ⟨Nat.le_of_ble_eq_true rfl, Nat.le_of_ble_eq_true rfl⟩) ⟨fun a U g mk q => mz_blP q, fun U hU hW => ⟨rfl, hU, hPc, va_K.moved hW.alike hK, mz_nw hW hN⟩⟩ rfl rfl hl.1 rfl (lv_room (Nat.le_of_ble_eq_true rfl)) dX7_isSetting_19 ⟨Nat.le_of_ble_eq_true rfl, Nat.le_of_ble_eq_true rfl⟩) hS (fun q _ h => h.elim) (fun q h => h.elim) (fun r u t H1 locs ht hvm hw hB hz1 hk1 hS => ?_)
      have hE : s.heap = H1 := hB.symm.trans ht
      subst hE
      obtain rfl : r = ((p0 >>> (8 &&& 31)) &&& 255) := hw
      refine lv_iload_n hx hb dX7_isSetting_22 rfl (lv_at hl 1 rfl) ?_
      have hPc := hP.sub (ws' := []) [] rfl
      refine va_calli (va_runS (As := [.int p0]) (rest := [.int ((p0 >>> (8 &&& 31)) &&& 255)]) ⟨hx, hb, hml, hown, hts⟩ (mz_heapOf l dC dI cI cJ cZ p0 s.heap ) (va_cwS 1 hts gX7_isSetting_X7_heapOf rfl rfl rfl (by decide +kernel) ⟨Nat.le_of_ble_eq_true rfl, Nat.le_of_ble_eq_true rfl⟩) ⟨fun a U g mk q => mz_blP q, fun U hU hW => ⟨rfl, hU, hPc, va_K.moved hW.alike hK, mz_nw hW hN⟩⟩ rfl rfl hl.1 rfl (lv_room (Nat.le_of_ble_eq_true rfl)) dX7_isSetting_23 ⟨Nat.le_of_ble_eq_true rfl, Nat.le_of_ble_eq_true rfl⟩) hS (fun q _ h => h.elim) (fun q h => h.elim) (fun r u t H1 locs ht hvm hw hB hz1 hk1 hS => ?_)
      have hE : s.heap = H1 := hB.symm.trans ht
      subst hE
      obtain rfl : r = (p0 &&& 255) := hw
      refine lv_iconst (v := (-1)) hx hb dX7_isSetting_26 (by decide +kernel) ?_
      refine lv_ixor hx hb dX7_isSetting_27 ?_
      refine lv_iand hx hb dX7_isSetting_28 ?_
      refine lv_if_ne (tgt := 36) hx hb dX7_isSetting_29 (by decide) (fun c_29 => ?_) (fun c_29 => ?_)
      · skip
        refine lv_iconst (v := 0) hx hb dX7_isSetting_36 (by decide +kernel) ?_
        refine W.widen (k := 0) (n := 0) (Nat.le_of_ble_eq_true rfl) (Nat.le_of_ble_eq_true rfl) ?_
        exact W.zret (v := 0) hx hb hr (mz_nz (by decide +kernel)) (fun t ht hW => ⟨⟨0, (), rfl, rfl, ht⟩, hS.F ht⟩) hS.2.2 dX7_isSetting_37
      · skip
        refine lv_iconst (v := 1) hx hb dX7_isSetting_32 (by decide +kernel) ?_
        refine lv_goto (tgt := 37) hx hb dX7_isSetting_33 (by decide) ?_
        refine W.widen (k := 0) (n := 0) (Nat.le_of_ble_eq_true rfl) (Nat.le_of_ble_eq_true rfl) ?_
        exact W.zret (v := 1) hx hb hr (mz_nz (by decide +kernel)) (fun t ht hW => ⟨⟨1, (), rfl, absurd (mz_set c_4 hz_12 c_29) hne, ht⟩, hS.F ht⟩) hS.2.2 dX7_isSetting_37
    · skip
      have hPc := hP.sub (ws' := [(mx, .inr (7, [.ref dr, .ref th, .ref bk, .ref wt, .ref tt, .ref lh, .ref la, .int 0, .long la1, .long lb1])), (dr, .inr (2, [.ref dp, .ref dc, .int 0]))]) [0, 1] rfl
      refine va_calli (va_runV (As := [.int (p0 &&& 255)]) (rest := []) ⟨hx, hb, hml, hown, hts⟩ (mz_isHeap_n l dC dI cI cJ cZ mx dr th bk wt tt lh la dp dc la1 lb1 (p0 &&& 255) s.heap hz_12) (cwV 1 hts gX7_isSetting_X7_isHeap rfl rfl rfl (by decide +kernel) ⟨Nat.le_of_ble_eq_true rfl, Nat.le_of_ble_eq_true rfl⟩) ⟨fun a U g mk q => mz_blP q, va_recv hK hPc (ci := 7) (q0 := 0) rfl rfl, fun U hU hW => ⟨rfl, hU, hPc, va_K.moved hW.alike hK, mz_nw hW hN⟩⟩ rfl rfl hl.1 rfl (lv_room (Nat.le_of_ble_eq_true rfl)) dX7_isSetting_12 ⟨Nat.le_of_ble_eq_true rfl, Nat.le_of_ble_eq_true rfl⟩) hS (fun q _ h => h.elim) (fun q h => h.elim) (fun r u t H1 locs ht hvm hw hB hz1 hk1 hS => ?_)
      have hE : s.heap = H1 := hB.symm.trans ht
      subst hE
      obtain rfl : r = 0 := hw
      refine lv_if_eq (tgt := 36) hx hb dX7_isSetting_15 (by decide) (fun _ => ?_) (fun c_15 => absurd (by decide +kernel) c_15)
      refine lv_iconst (v := 0) hx hb dX7_isSetting_36 (by decide +kernel) ?_
      refine W.widen (k := 0) (n := 0) (Nat.le_of_ble_eq_true rfl) (Nat.le_of_ble_eq_true rfl) ?_
      exact W.zret (v := 0) hx hb hr (mz_nz (by decide +kernel)) (fun t ht hW => ⟨⟨0, (), rfl, rfl, ht⟩, hS.F ht⟩) hS.2.2 dX7_isSetting_37
set_option maxHeartbeats 1000000 in
set_option maxRecDepth 100000 in
theorem mz_arrow (l : Launch) (dC : Nat → ClassId) (dI : Nat → Nat → Nat) (cI cJ cZ : ClassId) (mx : Nat) (dr : Nat) (th : Nat) (bk : Nat) (wt : Nat) (tt : Nat) (lh : Nat) (la : Nat) (dp : Nat) (dc : Nat) (p1 : Int32) (p2 : Int32) (Hq : Heap)  : Met l yX7_arrow wsX7_arrow ({ frames := 1, cells := 0, slots := 0, locals := 21 }) (va_Pc [.ref mx, .int p1, .int p2] (fun U => U.heap = Hq ∧ va_P (dC, dI) vwCl [(mx, .inr (7, [.ref dr, .ref th, .ref bk, .ref wt, .ref tt, .ref lh, .ref la, .int 0, .long 0, .long 1])), (dr, .inr (2, [.ref dp, .ref dc, .int 0]))] Hq ∧ va_K (dC, dI) vwCl [(cI, FieldType.int), (cJ, FieldType.long), (cZ, FieldType.boolean)] U ∧ mz_N U)) (va_Qi (fun (r : Int32) (_ : Unit) => r = 0) (fun _ t => t.heap = Hq) (fun _ : Nat => False)) 0 0 (fun _ : Nat => False) := by
  refine Met.ofW (cc := cX7_arrow) (maxL := 3) (ret := (some .boolean)) (by decide) rfl ?_
  intro p e s m args below meth c s₁ B hml hv
  obtain ⟨rfl, hH, hP, hK, hN⟩ := hv
  subst hH
  have hx := B.exec
  have hb := B.bytes
  have hr := B.returns
  have hts := atoms_spec (ws := wsX7_arrow) B.pre
  have hown : s.vm.findClass RX7 = some m.cls := findClass_of_methodNamed B.named
  have hlocks := B.notSynchronized
  have hS : va_S (fun _ : Nat => False) s.heap s.heap [] := va_S.rf
  have hiX7 : ∀ w ∈ u_ws RX7 TX7 10, w ∈ wsX7_arrow := by decide +kernel
  have hl := lv_entry ([.ref mx, .int p1, .int p2]) (n := 3) (Nat.le_of_ble_eq_true rfl)
  rw [lg_entry_eq]
  generalize (lg_sl ([.ref mx, .int p1, .int p2]) ++ List.replicate (3 - (lg_sl ([.ref mx, .int p1, .int p2])).length) Slot.unset).toArray = ls at hl ⊢
  have hl : lv_has ls 3 [(0, .ref mx), (1, .int p1), (2, .int p2)] := hl
  refine lv_aload_n hx hb dX7_arrow_0 rfl (lv_at hl 0 rfl) ?_
  refine va_get (D := (dC, dI)) (ci := 7) (v := .ref dr) (C := RX7) (T := TX7) (N := 10) hx hb hts hiX7 hown hK hP 0 rfl rfl 0 (by decide) (hts (.fieldLink RX7 12 "MadeItSo" "drawing" "LMadeItSo$Drawing;") (by decide +kernel)) (fun _ h9 => h9) rfl dX7_arrow_1 ?_
  refine lv_iload_n hx hb dX7_arrow_4 rfl (lv_at hl 1 rfl) ?_
  have hPc := hP.sub (ws' := [(dr, .inr (2, [.ref dp, .ref dc, .int 0]))]) [1] rfl
  refine va_calli (va_runV (As := [.int p1]) (rest := []) ⟨hx, hb, hml, hown, hts⟩ (mz_Drawing_has l dC dI cI cJ cZ dr dp dc p1 s.heap ) (cwV 1 hts gX7_arrow_X2_has rfl rfl rfl (by decide +kernel) ⟨Nat.le_of_ble_eq_true rfl, Nat.le_of_ble_eq_true rfl⟩) ⟨fun a U g mk q => mz_blP q, va_recv hK hPc (ci := 2) (q0 := 0) rfl rfl, fun U hU hW => ⟨rfl, hU, hPc, va_K.moved hW.alike hK, mz_nw hW hN⟩⟩ rfl rfl hl.1 rfl (lv_room (Nat.le_of_ble_eq_true rfl)) dX7_arrow_5 ⟨Nat.le_of_ble_eq_true rfl, Nat.le_of_ble_eq_true rfl⟩) hS (fun q _ h => h.elim) (fun q h => h.elim) (fun r u t H1 locs ht hvm hw hB hz1 hk1 hS => ?_)
  have hE : s.heap = H1 := hB.symm.trans ht
  subst hE
  obtain rfl : r = 0 := hw
  refine lv_if_eq (tgt := 34) hx hb dX7_arrow_8 (by decide) (fun _ => ?_) (fun c_8 => absurd (by decide +kernel) c_8)
  refine lv_iconst (v := 0) hx hb dX7_arrow_34 (by decide +kernel) ?_
  refine W.widen (k := 0) (n := 0) (Nat.le_of_ble_eq_true rfl) (Nat.le_of_ble_eq_true rfl) ?_
  exact W.zret (v := 0) hx hb hr (mz_nz (by decide +kernel)) (fun t ht hW => ⟨⟨0, (), rfl, rfl, ht⟩, hS.F ht⟩) hS.2.2 dX7_arrow_35
set_option maxHeartbeats 1000000 in
set_option maxRecDepth 100000 in
theorem mz_cut (l : Launch) (dC : Nat → ClassId) (dI : Nat → Nat → Nat) (cI cJ cZ : ClassId) (mx : Nat) (dr : Nat) (th : Nat) (bk : Nat) (wt : Nat) (tt : Nat) (lh : Nat) (la : Nat) (dp : Nat) (dc : Nat) (p1 : Int32) (p2 : Int32) (Hq : Heap)  : Met l yX7_cut wsX7_cut ({ frames := 2, cells := 0, slots := 0, locals := 43 }) (va_Pc [.ref mx, .int p1, .int p2] (fun U => U.heap = Hq ∧ va_P (dC, dI) vwCl [(mx, .inr (7, [.ref dr, .ref th, .ref bk, .ref wt, .ref tt, .ref lh, .ref la, .int 0, .long 0, .long 1])), (dr, .inr (2, [.ref dp, .ref dc, .int 0]))] Hq ∧ va_K (dC, dI) vwCl [(cI, FieldType.int), (cJ, FieldType.long), (cZ, FieldType.boolean)] U ∧ mz_N U)) (va_Qi (fun (r : Int32) (_ : Unit) => r = 0) (fun _ t => t.heap = Hq) (fun _ : Nat => False)) 0 0 (fun _ : Nat => False) := by
  refine Met.ofW (cc := cX7_cut) (maxL := 3) (ret := (some .boolean)) (by decide) rfl ?_
  intro p e s m args below meth c s₁ B hml hv
  obtain ⟨rfl, hH, hP, hK, hN⟩ := hv
  subst hH
  have hx := B.exec
  have hb := B.bytes
  have hr := B.returns
  have hts := atoms_spec (ws := wsX7_cut) B.pre
  have hown : s.vm.findClass RX7 = some m.cls := findClass_of_methodNamed B.named
  have hlocks := B.notSynchronized
  have hS : va_S (fun _ : Nat => False) s.heap s.heap [] := va_S.rf
  have hiX7 : ∀ w ∈ u_ws RX7 TX7 10, w ∈ wsX7_cut := by decide +kernel
  have hl := lv_entry ([.ref mx, .int p1, .int p2]) (n := 3) (Nat.le_of_ble_eq_true rfl)
  rw [lg_entry_eq]
  generalize (lg_sl ([.ref mx, .int p1, .int p2]) ++ List.replicate (3 - (lg_sl ([.ref mx, .int p1, .int p2])).length) Slot.unset).toArray = ls at hl ⊢
  have hl : lv_has ls 3 [(0, .ref mx), (1, .int p1), (2, .int p2)] := hl
  refine lv_aload_n hx hb dX7_cut_0 rfl (lv_at hl 0 rfl) ?_
  refine va_get (D := (dC, dI)) (ci := 7) (v := .ref dr) (C := RX7) (T := TX7) (N := 10) hx hb hts hiX7 hown hK hP 0 rfl rfl 0 (by decide) (hts (.fieldLink RX7 12 "MadeItSo" "drawing" "LMadeItSo$Drawing;") (by decide +kernel)) (fun _ h9 => h9) rfl dX7_cut_1 ?_
  refine lv_iload_n hx hb dX7_cut_4 rfl (lv_at hl 1 rfl) ?_
  refine lv_iload_n hx hb dX7_cut_5 rfl (lv_at hl 2 rfl) ?_
  have hPc := hP.sub (ws' := [(dr, .inr (2, [.ref dp, .ref dc, .int 0]))]) [1] rfl
  refine va_calli (va_runV (As := [.int p1, .int p2]) (rest := []) ⟨hx, hb, hml, hown, hts⟩ (mz_Drawing_leads l dC dI cI cJ cZ dr dp dc p1 p2 s.heap ) (cwV 2 hts gX7_cut_X2_leads rfl rfl rfl (by decide +kernel) ⟨Nat.le_of_ble_eq_true rfl, Nat.le_of_ble_eq_true rfl⟩) ⟨fun a U g mk q => mz_blP q, va_recv hK hPc (ci := 2) (q0 := 0) rfl rfl, fun U hU hW => ⟨rfl, hU, hPc, va_K.moved hW.alike hK, mz_nw hW hN⟩⟩ rfl rfl hl.1 rfl (lv_room (Nat.le_of_ble_eq_true rfl)) dX7_cut_6 ⟨Nat.le_of_ble_eq_true rfl, Nat.le_of_ble_eq_true rfl⟩) hS (fun q _ h => h.elim) (fun q h => h.elim) (fun r u t H1 locs ht hvm hw hB hz1 hk1 hS => ?_)
  have hE : s.heap = H1 := hB.symm.trans ht
  subst hE
  obtain rfl : r = 0 := hw
  refine lv_if_ne (tgt := 14) hx hb dX7_cut_9 (by decide) (fun c_9 => absurd (by decide +kernel) c_9) (fun _ => ?_)
  refine lv_iconst (v := 0) hx hb dX7_cut_12 (by decide +kernel) ?_
  refine W.widen (k := 0) (n := 0) (Nat.le_of_ble_eq_true rfl) (Nat.le_of_ble_eq_true rfl) ?_
  exact W.zret (v := 0) hx hb hr (mz_nz (by decide +kernel)) (fun t ht hW => ⟨⟨0, (), rfl, rfl, ht⟩, hS.F ht⟩) hS.2.2 dX7_cut_13
set_option maxHeartbeats 1000000 in
set_option maxRecDepth 100000 in
theorem mz_turn (l : Launch) (dC : Nat → ClassId) (dI : Nat → Nat → Nat) (cI cJ cZ : ClassId) (mx : Nat) (dr : Nat) (th : Nat) (bk : Nat) (wt : Nat) (tt : Nat) (lh : Nat) (la : Nat) (dp : Nat) (dc : Nat) (p1 : Int32) (p2 : Int32) (Hq : Heap)  : Met l yX7_turn wsX7_turn ({ frames := 2, cells := 0, slots := 0, locals := 43 }) (va_Pc [.ref mx, .int p1, .int p2] (fun U => U.heap = Hq ∧ va_P (dC, dI) vwCl [(mx, .inr (7, [.ref dr, .ref th, .ref bk, .ref wt, .ref tt, .ref lh, .ref la, .int 0, .long 0, .long 1])), (dr, .inr (2, [.ref dp, .ref dc, .int 0]))] Hq ∧ va_K (dC, dI) vwCl [(cI, FieldType.int), (cJ, FieldType.long), (cZ, FieldType.boolean)] U ∧ mz_N U)) (va_Qi (fun (r : Int32) (_ : Unit) => r = 0) (fun _ t => t.heap = Hq) (fun _ : Nat => False)) 0 0 (fun _ : Nat => False) := by
  refine Met.ofW (cc := cX7_turn) (maxL := 3) (ret := (some .boolean)) (by decide) rfl ?_
  intro p e s m args below meth c s₁ B hml hv
  obtain ⟨rfl, hH, hP, hK, hN⟩ := hv
  subst hH
  have hx := B.exec
  have hb := B.bytes
  have hr := B.returns
  have hts := atoms_spec (ws := wsX7_turn) B.pre
  have hown : s.vm.findClass RX7 = some m.cls := findClass_of_methodNamed B.named
  have hlocks := B.notSynchronized
  have hS : va_S (fun _ : Nat => False) s.heap s.heap [] := va_S.rf
  have hiX7 : ∀ w ∈ u_ws RX7 TX7 10, w ∈ wsX7_turn := by decide +kernel
  have hl := lv_entry ([.ref mx, .int p1, .int p2]) (n := 3) (Nat.le_of_ble_eq_true rfl)
  rw [lg_entry_eq]
  generalize (lg_sl ([.ref mx, .int p1, .int p2]) ++ List.replicate (3 - (lg_sl ([.ref mx, .int p1, .int p2])).length) Slot.unset).toArray = ls at hl ⊢
  have hl : lv_has ls 3 [(0, .ref mx), (1, .int p1), (2, .int p2)] := hl
  refine lv_aload_n hx hb dX7_turn_0 rfl (lv_at hl 0 rfl) ?_
  refine va_get (D := (dC, dI)) (ci := 7) (v := .ref dr) (C := RX7) (T := TX7) (N := 10) hx hb hts hiX7 hown hK hP 0 rfl rfl 0 (by decide) (hts (.fieldLink RX7 12 "MadeItSo" "drawing" "LMadeItSo$Drawing;") (by decide +kernel)) (fun _ h9 => h9) rfl dX7_turn_1 ?_
  refine lv_iload_n hx hb dX7_turn_4 rfl (lv_at hl 1 rfl) ?_
  refine lv_iload_n hx hb dX7_turn_5 rfl (lv_at hl 2 rfl) ?_
  have hPc := hP.sub (ws' := [(dr, .inr (2, [.ref dp, .ref dc, .int 0]))]) [1] rfl
  refine va_calli (va_runV (As := [.int p1, .int p2]) (rest := []) ⟨hx, hb, hml, hown, hts⟩ (mz_Drawing_leads l dC dI cI cJ cZ dr dp dc p1 p2 s.heap ) (cwV 2 hts gX7_turn_X2_leads rfl rfl rfl (by decide +kernel) ⟨Nat.le_of_ble_eq_true rfl, Nat.le_of_ble_eq_true rfl⟩) ⟨fun a U g mk q => mz_blP q, va_recv hK hPc (ci := 2) (q0 := 0) rfl rfl, fun U hU hW => ⟨rfl, hU, hPc, va_K.moved hW.alike hK, mz_nw hW hN⟩⟩ rfl rfl hl.1 rfl (lv_room (Nat.le_of_ble_eq_true rfl)) dX7_turn_6 ⟨Nat.le_of_ble_eq_true rfl, Nat.le_of_ble_eq_true rfl⟩) hS (fun q _ h => h.elim) (fun q h => h.elim) (fun r u t H1 locs ht hvm hw hB hz1 hk1 hS => ?_)
  have hE : s.heap = H1 := hB.symm.trans ht
  subst hE
  obtain rfl : r = 0 := hw
  refine lv_if_ne (tgt := 14) hx hb dX7_turn_9 (by decide) (fun c_9 => absurd (by decide +kernel) c_9) (fun _ => ?_)
  refine lv_iconst (v := 0) hx hb dX7_turn_12 (by decide +kernel) ?_
  refine W.widen (k := 0) (n := 0) (Nat.le_of_ble_eq_true rfl) (Nat.le_of_ble_eq_true rfl) ?_
  exact W.zret (v := 0) hx hb hr (mz_nz (by decide +kernel)) (fun t ht hW => ⟨⟨0, (), rfl, rfl, ht⟩, hS.F ht⟩) hS.2.2 dX7_turn_13
set_option maxHeartbeats 1000000 in
set_option maxRecDepth 100000 in
theorem mz_book (l : Launch) (dC : Nat → ClassId) (dI : Nat → Nat → Nat) (cI cJ cZ : ClassId) (mx : Nat) (dr : Nat) (th : Nat) (bk : Nat) (wt : Nat) (tt : Nat) (lh : Nat) (la : Nat) (dp : Nat) (dc : Nat) (p1 : Int32) (p2 : Int32) (p3 : Int32) (Hq : Heap)  : Met l yX7_book wsX7_book ({ frames := 2, cells := 0, slots := 0, locals := 43 }) (va_Pc [.ref mx, .int p1, .int p2, .int p3] (fun U => U.heap = Hq ∧ va_P (dC, dI) vwCl [(mx, .inr (7, [.ref dr, .ref th, .ref bk, .ref wt, .ref tt, .ref lh, .ref la, .int 0, .long 0, .long 1])), (dr, .inr (2, [.ref dp, .ref dc, .int 0]))] Hq ∧ va_K (dC, dI) vwCl [(cI, FieldType.int), (cJ, FieldType.long), (cZ, FieldType.boolean)] U ∧ mz_N U)) (va_Qi (fun (r : Int32) (_ : Unit) => r = 0) (fun _ t => t.heap = Hq) (fun _ : Nat => False)) 0 0 (fun _ : Nat => False) := by
  refine Met.ofW (cc := cX7_book) (maxL := 4) (ret := (some .boolean)) (by decide) rfl ?_
  intro p e s m args below meth c s₁ B hml hv
  obtain ⟨rfl, hH, hP, hK, hN⟩ := hv
  subst hH
  have hx := B.exec
  have hb := B.bytes
  have hr := B.returns
  have hts := atoms_spec (ws := wsX7_book) B.pre
  have hown : s.vm.findClass RX7 = some m.cls := findClass_of_methodNamed B.named
  have hlocks := B.notSynchronized
  have hS : va_S (fun _ : Nat => False) s.heap s.heap [] := va_S.rf
  have hl := lv_entry ([.ref mx, .int p1, .int p2, .int p3]) (n := 4) (Nat.le_of_ble_eq_true rfl)
  rw [lg_entry_eq]
  generalize (lg_sl ([.ref mx, .int p1, .int p2, .int p3]) ++ List.replicate (4 - (lg_sl ([.ref mx, .int p1, .int p2, .int p3])).length) Slot.unset).toArray = ls at hl ⊢
  have hl : lv_has ls 4 [(0, .ref mx), (1, .int p1), (2, .int p2), (3, .int p3)] := hl
  refine lv_aload_n hx hb dX7_book_0 rfl (lv_at hl 0 rfl) ?_
  refine lv_iload_n hx hb dX7_book_1 rfl (lv_at hl 1 rfl) ?_
  refine lv_iload_n hx hb dX7_book_2 rfl (lv_at hl 2 rfl) ?_
  have hPc := hP.sub (ws' := [(mx, .inr (7, [.ref dr, .ref th, .ref bk, .ref wt, .ref tt, .ref lh, .ref la, .int 0, .long 0, .long 1])), (dr, .inr (2, [.ref dp, .ref dc, .int 0]))]) [0, 1] rfl
  refine va_calli (va_runV (As := [.int p1, .int p2]) (rest := []) ⟨hx, hb, hml, hown, hts⟩ (mz_hasRow l dC dI cI cJ cZ mx dr th bk wt tt lh la dp dc p1 p2 s.heap ) (cwV 2 hts gX7_book_X7_hasRow rfl rfl rfl (by decide +kernel) ⟨Nat.le_of_ble_eq_true rfl, Nat.le_of_ble_eq_true rfl⟩) ⟨fun a U g mk q => mz_blP q, va_recv hK hPc (ci := 7) (q0 := 0) rfl rfl, fun U hU hW => ⟨rfl, hU, hPc, va_K.moved hW.alike hK, mz_nw hW hN⟩⟩ rfl rfl hl.1 rfl (lv_room (Nat.le_of_ble_eq_true rfl)) dX7_book_3 ⟨Nat.le_of_ble_eq_true rfl, Nat.le_of_ble_eq_true rfl⟩) hS (fun q _ h => h.elim) (fun q h => h.elim) (fun r u t H1 locs ht hvm hw hB hz1 hk1 hS => ?_)
  have hE : s.heap = H1 := hB.symm.trans ht
  subst hE
  obtain rfl : r = 0 := hw
  refine lv_if_eq (tgt := 19) hx hb dX7_book_6 (by decide) (fun _ => ?_) (fun c_6 => absurd (by decide +kernel) c_6)
  refine lv_iconst (v := 0) hx hb dX7_book_19 (by decide +kernel) ?_
  refine W.widen (k := 0) (n := 0) (Nat.le_of_ble_eq_true rfl) (Nat.le_of_ble_eq_true rfl) ?_
  exact W.zret (v := 0) hx hb hr (mz_nz (by decide +kernel)) (fun t ht hW => ⟨⟨0, (), rfl, rfl, ht⟩, hS.F ht⟩) hS.2.2 dX7_book_20
set_option maxHeartbeats 1000000 in
set_option maxRecDepth 100000 in
theorem mz_booked (l : Launch) (dC : Nat → ClassId) (dI : Nat → Nat → Nat) (cI cJ cZ : ClassId) (mx : Nat) (dr : Nat) (th : Nat) (bk : Nat) (wt : Nat) (tt : Nat) (lh : Nat) (la : Nat) (dp : Nat) (dc : Nat) (p1 : Int32) (p2 : Int32) (Hq : Heap)  : Met l yX7_booked wsX7_booked ({ frames := 2, cells := 0, slots := 0, locals := 43 }) (va_Pc [.ref mx, .int p1, .int p2] (fun U => U.heap = Hq ∧ va_P (dC, dI) vwCl [(mx, .inr (7, [.ref dr, .ref th, .ref bk, .ref wt, .ref tt, .ref lh, .ref la, .int 0, .long 0, .long 1])), (dr, .inr (2, [.ref dp, .ref dc, .int 0]))] Hq ∧ va_K (dC, dI) vwCl [(cI, FieldType.int), (cJ, FieldType.long), (cZ, FieldType.boolean)] U ∧ mz_N U)) (va_Qi (fun (r : Int32) (_ : Unit) => r = (-1)) (fun _ t => t.heap = Hq) (fun _ : Nat => False)) 0 0 (fun _ : Nat => False) := by
  refine Met.ofW (cc := cX7_booked) (maxL := 3) (ret := (some .int)) (by decide) rfl ?_
  intro p e s m args below meth c s₁ B hml hv
  obtain ⟨rfl, hH, hP, hK, hN⟩ := hv
  subst hH
  have hx := B.exec
  have hb := B.bytes
  have hr := B.returns
  have hts := atoms_spec (ws := wsX7_booked) B.pre
  have hown : s.vm.findClass RX7 = some m.cls := findClass_of_methodNamed B.named
  have hlocks := B.notSynchronized
  have hS : va_S (fun _ : Nat => False) s.heap s.heap [] := va_S.rf
  have hl := lv_entry ([.ref mx, .int p1, .int p2]) (n := 3) (Nat.le_of_ble_eq_true rfl)
  rw [lg_entry_eq]
  generalize (lg_sl ([.ref mx, .int p1, .int p2]) ++ List.replicate (3 - (lg_sl ([.ref mx, .int p1, .int p2])).length) Slot.unset).toArray = ls at hl ⊢
  have hl : lv_has ls 3 [(0, .ref mx), (1, .int p1), (2, .int p2)] := hl
  refine lv_aload_n hx hb dX7_booked_0 rfl (lv_at hl 0 rfl) ?_
  refine lv_iload_n hx hb dX7_booked_1 rfl (lv_at hl 1 rfl) ?_
  refine lv_iload_n hx hb dX7_booked_2 rfl (lv_at hl 2 rfl) ?_
  have hPc := hP.sub (ws' := [(mx, .inr (7, [.ref dr, .ref th, .ref bk, .ref wt, .ref tt, .ref lh, .ref la, .int 0, .long 0, .long 1])), (dr, .inr (2, [.ref dp, .ref dc, .int 0]))]) [0, 1] rfl
  refine va_calli (va_runV (As := [.int p1, .int p2]) (rest := []) ⟨hx, hb, hml, hown, hts⟩ (mz_hasRow l dC dI cI cJ cZ mx dr th bk wt tt lh la dp dc p1 p2 s.heap ) (cwV 2 hts gX7_booked_X7_hasRow rfl rfl rfl (by decide +kernel) ⟨Nat.le_of_ble_eq_true rfl, Nat.le_of_ble_eq_true rfl⟩) ⟨fun a U g mk q => mz_blP q, va_recv hK hPc (ci := 7) (q0 := 0) rfl rfl, fun U hU hW => ⟨rfl, hU, hPc, va_K.moved hW.alike hK, mz_nw hW hN⟩⟩ rfl rfl hl.1 rfl (lv_room (Nat.le_of_ble_eq_true rfl)) dX7_booked_3 ⟨Nat.le_of_ble_eq_true rfl, Nat.le_of_ble_eq_true rfl⟩) hS (fun q _ h => h.elim) (fun q h => h.elim) (fun r u t H1 locs ht hvm hw hB hz1 hk1 hS => ?_)
  have hE : s.heap = H1 := hB.symm.trans ht
  subst hE
  obtain rfl : r = 0 := hw
  refine lv_if_eq (tgt := 21) hx hb dX7_booked_6 (by decide) (fun _ => ?_) (fun c_6 => absurd (by decide +kernel) c_6)
  refine lv_iconst (v := (-1)) hx hb dX7_booked_21 (by decide +kernel) ?_
  refine W.widen (k := 0) (n := 0) (Nat.le_of_ble_eq_true rfl) (Nat.le_of_ble_eq_true rfl) ?_
  exact W.iret (v := (-1)) hx hb hr (fun t ht hW => ⟨⟨(-1), (), rfl, rfl, ht⟩, hS.F ht⟩) hS.2.2 dX7_booked_22
set_option maxHeartbeats 1000000 in
set_option maxRecDepth 100000 in
theorem mz_told (l : Launch) (dC : Nat → ClassId) (dI : Nat → Nat → Nat) (cI cJ cZ : ClassId) (mx : Nat) (dr : Nat) (th : Nat) (bk : Nat) (wt : Nat) (tt : Nat) (lh : Nat) (la : Nat) (dp : Nat) (dc : Nat) (p1 : Int32) (p2 : Int32) (Hq : Heap)  : Met l yX7_told wsX7_told ({ frames := 1, cells := 0, slots := 0, locals := 21 }) (va_Pc [.ref mx, .int p1, .int p2] (fun U => U.heap = Hq ∧ va_P (dC, dI) vwCl [(mx, .inr (7, [.ref dr, .ref th, .ref bk, .ref wt, .ref tt, .ref lh, .ref la, .int 0, .long 0, .long 1])), (dr, .inr (2, [.ref dp, .ref dc, .int 0]))] Hq ∧ va_K (dC, dI) vwCl [(cI, FieldType.int), (cJ, FieldType.long), (cZ, FieldType.boolean)] U ∧ mz_N U)) (va_Qi (fun (r : Int32) (_ : Unit) => r = (-1)) (fun _ t => t.heap = Hq) (fun _ : Nat => False)) 0 0 (fun _ : Nat => False) := by
  refine Met.ofW (cc := cX7_told) (maxL := 3) (ret := (some .int)) (by decide) rfl ?_
  intro p e s m args below meth c s₁ B hml hv
  obtain ⟨rfl, hH, hP, hK, hN⟩ := hv
  subst hH
  have hx := B.exec
  have hb := B.bytes
  have hr := B.returns
  have hts := atoms_spec (ws := wsX7_told) B.pre
  have hown : s.vm.findClass RX7 = some m.cls := findClass_of_methodNamed B.named
  have hlocks := B.notSynchronized
  have hS : va_S (fun _ : Nat => False) s.heap s.heap [] := va_S.rf
  have hiX7 : ∀ w ∈ u_ws RX7 TX7 10, w ∈ wsX7_told := by decide +kernel
  have hl := lv_entry ([.ref mx, .int p1, .int p2]) (n := 3) (Nat.le_of_ble_eq_true rfl)
  rw [lg_entry_eq]
  generalize (lg_sl ([.ref mx, .int p1, .int p2]) ++ List.replicate (3 - (lg_sl ([.ref mx, .int p1, .int p2])).length) Slot.unset).toArray = ls at hl ⊢
  have hl : lv_has ls 3 [(0, .ref mx), (1, .int p1), (2, .int p2)] := hl
  refine lv_aload_n hx hb dX7_told_0 rfl (lv_at hl 0 rfl) ?_
  refine va_get (D := (dC, dI)) (ci := 7) (v := .ref dr) (C := RX7) (T := TX7) (N := 10) hx hb hts hiX7 hown hK hP 0 rfl rfl 0 (by decide) (hts (.fieldLink RX7 12 "MadeItSo" "drawing" "LMadeItSo$Drawing;") (by decide +kernel)) (fun _ h9 => h9) rfl dX7_told_1 ?_
  refine lv_iload_n hx hb dX7_told_4 rfl (lv_at hl 1 rfl) ?_
  have hPc := hP.sub (ws' := [(dr, .inr (2, [.ref dp, .ref dc, .int 0]))]) [1] rfl
  refine va_calli (va_runV (As := [.int p1]) (rest := []) ⟨hx, hb, hml, hown, hts⟩ (mz_Drawing_has l dC dI cI cJ cZ dr dp dc p1 s.heap ) (cwV 1 hts gX7_told_X2_has rfl rfl rfl (by decide +kernel) ⟨Nat.le_of_ble_eq_true rfl, Nat.le_of_ble_eq_true rfl⟩) ⟨fun a U g mk q => mz_blP q, va_recv hK hPc (ci := 2) (q0 := 0) rfl rfl, fun U hU hW => ⟨rfl, hU, hPc, va_K.moved hW.alike hK, mz_nw hW hN⟩⟩ rfl rfl hl.1 rfl (lv_room (Nat.le_of_ble_eq_true rfl)) dX7_told_5 ⟨Nat.le_of_ble_eq_true rfl, Nat.le_of_ble_eq_true rfl⟩) hS (fun q _ h => h.elim) (fun q h => h.elim) (fun r u t H1 locs ht hvm hw hB hz1 hk1 hS => ?_)
  have hE : s.heap = H1 := hB.symm.trans ht
  subst hE
  obtain rfl : r = 0 := hw
  refine lv_if_ne (tgt := 13) hx hb dX7_told_8 (by decide) (fun c_8 => absurd (by decide +kernel) c_8) (fun _ => ?_)
  refine lv_iconst (v := (-1)) hx hb dX7_told_11 (by decide +kernel) ?_
  refine W.widen (k := 0) (n := 0) (Nat.le_of_ble_eq_true rfl) (Nat.le_of_ble_eq_true rfl) ?_
  exact W.iret (v := (-1)) hx hb hr (fun t ht hW => ⟨⟨(-1), (), rfl, rfl, ht⟩, hS.F ht⟩) hS.2.2 dX7_told_12
set_option maxHeartbeats 1000000 in
set_option maxRecDepth 100000 in
theorem mz_least (l : Launch) (dC : Nat → ClassId) (dI : Nat → Nat → Nat) (cI cJ cZ : ClassId) (mx : Nat) (dr : Nat) (th : Nat) (bk : Nat) (wt : Nat) (tt : Nat) (lh : Nat) (la : Nat) (dp : Nat) (dc : Nat) (p1 : Int32) (p2 : Int32) (Hq : Heap)  : Met l yX7_least wsX7_least ({ frames := 2, cells := 0, slots := 0, locals := 43 }) (va_Pc [.ref mx, .int p1, .int p2] (fun U => U.heap = Hq ∧ va_P (dC, dI) vwCl [(mx, .inr (7, [.ref dr, .ref th, .ref bk, .ref wt, .ref tt, .ref lh, .ref la, .int 0, .long 0, .long 1])), (dr, .inr (2, [.ref dp, .ref dc, .int 0]))] Hq ∧ va_K (dC, dI) vwCl [(cI, FieldType.int), (cJ, FieldType.long), (cZ, FieldType.boolean)] U ∧ mz_N U)) (va_Qi (fun (r : Int32) (_ : Unit) => r = (-1)) (fun _ t => t.heap = Hq) (fun _ : Nat => False)) 0 0 (fun _ : Nat => False) := by
  refine Met.ofW (cc := cX7_least) (maxL := 3) (ret := (some .int)) (by decide) rfl ?_
  intro p e s m args below meth c s₁ B hml hv
  obtain ⟨rfl, hH, hP, hK, hN⟩ := hv
  subst hH
  have hx := B.exec
  have hb := B.bytes
  have hr := B.returns
  have hts := atoms_spec (ws := wsX7_least) B.pre
  have hown : s.vm.findClass RX7 = some m.cls := findClass_of_methodNamed B.named
  have hlocks := B.notSynchronized
  have hS : va_S (fun _ : Nat => False) s.heap s.heap [] := va_S.rf
  have hl := lv_entry ([.ref mx, .int p1, .int p2]) (n := 3) (Nat.le_of_ble_eq_true rfl)
  rw [lg_entry_eq]
  generalize (lg_sl ([.ref mx, .int p1, .int p2]) ++ List.replicate (3 - (lg_sl ([.ref mx, .int p1, .int p2])).length) Slot.unset).toArray = ls at hl ⊢
  have hl : lv_has ls 3 [(0, .ref mx), (1, .int p1), (2, .int p2)] := hl
  refine lv_aload_n hx hb dX7_least_0 rfl (lv_at hl 0 rfl) ?_
  refine lv_iload_n hx hb dX7_least_1 rfl (lv_at hl 1 rfl) ?_
  refine lv_iload_n hx hb dX7_least_2 rfl (lv_at hl 2 rfl) ?_
  have hPc := hP.sub (ws' := [(mx, .inr (7, [.ref dr, .ref th, .ref bk, .ref wt, .ref tt, .ref lh, .ref la, .int 0, .long 0, .long 1])), (dr, .inr (2, [.ref dp, .ref dc, .int 0]))]) [0, 1] rfl
  refine va_calli (va_runV (As := [.int p1, .int p2]) (rest := []) ⟨hx, hb, hml, hown, hts⟩ (mz_areTwo l dC dI cI cJ cZ mx dr th bk wt tt lh la dp dc p1 p2 s.heap ) (cwV 2 hts gX7_least_X7_areTwo rfl rfl rfl (by decide +kernel) ⟨Nat.le_of_ble_eq_true rfl, Nat.le_of_ble_eq_true rfl⟩) ⟨fun a U g mk q => mz_blP q, va_recv hK hPc (ci := 7) (q0 := 0) rfl rfl, fun U hU hW => ⟨rfl, hU, hPc, va_K.moved hW.alike hK, mz_nw hW hN⟩⟩ rfl rfl hl.1 rfl (lv_room (Nat.le_of_ble_eq_true rfl)) dX7_least_3 ⟨Nat.le_of_ble_eq_true rfl, Nat.le_of_ble_eq_true rfl⟩) hS (fun q _ h => h.elim) (fun q h => h.elim) (fun r u t H1 locs ht hvm hw hB hz1 hk1 hS => ?_)
  have hE : s.heap = H1 := hB.symm.trans ht
  subst hE
  obtain rfl : r = 0 := hw
  refine lv_if_ne (tgt := 11) hx hb dX7_least_6 (by decide) (fun c_6 => absurd (by decide +kernel) c_6) (fun _ => ?_)
  refine lv_iconst (v := (-1)) hx hb dX7_least_9 (by decide +kernel) ?_
  refine W.widen (k := 0) (n := 0) (Nat.le_of_ble_eq_true rfl) (Nat.le_of_ble_eq_true rfl) ?_
  exact W.iret (v := (-1)) hx hb hr (fun t ht hW => ⟨⟨(-1), (), rfl, rfl, ht⟩, hS.F ht⟩) hS.2.2 dX7_least_10
set_option maxHeartbeats 1000000 in
set_option maxRecDepth 100000 in
theorem mz_leastAt (l : Launch) (dC : Nat → ClassId) (dI : Nat → Nat → Nat) (cI cJ cZ : ClassId) (mx : Nat) (dr : Nat) (th : Nat) (bk : Nat) (wt : Nat) (tt : Nat) (lh : Nat) (la : Nat) (dp : Nat) (dc : Nat) (p1 : Int32) (p2 : Int32) (p3 : Int32) (Hq : Heap)  : Met l yX7_leastAt wsX7_leastAt ({ frames := 2, cells := 0, slots := 0, locals := 43 }) (va_Pc [.ref mx, .int p1, .int p2, .int p3] (fun U => U.heap = Hq ∧ va_P (dC, dI) vwCl [(mx, .inr (7, [.ref dr, .ref th, .ref bk, .ref wt, .ref tt, .ref lh, .ref la, .int 0, .long 0, .long 1])), (dr, .inr (2, [.ref dp, .ref dc, .int 0]))] Hq ∧ va_K (dC, dI) vwCl [(cI, FieldType.int), (cJ, FieldType.long), (cZ, FieldType.boolean)] U ∧ mz_N U)) (va_Qi (fun (r : Int32) (_ : Unit) => r = (-1)) (fun _ t => t.heap = Hq) (fun _ : Nat => False)) 0 0 (fun _ : Nat => False) := by
  refine Met.ofW (cc := cX7_leastAt) (maxL := 4) (ret := (some .int)) (by decide) rfl ?_
  intro p e s m args below meth c s₁ B hml hv
  obtain ⟨rfl, hH, hP, hK, hN⟩ := hv
  subst hH
  have hx := B.exec
  have hb := B.bytes
  have hr := B.returns
  have hts := atoms_spec (ws := wsX7_leastAt) B.pre
  have hown : s.vm.findClass RX7 = some m.cls := findClass_of_methodNamed B.named
  have hlocks := B.notSynchronized
  have hS : va_S (fun _ : Nat => False) s.heap s.heap [] := va_S.rf
  have hl := lv_entry ([.ref mx, .int p1, .int p2, .int p3]) (n := 4) (Nat.le_of_ble_eq_true rfl)
  rw [lg_entry_eq]
  generalize (lg_sl ([.ref mx, .int p1, .int p2, .int p3]) ++ List.replicate (4 - (lg_sl ([.ref mx, .int p1, .int p2, .int p3])).length) Slot.unset).toArray = ls at hl ⊢
  have hl : lv_has ls 4 [(0, .ref mx), (1, .int p1), (2, .int p2), (3, .int p3)] := hl
  refine lv_aload_n hx hb dX7_leastAt_0 rfl (lv_at hl 0 rfl) ?_
  refine lv_iload_n hx hb dX7_leastAt_1 rfl (lv_at hl 1 rfl) ?_
  refine lv_iload_n hx hb dX7_leastAt_2 rfl (lv_at hl 2 rfl) ?_
  have hPc := hP.sub (ws' := [(mx, .inr (7, [.ref dr, .ref th, .ref bk, .ref wt, .ref tt, .ref lh, .ref la, .int 0, .long 0, .long 1])), (dr, .inr (2, [.ref dp, .ref dc, .int 0]))]) [0, 1] rfl
  refine va_calli (va_runV (As := [.int p1, .int p2]) (rest := []) ⟨hx, hb, hml, hown, hts⟩ (mz_areTwo l dC dI cI cJ cZ mx dr th bk wt tt lh la dp dc p1 p2 s.heap ) (cwV 2 hts gX7_leastAt_X7_areTwo rfl rfl rfl (by decide +kernel) ⟨Nat.le_of_ble_eq_true rfl, Nat.le_of_ble_eq_true rfl⟩) ⟨fun a U g mk q => mz_blP q, va_recv hK hPc (ci := 7) (q0 := 0) rfl rfl, fun U hU hW => ⟨rfl, hU, hPc, va_K.moved hW.alike hK, mz_nw hW hN⟩⟩ rfl rfl hl.1 rfl (lv_room (Nat.le_of_ble_eq_true rfl)) dX7_leastAt_3 ⟨Nat.le_of_ble_eq_true rfl, Nat.le_of_ble_eq_true rfl⟩) hS (fun q _ h => h.elim) (fun q h => h.elim) (fun r u t H1 locs ht hvm hw hB hz1 hk1 hS => ?_)
  have hE : s.heap = H1 := hB.symm.trans ht
  subst hE
  obtain rfl : r = 0 := hw
  refine lv_if_ne (tgt := 11) hx hb dX7_leastAt_6 (by decide) (fun c_6 => absurd (by decide +kernel) c_6) (fun _ => ?_)
  refine lv_iconst (v := (-1)) hx hb dX7_leastAt_9 (by decide +kernel) ?_
  refine W.widen (k := 0) (n := 0) (Nat.le_of_ble_eq_true rfl) (Nat.le_of_ble_eq_true rfl) ?_
  exact W.iret (v := (-1)) hx hb hr (fun t ht hW => ⟨⟨(-1), (), rfl, rfl, ht⟩, hS.F ht⟩) hS.2.2 dX7_leastAt_10
set_option maxHeartbeats 1000000 in
set_option maxRecDepth 100000 in
theorem mz_fit (l : Launch) (dC : Nat → ClassId) (dI : Nat → Nat → Nat) (cI cJ cZ : ClassId) (mx : Nat) (dr : Nat) (th : Nat) (bk : Nat) (wt : Nat) (tt : Nat) (lh : Nat) (la : Nat) (dp : Nat) (dc : Nat) (p1 : Int32) (p2 : Int32) (p3 : Int32) (Hq : Heap)  : Met l yX7_fit wsX7_fit ({ frames := 2, cells := 0, slots := 0, locals := 43 }) (va_Pc [.ref mx, .int p1, .int p2, .int p3] (fun U => U.heap = Hq ∧ va_P (dC, dI) vwCl [(mx, .inr (7, [.ref dr, .ref th, .ref bk, .ref wt, .ref tt, .ref lh, .ref la, .int 0, .long 0, .long 1])), (dr, .inr (2, [.ref dp, .ref dc, .int 0]))] Hq ∧ va_K (dC, dI) vwCl [(cI, FieldType.int), (cJ, FieldType.long), (cZ, FieldType.boolean)] U ∧ mz_N U)) (va_Qi (fun (r : Int32) (_ : Unit) => r = 0) (fun _ t => t.heap = Hq) (fun _ : Nat => False)) 0 0 (fun _ : Nat => False) := by
  refine Met.ofW (cc := cX7_fit) (maxL := 5) (ret := (some .boolean)) (by decide) rfl ?_
  intro p e s m args below meth c s₁ B hml hv
  obtain ⟨rfl, hH, hP, hK, hN⟩ := hv
  subst hH
  have hx := B.exec
  have hb := B.bytes
  have hr := B.returns
  have hts := atoms_spec (ws := wsX7_fit) B.pre
  have hown : s.vm.findClass RX7 = some m.cls := findClass_of_methodNamed B.named
  have hlocks := B.notSynchronized
  have hS : va_S (fun _ : Nat => False) s.heap s.heap [] := va_S.rf
  have hl := lv_entry ([.ref mx, .int p1, .int p2, .int p3]) (n := 5) (Nat.le_of_ble_eq_true rfl)
  rw [lg_entry_eq]
  generalize (lg_sl ([.ref mx, .int p1, .int p2, .int p3]) ++ List.replicate (5 - (lg_sl ([.ref mx, .int p1, .int p2, .int p3])).length) Slot.unset).toArray = ls at hl ⊢
  have hl : lv_has ls 5 [(0, .ref mx), (1, .int p1), (2, .int p2), (3, .int p3)] := hl
  refine lv_aload_n hx hb dX7_fit_0 rfl (lv_at hl 0 rfl) ?_
  refine lv_iload_n hx hb dX7_fit_1 rfl (lv_at hl 1 rfl) ?_
  refine lv_iload_n hx hb dX7_fit_2 rfl (lv_at hl 2 rfl) ?_
  have hPc := hP.sub (ws' := [(mx, .inr (7, [.ref dr, .ref th, .ref bk, .ref wt, .ref tt, .ref lh, .ref la, .int 0, .long 0, .long 1])), (dr, .inr (2, [.ref dp, .ref dc, .int 0]))]) [0, 1] rfl
  refine va_calli (va_runV (As := [.int p1, .int p2]) (rest := []) ⟨hx, hb, hml, hown, hts⟩ (mz_areTwo l dC dI cI cJ cZ mx dr th bk wt tt lh la dp dc p1 p2 s.heap ) (cwV 2 hts gX7_fit_X7_areTwo rfl rfl rfl (by decide +kernel) ⟨Nat.le_of_ble_eq_true rfl, Nat.le_of_ble_eq_true rfl⟩) ⟨fun a U g mk q => mz_blP q, va_recv hK hPc (ci := 7) (q0 := 0) rfl rfl, fun U hU hW => ⟨rfl, hU, hPc, va_K.moved hW.alike hK, mz_nw hW hN⟩⟩ rfl rfl hl.1 rfl (lv_room (Nat.le_of_ble_eq_true rfl)) dX7_fit_3 ⟨Nat.le_of_ble_eq_true rfl, Nat.le_of_ble_eq_true rfl⟩) hS (fun q _ h => h.elim) (fun q h => h.elim) (fun r u t H1 locs ht hvm hw hB hz1 hk1 hS => ?_)
  have hE : s.heap = H1 := hB.symm.trans ht
  subst hE
  obtain rfl : r = 0 := hw
  refine lv_if_eq (tgt := 33) hx hb dX7_fit_6 (by decide) (fun _ => ?_) (fun c_6 => absurd (by decide +kernel) c_6)
  refine lv_iconst (v := 0) hx hb dX7_fit_33 (by decide +kernel) ?_
  refine W.widen (k := 0) (n := 0) (Nat.le_of_ble_eq_true rfl) (Nat.le_of_ble_eq_true rfl) ?_
  exact W.zret (v := 0) hx hb hr (mz_nz (by decide +kernel)) (fun t ht hW => ⟨⟨0, (), rfl, rfl, ht⟩, hS.F ht⟩) hS.2.2 dX7_fit_34
set_option maxHeartbeats 1000000 in
set_option maxRecDepth 100000 in
theorem mz_agrees (l : Launch) (dC : Nat → ClassId) (dI : Nat → Nat → Nat) (cI cJ cZ : ClassId) (mx : Nat) (dr : Nat) (th : Nat) (bk : Nat) (wt : Nat) (tt : Nat) (lh : Nat) (la : Nat) (dp : Nat) (dc : Nat) (p1 : Int32) (p2 : Int32) (p3 : Int32) (p4 : Int32) (p5 : Int32) (Hq : Heap)  : Met l yX7_agrees wsX7_agrees ({ frames := 1, cells := 0, slots := 0, locals := 21 }) (va_Pc [.ref mx, .int p1, .int p2, .int p3, .int p4, .int p5] (fun U => U.heap = Hq ∧ va_P (dC, dI) vwCl [(mx, .inr (7, [.ref dr, .ref th, .ref bk, .ref wt, .ref tt, .ref lh, .ref la, .int 0, .long 0, .long 1])), (dr, .inr (2, [.ref dp, .ref dc, .int 0]))] Hq ∧ va_K (dC, dI) vwCl [(cI, FieldType.int), (cJ, FieldType.long), (cZ, FieldType.boolean)] U ∧ mz_N U)) (va_Qi (fun (r : Int32) (_ : Unit) => r = (-1)) (fun _ t => t.heap = Hq) (fun _ : Nat => False)) 0 0 (fun _ : Nat => False) := by
  refine Met.ofW (cc := cX7_agrees) (maxL := 8) (ret := (some .int)) (by decide) rfl ?_
  intro p e s m args below meth c s₁ B hml hv
  obtain ⟨rfl, hH, hP, hK, hN⟩ := hv
  subst hH
  have hx := B.exec
  have hb := B.bytes
  have hr := B.returns
  have hts := atoms_spec (ws := wsX7_agrees) B.pre
  have hown : s.vm.findClass RX7 = some m.cls := findClass_of_methodNamed B.named
  have hlocks := B.notSynchronized
  have hS : va_S (fun _ : Nat => False) s.heap s.heap [] := va_S.rf
  have hiX7 : ∀ w ∈ u_ws RX7 TX7 10, w ∈ wsX7_agrees := by decide +kernel
  have hl := lv_entry ([.ref mx, .int p1, .int p2, .int p3, .int p4, .int p5]) (n := 8) (Nat.le_of_ble_eq_true rfl)
  rw [lg_entry_eq]
  generalize (lg_sl ([.ref mx, .int p1, .int p2, .int p3, .int p4, .int p5]) ++ List.replicate (8 - (lg_sl ([.ref mx, .int p1, .int p2, .int p3, .int p4, .int p5])).length) Slot.unset).toArray = ls at hl ⊢
  have hl : lv_has ls 8 [(0, .ref mx), (1, .int p1), (2, .int p2), (3, .int p3), (4, .int p4), (5, .int p5)] := hl
  refine lv_aload_n hx hb dX7_agrees_0 rfl (lv_at hl 0 rfl) ?_
  refine va_get (D := (dC, dI)) (ci := 7) (v := .ref dr) (C := RX7) (T := TX7) (N := 10) hx hb hts hiX7 hown hK hP 0 rfl rfl 0 (by decide) (hts (.fieldLink RX7 12 "MadeItSo" "drawing" "LMadeItSo$Drawing;") (by decide +kernel)) (fun _ h9 => h9) rfl dX7_agrees_1 ?_
  refine lv_iload_n hx hb dX7_agrees_4 rfl (lv_at hl 1 rfl) ?_
  have hPc := hP.sub (ws' := [(dr, .inr (2, [.ref dp, .ref dc, .int 0]))]) [1] rfl
  refine va_calli (va_runV (As := [.int p1]) (rest := []) ⟨hx, hb, hml, hown, hts⟩ (mz_Drawing_has l dC dI cI cJ cZ dr dp dc p1 s.heap ) (cwV 1 hts gX7_agrees_X2_has rfl rfl rfl (by decide +kernel) ⟨Nat.le_of_ble_eq_true rfl, Nat.le_of_ble_eq_true rfl⟩) ⟨fun a U g mk q => mz_blP q, va_recv hK hPc (ci := 2) (q0 := 0) rfl rfl, fun U hU hW => ⟨rfl, hU, hPc, va_K.moved hW.alike hK, mz_nw hW hN⟩⟩ rfl rfl hl.1 rfl (lv_room (Nat.le_of_ble_eq_true rfl)) dX7_agrees_5 ⟨Nat.le_of_ble_eq_true rfl, Nat.le_of_ble_eq_true rfl⟩) hS (fun q _ h => h.elim) (fun q h => h.elim) (fun r u t H1 locs ht hvm hw hB hz1 hk1 hS => ?_)
  have hE : s.heap = H1 := hB.symm.trans ht
  subst hE
  obtain rfl : r = 0 := hw
  refine lv_if_eq (tgt := 46) hx hb dX7_agrees_8 (by decide) (fun _ => ?_) (fun c_8 => absurd (by decide +kernel) c_8)
  refine lv_iconst (v := (-1)) hx hb dX7_agrees_46 (by decide +kernel) ?_
  refine W.widen (k := 0) (n := 0) (Nat.le_of_ble_eq_true rfl) (Nat.le_of_ble_eq_true rfl) ?_
  exact W.iret (v := (-1)) hx hb hr (fun t ht hW => ⟨⟨(-1), (), rfl, rfl, ht⟩, hS.F ht⟩) hS.2.2 dX7_agrees_47
set_option maxHeartbeats 1000000 in
set_option maxRecDepth 100000 in
theorem mz_fixed (l : Launch) (dC : Nat → ClassId) (dI : Nat → Nat → Nat) (cI cJ cZ : ClassId) (mx : Nat) (dr : Nat) (th : Nat) (bk : Nat) (wt : Nat) (tt : Nat) (lh : Nat) (la : Nat) (dp : Nat) (dc : Nat) (p1 : Int32) (p2 : Int32) (Hq : Heap)  : Met l yX7_fixed wsX7_fixed ({ frames := 2, cells := 0, slots := 0, locals := 43 }) (va_Pc [.ref mx, .int p1, .int p2] (fun U => U.heap = Hq ∧ va_P (dC, dI) vwCl [(mx, .inr (7, [.ref dr, .ref th, .ref bk, .ref wt, .ref tt, .ref lh, .ref la, .int 0, .long 0, .long 1])), (dr, .inr (2, [.ref dp, .ref dc, .int 0]))] Hq ∧ va_K (dC, dI) vwCl [(cI, FieldType.int), (cJ, FieldType.long), (cZ, FieldType.boolean)] U ∧ mz_N U)) (va_Qi (fun (r : Int32) (_ : Unit) => r = 0) (fun _ t => t.heap = Hq) (fun _ : Nat => False)) 0 0 (fun _ : Nat => False) := by
  refine Met.ofW (cc := cX7_fixed) (maxL := 3) (ret := (some .boolean)) (by decide) rfl ?_
  intro p e s m args below meth c s₁ B hml hv
  obtain ⟨rfl, hH, hP, hK, hN⟩ := hv
  subst hH
  have hx := B.exec
  have hb := B.bytes
  have hr := B.returns
  have hts := atoms_spec (ws := wsX7_fixed) B.pre
  have hown : s.vm.findClass RX7 = some m.cls := findClass_of_methodNamed B.named
  have hlocks := B.notSynchronized
  have hS : va_S (fun _ : Nat => False) s.heap s.heap [] := va_S.rf
  have hiX7 : ∀ w ∈ u_ws RX7 TX7 10, w ∈ wsX7_fixed := by decide +kernel
  have hl := lv_entry ([.ref mx, .int p1, .int p2]) (n := 3) (Nat.le_of_ble_eq_true rfl)
  rw [lg_entry_eq]
  generalize (lg_sl ([.ref mx, .int p1, .int p2]) ++ List.replicate (3 - (lg_sl ([.ref mx, .int p1, .int p2])).length) Slot.unset).toArray = ls at hl ⊢
  have hl : lv_has ls 3 [(0, .ref mx), (1, .int p1), (2, .int p2)] := hl
  refine lv_aload_n hx hb dX7_fixed_0 rfl (lv_at hl 0 rfl) ?_
  refine va_get (D := (dC, dI)) (ci := 7) (v := .ref dr) (C := RX7) (T := TX7) (N := 10) hx hb hts hiX7 hown hK hP 0 rfl rfl 0 (by decide) (hts (.fieldLink RX7 12 "MadeItSo" "drawing" "LMadeItSo$Drawing;") (by decide +kernel)) (fun _ h9 => h9) rfl dX7_fixed_1 ?_
  refine lv_iload_n hx hb dX7_fixed_4 rfl (lv_at hl 1 rfl) ?_
  refine lv_iload_n hx hb dX7_fixed_5 rfl (lv_at hl 2 rfl) ?_
  have hPc := hP.sub (ws' := [(dr, .inr (2, [.ref dp, .ref dc, .int 0]))]) [1] rfl
  refine va_calli (va_runV (As := [.int p1, .int p2]) (rest := []) ⟨hx, hb, hml, hown, hts⟩ (mz_Drawing_leads l dC dI cI cJ cZ dr dp dc p1 p2 s.heap ) (cwV 2 hts gX7_fixed_X2_leads rfl rfl rfl (by decide +kernel) ⟨Nat.le_of_ble_eq_true rfl, Nat.le_of_ble_eq_true rfl⟩) ⟨fun a U g mk q => mz_blP q, va_recv hK hPc (ci := 2) (q0 := 0) rfl rfl, fun U hU hW => ⟨rfl, hU, hPc, va_K.moved hW.alike hK, mz_nw hW hN⟩⟩ rfl rfl hl.1 rfl (lv_room (Nat.le_of_ble_eq_true rfl)) dX7_fixed_6 ⟨Nat.le_of_ble_eq_true rfl, Nat.le_of_ble_eq_true rfl⟩) hS (fun q _ h => h.elim) (fun q h => h.elim) (fun r u t H1 locs ht hvm hw hB hz1 hk1 hS => ?_)
  have hE : s.heap = H1 := hB.symm.trans ht
  subst hE
  obtain rfl : r = 0 := hw
  refine lv_if_ne (tgt := 14) hx hb dX7_fixed_9 (by decide) (fun c_9 => absurd (by decide +kernel) c_9) (fun _ => ?_)
  refine lv_iconst (v := 0) hx hb dX7_fixed_12 (by decide +kernel) ?_
  refine W.widen (k := 0) (n := 0) (Nat.le_of_ble_eq_true rfl) (Nat.le_of_ble_eq_true rfl) ?_
  exact W.zret (v := 0) hx hb hr (mz_nz (by decide +kernel)) (fun t ht hW => ⟨⟨0, (), rfl, rfl, ht⟩, hS.F ht⟩) hS.2.2 dX7_fixed_13
set_option maxHeartbeats 1000000 in
set_option maxRecDepth 100000 in
theorem mz_otherwise (l : Launch) (dC : Nat → ClassId) (dI : Nat → Nat → Nat) (cI cJ cZ : ClassId) (mx : Nat) (dr : Nat) (th : Nat) (bk : Nat) (wt : Nat) (tt : Nat) (lh : Nat) (la : Nat) (dp : Nat) (dc : Nat) (p1 : Int32) (p2 : Int32) (p3 : Int32) (Hq : Heap)  : Met l yX7_otherwise wsX7_otherwise ({ frames := 2, cells := 0, slots := 0, locals := 43 }) (va_Pc [.ref mx, .int p1, .int p2, .int p3] (fun U => U.heap = Hq ∧ va_P (dC, dI) vwCl [(mx, .inr (7, [.ref dr, .ref th, .ref bk, .ref wt, .ref tt, .ref lh, .ref la, .int 0, .long 0, .long 1])), (dr, .inr (2, [.ref dp, .ref dc, .int 0]))] Hq ∧ va_K (dC, dI) vwCl [(cI, FieldType.int), (cJ, FieldType.long), (cZ, FieldType.boolean)] U ∧ mz_N U)) (va_Ql (fun (r : Int64) (_ : Unit) => r = (-1)) (fun _ t => t.heap = Hq) (fun _ : Nat => False)) 0 0 (fun _ : Nat => False) := by
  refine Met.ofW (cc := cX7_otherwise) (maxL := 8) (ret := (some .long)) (by decide) rfl ?_
  intro p e s m args below meth c s₁ B hml hv
  obtain ⟨rfl, hH, hP, hK, hN⟩ := hv
  subst hH
  have hx := B.exec
  have hb := B.bytes
  have hr := B.returns
  have hts := atoms_spec (ws := wsX7_otherwise) B.pre
  have hown : s.vm.findClass RX7 = some m.cls := findClass_of_methodNamed B.named
  have hlocks := B.notSynchronized
  have hS : va_S (fun _ : Nat => False) s.heap s.heap [] := va_S.rf
  have hl := lv_entry ([.ref mx, .int p1, .int p2, .int p3]) (n := 8) (Nat.le_of_ble_eq_true rfl)
  rw [lg_entry_eq]
  generalize (lg_sl ([.ref mx, .int p1, .int p2, .int p3]) ++ List.replicate (8 - (lg_sl ([.ref mx, .int p1, .int p2, .int p3])).length) Slot.unset).toArray = ls at hl ⊢
  have hl : lv_has ls 8 [(0, .ref mx), (1, .int p1), (2, .int p2), (3, .int p3)] := hl
  refine lv_aload_n hx hb dX7_otherwise_0 rfl (lv_at hl 0 rfl) ?_
  refine lv_iload_n hx hb dX7_otherwise_1 rfl (lv_at hl 1 rfl) ?_
  refine lv_iload_n hx hb dX7_otherwise_2 rfl (lv_at hl 2 rfl) ?_
  have hPc := hP.sub (ws' := [(mx, .inr (7, [.ref dr, .ref th, .ref bk, .ref wt, .ref tt, .ref lh, .ref la, .int 0, .long 0, .long 1])), (dr, .inr (2, [.ref dp, .ref dc, .int 0]))]) [0, 1] rfl
  refine va_calli (va_runV (As := [.int p1, .int p2]) (rest := []) ⟨hx, hb, hml, hown, hts⟩ (mz_areTwo l dC dI cI cJ cZ mx dr th bk wt tt lh la dp dc p1 p2 s.heap ) (cwV 2 hts gX7_otherwise_X7_areTwo rfl rfl rfl (by decide +kernel) ⟨Nat.le_of_ble_eq_true rfl, Nat.le_of_ble_eq_true rfl⟩) ⟨fun a U g mk q => mz_blP q, va_recv hK hPc (ci := 7) (q0 := 0) rfl rfl, fun U hU hW => ⟨rfl, hU, hPc, va_K.moved hW.alike hK, mz_nw hW hN⟩⟩ rfl rfl hl.1 rfl (lv_room (Nat.le_of_ble_eq_true rfl)) dX7_otherwise_3 ⟨Nat.le_of_ble_eq_true rfl, Nat.le_of_ble_eq_true rfl⟩) hS (fun q _ h => h.elim) (fun q h => h.elim) (fun r u t H1 locs ht hvm hw hB hz1 hk1 hS => ?_)
  have hE : s.heap = H1 := hB.symm.trans ht
  subst hE
  obtain rfl : r = 0 := hw
  refine lv_if_eq (tgt := 18) hx hb dX7_otherwise_6 (by decide) (fun _ => ?_) (fun c_6 => absurd (by decide +kernel) c_6)
  refine lv_ldc2 hx hb hown (hts (.constantLong RX7 121 (-1)) (by decide +kernel)) dX7_otherwise_18 ?_
  refine W.widen (k := 0) (n := 0) (Nat.le_of_ble_eq_true rfl) (Nat.le_of_ble_eq_true rfl) ?_
  exact W.lret (v := (-1)) hx hb hr (fun t ht hW => ⟨⟨(-1), (), rfl, rfl, ht⟩, hS.F ht⟩) hS.2.2 dX7_otherwise_21
set_option maxHeartbeats 1000000 in
set_option maxRecDepth 100000 in
theorem mz_above (l : Launch) (dC : Nat → ClassId) (dI : Nat → Nat → Nat) (cI cJ cZ : ClassId) (mx : Nat) (dr : Nat) (th : Nat) (bk : Nat) (wt : Nat) (tt : Nat) (lh : Nat) (la : Nat) (dp : Nat) (dc : Nat) (Hq : Heap)  : Met l yX7_above wsX7_above ({ frames := 0, cells := 0, slots := 0, locals := 0 }) (va_Pc [.ref mx] (fun U => U.heap = Hq ∧ va_P (dC, dI) vwCl [(mx, .inr (7, [.ref dr, .ref th, .ref bk, .ref wt, .ref tt, .ref lh, .ref la, .int 0, .long 0, .long 1])), (dr, .inr (2, [.ref dp, .ref dc, .int 0]))] Hq ∧ va_K (dC, dI) vwCl [(cI, FieldType.int), (cJ, FieldType.long), (cZ, FieldType.boolean)] U ∧ mz_N U)) (va_Ql (fun (r : Int64) (_ : Unit) => r = 0) (fun _ t => t.heap = Hq) (fun _ : Nat => False)) 0 0 (fun _ : Nat => False) := by
  refine Met.ofW (cc := cX7_above) (maxL := 1) (ret := (some .long)) (by decide) rfl ?_
  intro p e s m args below meth c s₁ B hml hv
  obtain ⟨rfl, hH, hP, hK, hN⟩ := hv
  subst hH
  have hx := B.exec
  have hb := B.bytes
  have hr := B.returns
  have hts := atoms_spec (ws := wsX7_above) B.pre
  have hown : s.vm.findClass RX7 = some m.cls := findClass_of_methodNamed B.named
  have hlocks := B.notSynchronized
  have hS : va_S (fun _ : Nat => False) s.heap s.heap [] := va_S.rf
  have hiX7 : ∀ w ∈ u_ws RX7 TX7 10, w ∈ wsX7_above := by decide +kernel
  have hl := lv_entry ([.ref mx]) (n := 1) (Nat.le_of_ble_eq_true rfl)
  rw [lg_entry_eq]
  generalize (lg_sl ([.ref mx]) ++ List.replicate (1 - (lg_sl ([.ref mx])).length) Slot.unset).toArray = ls at hl ⊢
  have hl : lv_has ls 1 [(0, .ref mx)] := hl
  refine lv_aload_n hx hb dX7_above_0 rfl (lv_at hl 0 rfl) ?_
  refine va_get (D := (dC, dI)) (ci := 7) (v := .long 0) (C := RX7) (T := TX7) (N := 10) hx hb hts hiX7 hown hK hP 0 rfl rfl 8 (by decide) (hts (.fieldLink RX7 58 "MadeItSo" "aboveLine" "J") (by decide +kernel)) (fun _ h9 => h9) rfl dX7_above_1 ?_
  refine W.widen (k := 0) (n := 0) (Nat.le_of_ble_eq_true rfl) (Nat.le_of_ble_eq_true rfl) ?_
  exact W.lret (v := 0) hx hb hr (fun t ht hW => ⟨⟨0, (), rfl, rfl, ht⟩, hS.F ht⟩) hS.2.2 dX7_above_4
set_option maxHeartbeats 1000000 in
set_option maxRecDepth 100000 in
theorem mz_below (l : Launch) (dC : Nat → ClassId) (dI : Nat → Nat → Nat) (cI cJ cZ : ClassId) (mx : Nat) (dr : Nat) (th : Nat) (bk : Nat) (wt : Nat) (tt : Nat) (lh : Nat) (la : Nat) (dp : Nat) (dc : Nat) (Hq : Heap)  : Met l yX7_below wsX7_below ({ frames := 0, cells := 0, slots := 0, locals := 0 }) (va_Pc [.ref mx] (fun U => U.heap = Hq ∧ va_P (dC, dI) vwCl [(mx, .inr (7, [.ref dr, .ref th, .ref bk, .ref wt, .ref tt, .ref lh, .ref la, .int 0, .long 0, .long 1])), (dr, .inr (2, [.ref dp, .ref dc, .int 0]))] Hq ∧ va_K (dC, dI) vwCl [(cI, FieldType.int), (cJ, FieldType.long), (cZ, FieldType.boolean)] U ∧ mz_N U)) (va_Ql (fun (r : Int64) (_ : Unit) => r = 1) (fun _ t => t.heap = Hq) (fun _ : Nat => False)) 0 0 (fun _ : Nat => False) := by
  refine Met.ofW (cc := cX7_below) (maxL := 1) (ret := (some .long)) (by decide) rfl ?_
  intro p e s m args below meth c s₁ B hml hv
  obtain ⟨rfl, hH, hP, hK, hN⟩ := hv
  subst hH
  have hx := B.exec
  have hb := B.bytes
  have hr := B.returns
  have hts := atoms_spec (ws := wsX7_below) B.pre
  have hown : s.vm.findClass RX7 = some m.cls := findClass_of_methodNamed B.named
  have hlocks := B.notSynchronized
  have hS : va_S (fun _ : Nat => False) s.heap s.heap [] := va_S.rf
  have hiX7 : ∀ w ∈ u_ws RX7 TX7 10, w ∈ wsX7_below := by decide +kernel
  have hl := lv_entry ([.ref mx]) (n := 1) (Nat.le_of_ble_eq_true rfl)
  rw [lg_entry_eq]
  generalize (lg_sl ([.ref mx]) ++ List.replicate (1 - (lg_sl ([.ref mx])).length) Slot.unset).toArray = ls at hl ⊢
  have hl : lv_has ls 1 [(0, .ref mx)] := hl
  refine lv_aload_n hx hb dX7_below_0 rfl (lv_at hl 0 rfl) ?_
  refine va_get (D := (dC, dI)) (ci := 7) (v := .long 1) (C := RX7) (T := TX7) (N := 10) hx hb hts hiX7 hown hK hP 0 rfl rfl 9 (by decide) (hts (.fieldLink RX7 62 "MadeItSo" "belowLine" "J") (by decide +kernel)) (fun _ h9 => h9) rfl dX7_below_1 ?_
  refine W.widen (k := 0) (n := 0) (Nat.le_of_ble_eq_true rfl) (Nat.le_of_ble_eq_true rfl) ?_
  exact W.lret (v := 1) hx hb hr (fun t ht hW => ⟨⟨1, (), rfl, rfl, ht⟩, hS.F ht⟩) hS.2.2 dX7_below_4
set_option maxHeartbeats 1000000 in
set_option maxRecDepth 100000 in
theorem mz_draw (l : Launch) (dC : Nat → ClassId) (dI : Nat → Nat → Nat) (cI cJ cZ : ClassId) (mx : Nat) (dr : Nat) (th : Nat) (bk : Nat) (wt : Nat) (tt : Nat) (lh : Nat) (la : Nat) (dp : Nat) (dc : Nat) (p1 : Int32) (p2 : Int32) (Hq : Heap)  : Met l yX7_draw wsX7_draw ({ frames := 3, cells := 0, slots := 0, locals := 62 }) (va_Pc [.ref mx, .int p1, .int p2] (fun U => U.heap = Hq ∧ va_P (dC, dI) vwCl [(mx, .inr (7, [.ref dr, .ref th, .ref bk, .ref wt, .ref tt, .ref lh, .ref la, .int 0, .long 0, .long 1])), (dr, .inr (2, [.ref dp, .ref dc, .int 0]))] Hq ∧ va_K (dC, dI) vwCl [(cI, FieldType.int), (cJ, FieldType.long), (cZ, FieldType.boolean)] U ∧ mz_N U)) (va_Qi (fun (r : Int32) (_ : Unit) => r = (if p2 = 0 then 0 else (-1))) (fun _ t => t.heap = Hq) (fun _ : Nat => False)) 0 0 (fun _ : Nat => False) := by
  refine Met.ofW (cc := cX7_draw) (maxL := 8) (ret := (some .int)) (by decide) rfl ?_
  intro p e s m args below meth c s₁ B hml hv
  obtain ⟨rfl, hH, hP, hK, hN⟩ := hv
  subst hH
  have hx := B.exec
  have hb := B.bytes
  have hr := B.returns
  have hts := atoms_spec (ws := wsX7_draw) B.pre
  have hown : s.vm.findClass RX7 = some m.cls := findClass_of_methodNamed B.named
  have hlocks := B.notSynchronized
  have hS : va_S (fun _ : Nat => False) s.heap s.heap [] := va_S.rf
  have hiX7 : ∀ w ∈ u_ws RX7 TX7 10, w ∈ wsX7_draw := by decide +kernel
  have hl := lv_entry ([.ref mx, .int p1, .int p2]) (n := 8) (Nat.le_of_ble_eq_true rfl)
  rw [lg_entry_eq]
  generalize (lg_sl ([.ref mx, .int p1, .int p2]) ++ List.replicate (8 - (lg_sl ([.ref mx, .int p1, .int p2])).length) Slot.unset).toArray = ls at hl ⊢
  have hl : lv_has ls 8 [(0, .ref mx), (1, .int p1), (2, .int p2)] := hl
  refine lv_aload_n hx hb dX7_draw_0 rfl (lv_at hl 0 rfl) ?_
  refine lv_iload_n hx hb dX7_draw_1 rfl (lv_at hl 2 rfl) ?_
  by_cases hz_2 : p2 = 0
  · subst hz_2
    have hPc := hP.sub (ws' := [(mx, .inr (7, [.ref dr, .ref th, .ref bk, .ref wt, .ref tt, .ref lh, .ref la, .int 0, .long 0, .long 1])), (dr, .inr (2, [.ref dp, .ref dc, .int 0]))]) [0, 1] rfl
    refine va_calli (va_runV (As := [.int 0]) (rest := []) ⟨hx, hb, hml, hown, hts⟩ (mz_isSetting_0 l dC dI cI cJ cZ mx dr th bk wt tt lh la dp dc 0 1 s.heap ) (cwV 1 hts gX7_draw_X7_isSetting rfl rfl rfl (by decide +kernel) ⟨Nat.le_of_ble_eq_true rfl, Nat.le_of_ble_eq_true rfl⟩) ⟨fun a U g mk q => mz_blP q, va_recv hK hPc (ci := 7) (q0 := 0) rfl rfl, fun U hU hW => ⟨rfl, hU, hPc, va_K.moved hW.alike hK, mz_nw hW hN⟩⟩ rfl rfl hl.1 rfl (lv_room (Nat.le_of_ble_eq_true rfl)) dX7_draw_2 ⟨Nat.le_of_ble_eq_true rfl, Nat.le_of_ble_eq_true rfl⟩) hS (fun q _ h => h.elim) (fun q h => h.elim) (fun r u t H1 locs ht hvm hw hB hz1 hk1 hS => ?_)
    have hE : s.heap = H1 := hB.symm.trans ht
    subst hE
    obtain rfl : r = 1 := hw
    refine lv_if_ne (tgt := 10) hx hb dX7_draw_5 (by decide) (fun _ => ?_) (fun c_5 => absurd c_5 (by decide +kernel))
    refine lv_iload_n hx hb dX7_draw_10 rfl (lv_at hl 1 rfl) ?_
    refine lv_istore_n (lv' := [(3, .int p1), (0, .ref mx), (1, .int p1), (2, .int 0)]) hx hb dX7_draw_11 rfl hl (by decide) rfl (fun ls hl => ?_)
    refine lv_iconst (v := 0) hx hb dX7_draw_12 (by decide +kernel) ?_
    refine lv_istore (lv' := [(4, .int 0), (3, .int p1), (0, .ref mx), (1, .int p1), (2, .int 0)]) hx hb dX7_draw_13 hl (by decide) rfl (fun ls hl => ?_)
    refine lv_iconst (v := 0) hx hb dX7_draw_15 (by decide +kernel) ?_
    refine lv_istore (lv' := [(5, .int 0), (4, .int 0), (3, .int p1), (0, .ref mx), (1, .int p1), (2, .int 0)]) hx hb dX7_draw_16 hl (by decide) rfl (fun ls hl => ?_)
    refine lv_iconst (v := 0) hx hb dX7_draw_18 (by decide +kernel) ?_
    refine lv_istore (lv' := [(6, .int 0), (5, .int 0), (4, .int 0), (3, .int p1), (0, .ref mx), (1, .int p1), (2, .int 0)]) hx hb dX7_draw_19 hl (by decide) rfl (fun ls hl => ?_)
    refine lv_iload hx hb dX7_draw_21 (lv_at hl 0 rfl) ?_
    refine lv_aload_n hx hb dX7_draw_23 rfl (lv_at hl 4 rfl) ?_
    refine va_get (D := (dC, dI)) (ci := 7) (v := .ref dr) (C := RX7) (T := TX7) (N := 10) hx hb hts hiX7 hown hK hP 0 rfl rfl 0 (by decide) (hts (.fieldLink RX7 12 "MadeItSo" "drawing" "LMadeItSo$Drawing;") (by decide +kernel)) (fun _ h9 => h9) rfl dX7_draw_24 ?_
    have hPc := hP.sub (ws' := [(dr, .inr (2, [.ref dp, .ref dc, .int 0]))]) [1] rfl
    refine va_calli (va_runV (As := []) (rest := [.int 0]) ⟨hx, hb, hml, hown, hts⟩ (mz_Drawing_size l dC dI cI cJ cZ dr dp dc s.heap ) (cwV 0 hts gX7_draw_X2_size rfl rfl rfl (by decide +kernel) ⟨Nat.le_of_ble_eq_true rfl, Nat.le_of_ble_eq_true rfl⟩) ⟨fun a U g mk q => mz_blP q, va_recv hK hPc (ci := 2) (q0 := 0) rfl rfl, fun U hU hW => ⟨rfl, hU, hPc, va_K.moved hW.alike hK, mz_nw hW hN⟩⟩ rfl rfl hl.1 rfl (lv_room (Nat.le_of_ble_eq_true rfl)) dX7_draw_27 ⟨Nat.le_of_ble_eq_true rfl, Nat.le_of_ble_eq_true rfl⟩) hS (fun q _ h => h.elim) (fun q h => h.elim) (fun r u t H1 locs ht hvm hw hB hz1 hk1 hS => ?_)
    have hE : s.heap = H1 := hB.symm.trans ht
    subst hE
    obtain rfl : r = 0 := hw
    refine lv_icmp_ge (tgt := 114) hx hb dX7_draw_30 (by decide) (fun _ => ?_) (fun c_30 => absurd (by decide +kernel) c_30)
    refine lv_iload hx hb dX7_draw_114 (lv_at hl 1 rfl) ?_
    refine W.widen (k := 0) (n := 0) (Nat.le_of_ble_eq_true rfl) (Nat.le_of_ble_eq_true rfl) ?_
    exact W.iret (v := 0) hx hb hr (fun t ht hW => ⟨⟨0, (), rfl, by simp [*], ht⟩, hS.F ht⟩) hS.2.2 dX7_draw_116
  · skip
    have hPc := hP.sub (ws' := [(mx, .inr (7, [.ref dr, .ref th, .ref bk, .ref wt, .ref tt, .ref lh, .ref la, .int 0, .long 0, .long 1])), (dr, .inr (2, [.ref dp, .ref dc, .int 0]))]) [0, 1] rfl
    refine va_calli (va_runV (As := [.int p2]) (rest := []) ⟨hx, hb, hml, hown, hts⟩ (mz_isSetting_n l dC dI cI cJ cZ mx dr th bk wt tt lh la dp dc 0 1 p2 s.heap hz_2) (cwV 1 hts gX7_draw_X7_isSetting rfl rfl rfl (by decide +kernel) ⟨Nat.le_of_ble_eq_true rfl, Nat.le_of_ble_eq_true rfl⟩) ⟨fun a U g mk q => mz_blP q, va_recv hK hPc (ci := 7) (q0 := 0) rfl rfl, fun U hU hW => ⟨rfl, hU, hPc, va_K.moved hW.alike hK, mz_nw hW hN⟩⟩ rfl rfl hl.1 rfl (lv_room (Nat.le_of_ble_eq_true rfl)) dX7_draw_2 ⟨Nat.le_of_ble_eq_true rfl, Nat.le_of_ble_eq_true rfl⟩) hS (fun q _ h => h.elim) (fun q h => h.elim) (fun r u t H1 locs ht hvm hw hB hz1 hk1 hS => ?_)
    have hE : s.heap = H1 := hB.symm.trans ht
    subst hE
    obtain rfl : r = 0 := hw
    refine lv_if_ne (tgt := 10) hx hb dX7_draw_5 (by decide) (fun c_5 => absurd (by decide +kernel) c_5) (fun _ => ?_)
    refine lv_iconst (v := (-1)) hx hb dX7_draw_8 (by decide +kernel) ?_
    refine W.widen (k := 0) (n := 0) (Nat.le_of_ble_eq_true rfl) (Nat.le_of_ble_eq_true rfl) ?_
    exact W.iret (v := (-1)) hx hb hr (fun t ht hW => ⟨⟨(-1), (), rfl, by simp [*], ht⟩, hS.F ht⟩) hS.2.2 dX7_draw_9
set_option maxHeartbeats 1000000 in
set_option maxRecDepth 100000 in
theorem mz_count (l : Launch) (dC : Nat → ClassId) (dI : Nat → Nat → Nat) (cI cJ cZ : ClassId) (mx : Nat) (dr : Nat) (th : Nat) (bk : Nat) (wt : Nat) (tt : Nat) (lh : Nat) (la : Nat) (dp : Nat) (dc : Nat) (p1 : Int32) (Hq : Heap)  : Met l yX7_count wsX7_count ({ frames := 1, cells := 0, slots := 0, locals := 22 }) (va_Pc [.ref mx, .int p1] (fun U => U.heap = Hq ∧ va_P (dC, dI) vwCl [(mx, .inr (7, [.ref dr, .ref th, .ref bk, .ref wt, .ref tt, .ref lh, .ref la, .int 0, .long 0, .long 1])), (dr, .inr (2, [.ref dp, .ref dc, .int 0]))] Hq ∧ va_K (dC, dI) vwCl [(cI, FieldType.int), (cJ, FieldType.long), (cZ, FieldType.boolean)] U ∧ mz_N U)) (va_Qi (fun (r : Int32) (_ : Unit) => r = (if p1 = 0 then 0 else if p1 = 1 then 0 else if p1 = 2 then 0 else (-1))) (fun _ t => t.heap = Hq) (fun _ : Nat => False)) 0 0 (fun _ : Nat => False) := by
  refine Met.ofW (cc := cX7_count) (maxL := 2) (ret := (some .int)) (by decide) rfl ?_
  intro p e s m args below meth c s₁ B hml hv
  obtain ⟨rfl, hH, hP, hK, hN⟩ := hv
  subst hH
  have hx := B.exec
  have hb := B.bytes
  have hr := B.returns
  have hts := atoms_spec (ws := wsX7_count) B.pre
  have hown : s.vm.findClass RX7 = some m.cls := findClass_of_methodNamed B.named
  have hlocks := B.notSynchronized
  have hS : va_S (fun _ : Nat => False) s.heap s.heap [] := va_S.rf
  have hiX7 : ∀ w ∈ u_ws RX7 TX7 10, w ∈ wsX7_count := by decide +kernel
  have hl := lv_entry ([.ref mx, .int p1]) (n := 2) (Nat.le_of_ble_eq_true rfl)
  rw [lg_entry_eq]
  generalize (lg_sl ([.ref mx, .int p1]) ++ List.replicate (2 - (lg_sl ([.ref mx, .int p1])).length) Slot.unset).toArray = ls at hl ⊢
  have hl : lv_has ls 2 [(0, .ref mx), (1, .int p1)] := hl
  refine lv_iload_n hx hb dX7_count_0 rfl (lv_at hl 1 rfl) ?_
  by_cases hs_0 : p1 = 0
  · subst hs_0
    refine lv_tableIn (tgt := 28) (off := 27) hx hb dX7_count_1 (by decide +kernel) (by decide +kernel) (by decide +kernel) (by decide) ?_
    refine lv_aload_n hx hb dX7_count_28 rfl (lv_at hl 0 rfl) ?_
    refine va_get (D := (dC, dI)) (ci := 7) (v := .ref dr) (C := RX7) (T := TX7) (N := 10) hx hb hts hiX7 hown hK hP 0 rfl rfl 0 (by decide) (hts (.fieldLink RX7 12 "MadeItSo" "drawing" "LMadeItSo$Drawing;") (by decide +kernel)) (fun _ h9 => h9) rfl dX7_count_29 ?_
    have hPc := hP.sub (ws' := [(dr, .inr (2, [.ref dp, .ref dc, .int 0]))]) [1] rfl
    refine va_calli (va_runV (As := []) (rest := []) ⟨hx, hb, hml, hown, hts⟩ (mz_Drawing_size l dC dI cI cJ cZ dr dp dc s.heap ) (cwV 0 hts gX7_count_X2_size rfl rfl rfl (by decide +kernel) ⟨Nat.le_of_ble_eq_true rfl, Nat.le_of_ble_eq_true rfl⟩) ⟨fun a U g mk q => mz_blP q, va_recv hK hPc (ci := 2) (q0 := 0) rfl rfl, fun U hU hW => ⟨rfl, hU, hPc, va_K.moved hW.alike hK, mz_nw hW hN⟩⟩ rfl rfl hl.1 rfl (lv_room (Nat.le_of_ble_eq_true rfl)) dX7_count_32 ⟨Nat.le_of_ble_eq_true rfl, Nat.le_of_ble_eq_true rfl⟩) hS (fun q _ h => h.elim) (fun q h => h.elim) (fun r u t H1 locs ht hvm hw hB hz1 hk1 hS => ?_)
    have hE : s.heap = H1 := hB.symm.trans ht
    subst hE
    obtain rfl : r = 0 := hw
    refine W.widen (k := 0) (n := 0) (Nat.le_of_ble_eq_true rfl) (Nat.le_of_ble_eq_true rfl) ?_
    exact W.iret (v := 0) hx hb hr (fun t ht hW => ⟨⟨0, (), rfl, by simp [*], ht⟩, hS.F ht⟩) hS.2.2 dX7_count_35
  by_cases hs_1 : p1 = 1
  · subst hs_1
    refine lv_tableIn (tgt := 36) (off := 35) hx hb dX7_count_1 (by decide +kernel) (by decide +kernel) (by decide +kernel) (by decide) ?_
    refine lv_aload_n hx hb dX7_count_36 rfl (lv_at hl 0 rfl) ?_
    refine va_get (D := (dC, dI)) (ci := 7) (v := .ref dr) (C := RX7) (T := TX7) (N := 10) hx hb hts hiX7 hown hK hP 0 rfl rfl 0 (by decide) (hts (.fieldLink RX7 12 "MadeItSo" "drawing" "LMadeItSo$Drawing;") (by decide +kernel)) (fun _ h9 => h9) rfl dX7_count_37 ?_
    have hPc := hP.sub (ws' := [(dr, .inr (2, [.ref dp, .ref dc, .int 0]))]) [1] rfl
    refine va_calli (va_runV (As := []) (rest := []) ⟨hx, hb, hml, hown, hts⟩ (mz_Drawing_arrows l dC dI cI cJ cZ dr dp dc s.heap ) (cwV 0 hts gX7_count_X2_arrows rfl rfl rfl (by decide +kernel) ⟨Nat.le_of_ble_eq_true rfl, Nat.le_of_ble_eq_true rfl⟩) ⟨fun a U g mk q => mz_blP q, va_recv hK hPc (ci := 2) (q0 := 0) rfl rfl, fun U hU hW => ⟨rfl, hU, hPc, va_K.moved hW.alike hK, mz_nw hW hN⟩⟩ rfl rfl hl.1 rfl (lv_room (Nat.le_of_ble_eq_true rfl)) dX7_count_40 ⟨Nat.le_of_ble_eq_true rfl, Nat.le_of_ble_eq_true rfl⟩) hS (fun q _ h => h.elim) (fun q h => h.elim) (fun r u t H1 locs ht hvm hw hB hz1 hk1 hS => ?_)
    have hE : s.heap = H1 := hB.symm.trans ht
    subst hE
    obtain rfl : r = 0 := hw
    refine W.widen (k := 0) (n := 0) (Nat.le_of_ble_eq_true rfl) (Nat.le_of_ble_eq_true rfl) ?_
    exact W.iret (v := 0) hx hb hr (fun t ht hW => ⟨⟨0, (), rfl, by simp [*], ht⟩, hS.F ht⟩) hS.2.2 dX7_count_43
  by_cases hs_2 : p1 = 2
  · subst hs_2
    refine lv_tableIn (tgt := 44) (off := 43) hx hb dX7_count_1 (by decide +kernel) (by decide +kernel) (by decide +kernel) (by decide) ?_
    refine lv_aload_n hx hb dX7_count_44 rfl (lv_at hl 0 rfl) ?_
    refine va_get (D := (dC, dI)) (ci := 7) (v := .int 0) (C := RX7) (T := TX7) (N := 10) hx hb hts hiX7 hown hK hP 0 rfl rfl 7 (by decide) (hts (.fieldLink RX7 54 "MadeItSo" "seenHeap" "I") (by decide +kernel)) (fun _ h9 => h9) rfl dX7_count_45 ?_
    refine W.widen (k := 0) (n := 0) (Nat.le_of_ble_eq_true rfl) (Nat.le_of_ble_eq_true rfl) ?_
    exact W.iret (v := 0) hx hb hr (fun t ht hW => ⟨⟨0, (), rfl, by simp [*], ht⟩, hS.F ht⟩) hS.2.2 dX7_count_48
  refine lv_tableOut (tgt := 49) hx hb dX7_count_1 (mz_sw hs_0 hs_1 hs_2) (by decide) ?_
  refine lv_iconst (v := (-1)) hx hb dX7_count_49 (by decide +kernel) ?_
  refine W.widen (k := 0) (n := 0) (Nat.le_of_ble_eq_true rfl) (Nat.le_of_ble_eq_true rfl) ?_
  exact W.iret (v := (-1)) hx hb hr (fun t ht hW => ⟨⟨(-1), (), rfl, by simp [*], ht⟩, hS.F ht⟩) hS.2.2 dX7_count_50
set_option maxHeartbeats 1000000 in
set_option maxRecDepth 100000 in
theorem mz_bars (l : Launch) (dC : Nat → ClassId) (dI : Nat → Nat → Nat) (cI cJ cZ : ClassId) (mx : Nat) (dr : Nat) (th : Nat) (bk : Nat) (wt : Nat) (tt : Nat) (lh : Nat) (la : Nat) (dp : Nat) (dc : Nat) (fp : Nat → Int32) (fc : Nat → Int32) (p1 : Int32) (p2 : Int32) (p3 : Int32) (Hq : Heap)  : Met l yX7_bars wsX7_bars ({ frames := 4, cells := 0, slots := 0, locals := 100 }) (va_Pc [.ref mx, .int p1, .int p2, .int p3] (fun U => U.heap = Hq ∧ va_P (dC, dI) vwCl [(mx, .inr (7, [.ref dr, .ref th, .ref bk, .ref wt, .ref tt, .ref lh, .ref la, .int 0, .long 0, .long 1])), (dr, .inr (2, [.ref dp, .ref dc, .int 0])), (dp, .inl (cI, 8, .inl fp)), (dc, .inl (cI, 8, .inl fc))] Hq ∧ va_K (dC, dI) vwCl [(cI, FieldType.int), (cJ, FieldType.long), (cZ, FieldType.boolean)] U ∧ mz_N U)) (va_Qi (fun (r : Int32) (_ : Unit) => r = (if p1 = 0 ∧ p2 = 0 ∧ p3 = 0 then 1 else 0)) (fun _ t => t.heap = Hq) (fun _ : Nat => False)) 0 0 (fun _ : Nat => False) := by
  refine Met.ofW (cc := cX7_bars) (maxL := 4) (ret := (some .boolean)) (by decide) rfl ?_
  intro p e s m args below meth c s₁ B hml hv
  obtain ⟨rfl, hH, hP, hK, hN⟩ := hv
  subst hH
  have hx := B.exec
  have hb := B.bytes
  have hr := B.returns
  have hts := atoms_spec (ws := wsX7_bars) B.pre
  have hown : s.vm.findClass RX7 = some m.cls := findClass_of_methodNamed B.named
  have hlocks := B.notSynchronized
  have hS : va_S (fun _ : Nat => False) s.heap s.heap [] := va_S.rf
  have hiX7 : ∀ w ∈ u_ws RX7 TX7 10, w ∈ wsX7_bars := by decide +kernel
  have hl := lv_entry ([.ref mx, .int p1, .int p2, .int p3]) (n := 4) (Nat.le_of_ble_eq_true rfl)
  rw [lg_entry_eq]
  generalize (lg_sl ([.ref mx, .int p1, .int p2, .int p3]) ++ List.replicate (4 - (lg_sl ([.ref mx, .int p1, .int p2, .int p3])).length) Slot.unset).toArray = ls at hl ⊢
  have hl : lv_has ls 4 [(0, .ref mx), (1, .int p1), (2, .int p2), (3, .int p3)] := hl
  refine lv_aload_n hx hb dX7_bars_0 rfl (lv_at hl 0 rfl) ?_
  refine lv_iload_n hx hb dX7_bars_1 rfl (lv_at hl 1 rfl) ?_
  by_cases hz_2 : p1 = 0
  · subst hz_2
    have hPc := hP.sub (ws' := [(mx, .inr (7, [.ref dr, .ref th, .ref bk, .ref wt, .ref tt, .ref lh, .ref la, .int 0, .long 0, .long 1])), (dr, .inr (2, [.ref dp, .ref dc, .int 0]))]) [0, 1] rfl
    refine va_calli (va_runV (As := [.int 0]) (rest := []) ⟨hx, hb, hml, hown, hts⟩ (mz_isHeap_0 l dC dI cI cJ cZ mx dr th bk wt tt lh la dp dc 0 1 s.heap ) (cwV 1 hts gX7_bars_X7_isHeap rfl rfl rfl (by decide +kernel) ⟨Nat.le_of_ble_eq_true rfl, Nat.le_of_ble_eq_true rfl⟩) ⟨fun a U g mk q => mz_blP q, va_recv hK hPc (ci := 7) (q0 := 0) rfl rfl, fun U hU hW => ⟨rfl, hU, hPc, va_K.moved hW.alike hK, mz_nw hW hN⟩⟩ rfl rfl hl.1 rfl (lv_room (Nat.le_of_ble_eq_true rfl)) dX7_bars_2 ⟨Nat.le_of_ble_eq_true rfl, Nat.le_of_ble_eq_true rfl⟩) hS (fun q _ h => h.elim) (fun q h => h.elim) (fun r u t H1 locs ht hvm hw hB hz1 hk1 hS => ?_)
    have hE : s.heap = H1 := hB.symm.trans ht
    subst hE
    obtain rfl : r = 1 := hw
    refine lv_if_eq (tgt := 24) hx hb dX7_bars_5 (by decide) (fun c_5 => absurd c_5 (by decide +kernel)) (fun _ => ?_)
    refine lv_aload_n hx hb dX7_bars_8 rfl (lv_at hl 0 rfl) ?_
    refine lv_iload_n hx hb dX7_bars_9 rfl (lv_at hl 2 rfl) ?_
    by_cases hz_10 : p2 = 0
    · subst hz_10
      have hPc := hP.sub (ws' := [(mx, .inr (7, [.ref dr, .ref th, .ref bk, .ref wt, .ref tt, .ref lh, .ref la, .int 0, .long 0, .long 1])), (dr, .inr (2, [.ref dp, .ref dc, .int 0]))]) [0, 1] rfl
      refine va_calli (va_runV (As := [.int 0]) (rest := []) ⟨hx, hb, hml, hown, hts⟩ (mz_isHeap_0 l dC dI cI cJ cZ mx dr th bk wt tt lh la dp dc 0 1 s.heap ) (cwV 1 hts gX7_bars_X7_isHeap rfl rfl rfl (by decide +kernel) ⟨Nat.le_of_ble_eq_true rfl, Nat.le_of_ble_eq_true rfl⟩) ⟨fun a U g mk q => mz_blP q, va_recv hK hPc (ci := 7) (q0 := 0) rfl rfl, fun U hU hW => ⟨rfl, hU, hPc, va_K.moved hW.alike hK, mz_nw hW hN⟩⟩ rfl rfl hl.1 rfl (lv_room (Nat.le_of_ble_eq_true rfl)) dX7_bars_10 ⟨Nat.le_of_ble_eq_true rfl, Nat.le_of_ble_eq_true rfl⟩) hS (fun q _ h => h.elim) (fun q h => h.elim) (fun r u t H1 locs ht hvm hw hB hz1 hk1 hS => ?_)
      have hE : s.heap = H1 := hB.symm.trans ht
      subst hE
      obtain rfl : r = 1 := hw
      refine lv_if_eq (tgt := 24) hx hb dX7_bars_13 (by decide) (fun c_13 => absurd c_13 (by decide +kernel)) (fun _ => ?_)
      refine lv_aload_n hx hb dX7_bars_16 rfl (lv_at hl 0 rfl) ?_
      refine lv_iload_n hx hb dX7_bars_17 rfl (lv_at hl 3 rfl) ?_
      by_cases hz_18 : p3 = 0
      · subst hz_18
        have hPc := hP.sub (ws' := [(mx, .inr (7, [.ref dr, .ref th, .ref bk, .ref wt, .ref tt, .ref lh, .ref la, .int 0, .long 0, .long 1])), (dr, .inr (2, [.ref dp, .ref dc, .int 0]))]) [0, 1] rfl
        refine va_calli (va_runV (As := [.int 0]) (rest := []) ⟨hx, hb, hml, hown, hts⟩ (mz_isHeap_0 l dC dI cI cJ cZ mx dr th bk wt tt lh la dp dc 0 1 s.heap ) (cwV 1 hts gX7_bars_X7_isHeap rfl rfl rfl (by decide +kernel) ⟨Nat.le_of_ble_eq_true rfl, Nat.le_of_ble_eq_true rfl⟩) ⟨fun a U g mk q => mz_blP q, va_recv hK hPc (ci := 7) (q0 := 0) rfl rfl, fun U hU hW => ⟨rfl, hU, hPc, va_K.moved hW.alike hK, mz_nw hW hN⟩⟩ rfl rfl hl.1 rfl (lv_room (Nat.le_of_ble_eq_true rfl)) dX7_bars_18 ⟨Nat.le_of_ble_eq_true rfl, Nat.le_of_ble_eq_true rfl⟩) hS (fun q _ h => h.elim) (fun q h => h.elim) (fun r u t H1 locs ht hvm hw hB hz1 hk1 hS => ?_)
        have hE : s.heap = H1 := hB.symm.trans ht
        subst hE
        obtain rfl : r = 1 := hw
        refine lv_if_ne (tgt := 26) hx hb dX7_bars_21 (by decide) (fun _ => ?_) (fun c_21 => absurd c_21 (by decide +kernel))
        refine lv_iload_n hx hb dX7_bars_26 rfl (lv_at hl 1 rfl) ?_
        refine lv_iload_n hx hb dX7_bars_27 rfl (lv_at hl 2 rfl) ?_
        refine lv_iand hx hb dX7_bars_28 ?_
        refine mz_ti (y := 0) (by decide +kernel) ?_
        refine lv_if_ne (tgt := 44) hx hb dX7_bars_29 (by decide) (fun c_29 => absurd (by decide +kernel) c_29) (fun _ => ?_)
        refine lv_iload_n hx hb dX7_bars_32 rfl (lv_at hl 1 rfl) ?_
        refine lv_iload_n hx hb dX7_bars_33 rfl (lv_at hl 3 rfl) ?_
        refine lv_iand hx hb dX7_bars_34 ?_
        refine mz_ti (y := 0) (by decide +kernel) ?_
        refine lv_if_ne (tgt := 44) hx hb dX7_bars_35 (by decide) (fun c_35 => absurd (by decide +kernel) c_35) (fun _ => ?_)
        refine lv_iload_n hx hb dX7_bars_38 rfl (lv_at hl 2 rfl) ?_
        refine lv_iload_n hx hb dX7_bars_39 rfl (lv_at hl 3 rfl) ?_
        refine lv_iand hx hb dX7_bars_40 ?_
        refine mz_ti (y := 0) (by decide +kernel) ?_
        refine lv_if_eq (tgt := 46) hx hb dX7_bars_41 (by decide) (fun _ => ?_) (fun c_41 => absurd (by decide +kernel) c_41)
        refine lv_aload_n hx hb dX7_bars_46 rfl (lv_at hl 0 rfl) ?_
        refine va_get (D := (dC, dI)) (ci := 7) (v := .ref dr) (C := RX7) (T := TX7) (N := 10) hx hb hts hiX7 hown hK hP 0 rfl rfl 0 (by decide) (hts (.fieldLink RX7 12 "MadeItSo" "drawing" "LMadeItSo$Drawing;") (by decide +kernel)) (fun _ h9 => h9) rfl dX7_bars_47 ?_
        refine lv_iload_n hx hb dX7_bars_50 rfl (lv_at hl 1 rfl) ?_
        refine lv_iload_n hx hb dX7_bars_51 rfl (lv_at hl 2 rfl) ?_
        refine lv_iload_n hx hb dX7_bars_52 rfl (lv_at hl 3 rfl) ?_
        have hPc := hP.sub (ws' := [(dr, .inr (2, [.ref dp, .ref dc, .int 0])), (dp, .inl (cI, 8, .inl fp)), (dc, .inl (cI, 8, .inl fc))]) [1, 2, 3] rfl
        refine va_calli (va_runV (As := [.int 0, .int 0, .int 0]) (rest := []) ⟨hx, hb, hml, hown, hts⟩ (mz_barred0 l dC dI cI cJ cZ dr dp dc fp fc s.heap ) (cwV 3 hts gX7_bars_X2_barred rfl rfl rfl (by decide +kernel) ⟨Nat.le_of_ble_eq_true rfl, Nat.le_of_ble_eq_true rfl⟩) ⟨fun a U g mk q => mz_blP q, va_recv hK hPc (ci := 2) (q0 := 0) rfl rfl, fun U hU hW => ⟨rfl, hU, hPc, va_K.moved hW.alike hK, mz_nw hW hN⟩⟩ rfl rfl hl.1 rfl (lv_room (Nat.le_of_ble_eq_true rfl)) dX7_bars_53 ⟨Nat.le_of_ble_eq_true rfl, Nat.le_of_ble_eq_true rfl⟩) hS (fun q _ h => h.elim) (fun q h => h.elim) (fun r u t H1 locs ht hvm hw hB hz1 hk1 hS => ?_)
        have hE : s.heap = H1 := hB.symm.trans ht
        subst hE
        obtain rfl : r = 1 := hw
        refine W.widen (k := 0) (n := 0) (Nat.le_of_ble_eq_true rfl) (Nat.le_of_ble_eq_true rfl) ?_
        exact W.zret (v := 1) hx hb hr (mz_nz (by decide +kernel)) (fun t ht hW => ⟨⟨1, (), rfl, by simp [*], ht⟩, hS.F ht⟩) hS.2.2 dX7_bars_56
      · skip
        have hPc := hP.sub (ws' := [(mx, .inr (7, [.ref dr, .ref th, .ref bk, .ref wt, .ref tt, .ref lh, .ref la, .int 0, .long 0, .long 1])), (dr, .inr (2, [.ref dp, .ref dc, .int 0]))]) [0, 1] rfl
        refine va_calli (va_runV (As := [.int p3]) (rest := []) ⟨hx, hb, hml, hown, hts⟩ (mz_isHeap_n l dC dI cI cJ cZ mx dr th bk wt tt lh la dp dc 0 1 p3 s.heap hz_18) (cwV 1 hts gX7_bars_X7_isHeap rfl rfl rfl (by decide +kernel) ⟨Nat.le_of_ble_eq_true rfl, Nat.le_of_ble_eq_true rfl⟩) ⟨fun a U g mk q => mz_blP q, va_recv hK hPc (ci := 7) (q0 := 0) rfl rfl, fun U hU hW => ⟨rfl, hU, hPc, va_K.moved hW.alike hK, mz_nw hW hN⟩⟩ rfl rfl hl.1 rfl (lv_room (Nat.le_of_ble_eq_true rfl)) dX7_bars_18 ⟨Nat.le_of_ble_eq_true rfl, Nat.le_of_ble_eq_true rfl⟩) hS (fun q _ h => h.elim) (fun q h => h.elim) (fun r u t H1 locs ht hvm hw hB hz1 hk1 hS => ?_)
        have hE : s.heap = H1 := hB.symm.trans ht
        subst hE
        obtain rfl : r = 0 := hw
        refine lv_if_ne (tgt := 26) hx hb dX7_bars_21 (by decide) (fun c_21 => absurd (by decide +kernel) c_21) (fun _ => ?_)
        refine lv_iconst (v := 0) hx hb dX7_bars_24 (by decide +kernel) ?_
        refine W.widen (k := 0) (n := 0) (Nat.le_of_ble_eq_true rfl) (Nat.le_of_ble_eq_true rfl) ?_
        exact W.zret (v := 0) hx hb hr (mz_nz (by decide +kernel)) (fun t ht hW => ⟨⟨0, (), rfl, by simp [*], ht⟩, hS.F ht⟩) hS.2.2 dX7_bars_25
    · skip
      have hPc := hP.sub (ws' := [(mx, .inr (7, [.ref dr, .ref th, .ref bk, .ref wt, .ref tt, .ref lh, .ref la, .int 0, .long 0, .long 1])), (dr, .inr (2, [.ref dp, .ref dc, .int 0]))]) [0, 1] rfl
      refine va_calli (va_runV (As := [.int p2]) (rest := []) ⟨hx, hb, hml, hown, hts⟩ (mz_isHeap_n l dC dI cI cJ cZ mx dr th bk wt tt lh la dp dc 0 1 p2 s.heap hz_10) (cwV 1 hts gX7_bars_X7_isHeap rfl rfl rfl (by decide +kernel) ⟨Nat.le_of_ble_eq_true rfl, Nat.le_of_ble_eq_true rfl⟩) ⟨fun a U g mk q => mz_blP q, va_recv hK hPc (ci := 7) (q0 := 0) rfl rfl, fun U hU hW => ⟨rfl, hU, hPc, va_K.moved hW.alike hK, mz_nw hW hN⟩⟩ rfl rfl hl.1 rfl (lv_room (Nat.le_of_ble_eq_true rfl)) dX7_bars_10 ⟨Nat.le_of_ble_eq_true rfl, Nat.le_of_ble_eq_true rfl⟩) hS (fun q _ h => h.elim) (fun q h => h.elim) (fun r u t H1 locs ht hvm hw hB hz1 hk1 hS => ?_)
      have hE : s.heap = H1 := hB.symm.trans ht
      subst hE
      obtain rfl : r = 0 := hw
      refine lv_if_eq (tgt := 24) hx hb dX7_bars_13 (by decide) (fun _ => ?_) (fun c_13 => absurd (by decide +kernel) c_13)
      refine lv_iconst (v := 0) hx hb dX7_bars_24 (by decide +kernel) ?_
      refine W.widen (k := 0) (n := 0) (Nat.le_of_ble_eq_true rfl) (Nat.le_of_ble_eq_true rfl) ?_
      exact W.zret (v := 0) hx hb hr (mz_nz (by decide +kernel)) (fun t ht hW => ⟨⟨0, (), rfl, by simp [*], ht⟩, hS.F ht⟩) hS.2.2 dX7_bars_25
  · skip
    have hPc := hP.sub (ws' := [(mx, .inr (7, [.ref dr, .ref th, .ref bk, .ref wt, .ref tt, .ref lh, .ref la, .int 0, .long 0, .long 1])), (dr, .inr (2, [.ref dp, .ref dc, .int 0]))]) [0, 1] rfl
    refine va_calli (va_runV (As := [.int p1]) (rest := []) ⟨hx, hb, hml, hown, hts⟩ (mz_isHeap_n l dC dI cI cJ cZ mx dr th bk wt tt lh la dp dc 0 1 p1 s.heap hz_2) (cwV 1 hts gX7_bars_X7_isHeap rfl rfl rfl (by decide +kernel) ⟨Nat.le_of_ble_eq_true rfl, Nat.le_of_ble_eq_true rfl⟩) ⟨fun a U g mk q => mz_blP q, va_recv hK hPc (ci := 7) (q0 := 0) rfl rfl, fun U hU hW => ⟨rfl, hU, hPc, va_K.moved hW.alike hK, mz_nw hW hN⟩⟩ rfl rfl hl.1 rfl (lv_room (Nat.le_of_ble_eq_true rfl)) dX7_bars_2 ⟨Nat.le_of_ble_eq_true rfl, Nat.le_of_ble_eq_true rfl⟩) hS (fun q _ h => h.elim) (fun q h => h.elim) (fun r u t H1 locs ht hvm hw hB hz1 hk1 hS => ?_)
    have hE : s.heap = H1 := hB.symm.trans ht
    subst hE
    obtain rfl : r = 0 := hw
    refine lv_if_eq (tgt := 24) hx hb dX7_bars_5 (by decide) (fun _ => ?_) (fun c_5 => absurd (by decide +kernel) c_5)
    refine lv_iconst (v := 0) hx hb dX7_bars_24 (by decide +kernel) ?_
    refine W.widen (k := 0) (n := 0) (Nat.le_of_ble_eq_true rfl) (Nat.le_of_ble_eq_true rfl) ?_
    exact W.zret (v := 0) hx hb hr (mz_nz (by decide +kernel)) (fun t ht hW => ⟨⟨0, (), rfl, by simp [*], ht⟩, hS.F ht⟩) hS.2.2 dX7_bars_25
set_option maxHeartbeats 1000000 in
set_option maxRecDepth 100000 in
theorem mz_thing (l : Launch) (dC : Nat → ClassId) (dI : Nat → Nat → Nat) (cI cJ cZ : ClassId) (mx : Nat) (dr : Nat) (th : Nat) (bk : Nat) (wt : Nat) (tt : Nat) (lh : Nat) (la : Nat) (dp : Nat) (dc : Nat) (bp : Nat) (fb : Nat → Int32) (p1 : Int32) (sz : Nat)  : Met l yX7_thing wsX7_thing ({ frames := 1, cells := 0, slots := 0, locals := 22 }) (va_Pc [.ref mx, .int p1] (fun U => U.heap.size = sz ∧ va_P (dC, dI) vwCl [(mx, .inr (7, [.ref dr, .ref th, .ref bk, .ref wt, .ref tt, .ref lh, .ref la, .int 0, .long 0, .long 1])), (dr, .inr (2, [.ref dp, .ref dc, .int 0])), (bk, .inr (1, [.ref bp])), (bp, .inl (cI, 1024, .inl fb))] U.heap ∧ va_K (dC, dI) vwCl [(cI, FieldType.int), (cJ, FieldType.long), (cZ, FieldType.boolean)] U ∧ va_D (fun _ => True) [(mx, .inr (7, [.ref dr, .ref th, .ref bk, .ref wt, .ref tt, .ref lh, .ref la, .int 0, .long 0, .long 1])), (dr, .inr (2, [.ref dp, .ref dc, .int 0])), (bk, .inr (1, [.ref bp])), (bp, .inl (cI, 1024, .inl fb))] ∧ mz_N U)) (va_Qi (fun (r : Int32) (_ : Unit) => r = 0) (fun _ t => va_P (dC, dI) vwCl [] t.heap ∧ va_D (va_A [(mx, .inr (7, [.ref dr, .ref th, .ref bk, .ref wt, .ref tt, .ref lh, .ref la, .int 0, .long 0, .long 1])), (dr, .inr (2, [.ref dp, .ref dc, .int 0])), (bk, .inr (1, [.ref bp])), (bp, .inl (cI, 1024, .inl fb))] sz) []) (va_A [(mx, .inr (7, [.ref dr, .ref th, .ref bk, .ref wt, .ref tt, .ref lh, .ref la, .int 0, .long 0, .long 1])), (dr, .inr (2, [.ref dp, .ref dc, .int 0])), (bk, .inr (1, [.ref bp])), (bp, .inl (cI, 1024, .inl fb))] sz)) 0 0 (va_A [(mx, .inr (7, [.ref dr, .ref th, .ref bk, .ref wt, .ref tt, .ref lh, .ref la, .int 0, .long 0, .long 1])), (dr, .inr (2, [.ref dp, .ref dc, .int 0])), (bk, .inr (1, [.ref bp])), (bp, .inl (cI, 1024, .inl fb))] sz) := by
  refine Met.ofW (cc := cX7_thing) (maxL := 3) (ret := (some .int)) (by decide) rfl ?_
  intro p e s m args below meth c s₁ B hml hv
  obtain ⟨rfl, hsz, hP, hK, hD0, hN⟩ := hv
  subst hsz
  have hx := B.exec
  have hb := B.bytes
  have hr := B.returns
  have hts := atoms_spec (ws := wsX7_thing) B.pre
  have hown : s.vm.findClass RX7 = some m.cls := findClass_of_methodNamed B.named
  have hlocks := B.notSynchronized
  have hD := hD0.self (sz := s.heap.size)
  generalize hAe : va_A [(mx, .inr (7, [.ref dr, .ref th, .ref bk, .ref wt, .ref tt, .ref lh, .ref la, .int 0, .long 0, .long 1])), (dr, .inr (2, [.ref dp, .ref dc, .int 0])), (bk, .inr (1, [.ref bp])), (bp, .inl (cI, 1024, .inl fb))] s.heap.size = A at hD ⊢
  have hA : ∀ q : Nat, s.heap.size ≤ q → A q := fun q h => by rw [← hAe]; exact Or.inr h
  have hS : va_S A s.heap s.heap [] := va_S.rf
  have hiX7 : ∀ w ∈ u_ws RX7 TX7 10, w ∈ wsX7_thing := by decide +kernel
  have hl := lv_entry ([.ref mx, .int p1]) (n := 3) (Nat.le_of_ble_eq_true rfl)
  rw [lg_entry_eq]
  generalize (lg_sl ([.ref mx, .int p1]) ++ List.replicate (3 - (lg_sl ([.ref mx, .int p1])).length) Slot.unset).toArray = ls at hl ⊢
  have hl : lv_has ls 3 [(0, .ref mx), (1, .int p1)] := hl
  refine lv_aload_n hx hb dX7_thing_0 rfl (lv_at hl 0 rfl) ?_
  refine va_get (D := (dC, dI)) (ci := 7) (v := .ref dr) (C := RX7) (T := TX7) (N := 10) hx hb hts hiX7 hown hK hP 0 rfl rfl 0 (by decide) (hts (.fieldLink RX7 12 "MadeItSo" "drawing" "LMadeItSo$Drawing;") (by decide +kernel)) (fun _ h9 => h9) rfl dX7_thing_1 ?_
  have hPc := hP.sub (ws' := [(dr, .inr (2, [.ref dp, .ref dc, .int 0]))]) [1] rfl
  have hDc := hD.sub (ws' := [(dr, .inr (2, [.ref dp, .ref dc, .int 0]))]) [1] (by decide) rfl
  have hFc := va_free (wc := [(dr, .inr (2, [.ref dp, .ref dc, .int 0]))]) hD hS hA [1] rfl
  refine va_calli (va_runV (As := []) (rest := []) ⟨hx, hb, hml, hown, hts⟩ (mz_grow0 l dC dI cI cJ cZ dr dp dc s.heap.size ) (cwV 0 hts gX7_thing_X2_grow rfl rfl rfl (by decide +kernel) ⟨Nat.le_of_ble_eq_true rfl, Nat.le_of_ble_eq_true rfl⟩) ⟨fun a U g mk q => mz_blI q, va_recv hK hPc (ci := 2) (q0 := 0) rfl rfl, fun U hU hW => ⟨rfl, by rw [hU], by rw [hU]; exact hPc, va_K.moved hW.alike hK, hDc.weaken (fun _ _ _ _ => trivial), mz_nw hW hN⟩⟩ rfl rfl hl.1 rfl (lv_room (Nat.le_of_ble_eq_true rfl)) dX7_thing_4 ⟨Nat.le_of_ble_eq_true rfl, Nat.le_of_ble_eq_true rfl⟩) hS (fun q _ h => hFc q h) hFc (fun r u t H1 locs ht hvm hw hB hz1 hk1 hS => ?_)
  obtain ⟨hP1, hD1⟩ := hB
  rw [ht] at hP1
  obtain ⟨hP, hD⟩ := va_join (wr := [(mx, .inr (7, [.ref dr, .ref th, .ref bk, .ref wt, .ref tt, .ref lh, .ref la, .int 0, .long 0, .long 1])), (bk, .inr (1, [.ref bp])), (bp, .inl (cI, 1024, .inl fb))]) (w1 := []) hP hD [1] [0, 2, 3] rfl rfl (by decide) (by decide) hk1 hFc hP1 hD1
  generalize H1 = H at hP hS ⊢
  have hP : va_P (dC, dI) vwCl [(mx, .inr (7, [.ref dr, .ref th, .ref bk, .ref wt, .ref tt, .ref lh, .ref la, .int 0, .long 0, .long 1])), (bk, .inr (1, [.ref bp])), (bp, .inl (cI, 1024, .inl fb))] H := hP
  have hD : va_D A [(mx, .inr (7, [.ref dr, .ref th, .ref bk, .ref wt, .ref tt, .ref lh, .ref la, .int 0, .long 0, .long 1])), (bk, .inr (1, [.ref bp])), (bp, .inl (cI, 1024, .inl fb))] := hD
  obtain rfl : r = 0 := hw
  refine lv_istore_n (lv' := [(2, .int 0), (0, .ref mx), (1, .int p1)]) hx hb dX7_thing_7 rfl hl (by decide) rfl (fun ls hl => ?_)
  refine lv_iload_n hx hb dX7_thing_8 rfl (lv_at hl 0 rfl) ?_
  refine lv_iconst (v := (-1)) hx hb dX7_thing_9 (by decide +kernel) ?_
  refine lv_icmp_ne (tgt := 15) hx hb dX7_thing_10 (by decide) (fun _ => ?_) (fun c_10 => absurd c_10 (by decide +kernel))
  refine lv_aload_n hx hb dX7_thing_15 rfl (lv_at hl 1 rfl) ?_
  refine va_get (D := (dC, dI)) (ci := 7) (v := .ref bk) (C := RX7) (T := TX7) (N := 10) hx hb hts hiX7 hown hK hP 0 rfl rfl 2 (by decide) (hts (.fieldLink RX7 22 "MadeItSo" "books" "LMadeItSo$Books;") (by decide +kernel)) (fun _ h9 => h9) rfl dX7_thing_16 ?_
  refine lv_iload_n hx hb dX7_thing_19 rfl (lv_at hl 0 rfl) ?_
  have hPc := hP.sub (ws' := [(bk, .inr (1, [.ref bp])), (bp, .inl (cI, 1024, .inl fb))]) [1, 2] rfl
  have hDc := hD.sub (ws' := [(bk, .inr (1, [.ref bp])), (bp, .inl (cI, 1024, .inl fb))]) [1, 2] (by decide) rfl
  have hFc := va_free (wc := [(bk, .inr (1, [.ref bp])), (bp, .inl (cI, 1024, .inl fb))]) hD hS hA [1, 2] rfl
  refine va_callv (va_runV (As := [.int 0]) (rest := []) ⟨hx, hb, hml, hown, hts⟩ (mz_blank0 l dC dI cI cJ cZ bk bp fb H.size ) (cwV 1 hts gX7_thing_X1_blank rfl rfl rfl (by decide +kernel) ⟨Nat.le_of_ble_eq_true rfl, Nat.le_of_ble_eq_true rfl⟩) ⟨fun a U g mk q => mz_blI q, va_recv hK hPc (ci := 1) (q0 := 0) rfl rfl, fun U hU hW => ⟨rfl, by rw [hU], by rw [hU]; exact hPc, va_K.moved hW.alike hK, hDc.weaken (fun _ _ _ _ => trivial), mz_nw hW hN⟩⟩ rfl rfl hl.1 rfl (lv_room (Nat.le_of_ble_eq_true rfl)) dX7_thing_20 ⟨Nat.le_of_ble_eq_true rfl, Nat.le_of_ble_eq_true rfl⟩) hS (fun q _ h => hFc q h) hFc (fun u t H1 locs ht hvm hw hB hz1 hk1 hS => ?_)
  obtain ⟨hP1, hD1⟩ := hB
  rw [ht] at hP1
  obtain ⟨hP, hD⟩ := va_join (wr := [(mx, .inr (7, [.ref dr, .ref th, .ref bk, .ref wt, .ref tt, .ref lh, .ref la, .int 0, .long 0, .long 1]))]) (w1 := []) hP hD [1, 2] [0] rfl rfl (by decide) (by decide) hk1 hFc hP1 hD1
  generalize H1 = H at hP hS ⊢
  have hP : va_P (dC, dI) vwCl [(mx, .inr (7, [.ref dr, .ref th, .ref bk, .ref wt, .ref tt, .ref lh, .ref la, .int 0, .long 0, .long 1]))] H := hP
  have hD : va_D A [(mx, .inr (7, [.ref dr, .ref th, .ref bk, .ref wt, .ref tt, .ref lh, .ref la, .int 0, .long 0, .long 1]))] := hD
  refine lv_iload_n hx hb dX7_thing_23 rfl (lv_at hl 2 rfl) ?_
  refine lv_if_eq (tgt := 40) hx hb dX7_thing_24 (by decide) (fun c_24 => ?_) (fun c_24 => ?_)
  · skip
    refine lv_iload_n hx hb dX7_thing_40 rfl (lv_at hl 0 rfl) ?_
    have hP9 := hP.sub (ws' := []) [] rfl
    have hD9 := hD.sub (ws' := []) [] (by decide) rfl
    refine W.widen (k := 0) (n := 0) (Nat.le_of_ble_eq_true rfl) (Nat.le_of_ble_eq_true rfl) ?_
    exact W.iret (v := 0) hx hb hr (fun t ht hW => ⟨⟨0, (), rfl, rfl, by rw [ht]; exact hP9, hD9⟩, hS.F ht⟩) hS.2.2 dX7_thing_41
  · skip
    refine lv_aload_n hx hb dX7_thing_27 rfl (lv_at hl 1 rfl) ?_
    refine lv_dup hx hb dX7_thing_28 rfl ?_
    refine va_get (D := (dC, dI)) (ci := 7) (v := .int 0) (C := RX7) (T := TX7) (N := 10) hx hb hts hiX7 hown hK hP 0 rfl rfl 7 (by decide) (hts (.fieldLink RX7 54 "MadeItSo" "seenHeap" "I") (by decide +kernel)) (fun _ h9 => h9) rfl dX7_thing_29 ?_
    refine lv_iload_n hx hb dX7_thing_32 rfl (lv_at hl 0 rfl) ?_
    have hPc := hP.sub (ws' := []) [] rfl
    refine va_calli (va_runS (As := [.int 0]) (rest := [.int 0, .ref mx]) ⟨hx, hb, hml, hown, hts⟩ (mz_bit0 l dC dI cI cJ cZ  H ) (va_cwS 1 hts gX7_thing_X7_bit rfl rfl rfl (by decide +kernel) ⟨Nat.le_of_ble_eq_true rfl, Nat.le_of_ble_eq_true rfl⟩) ⟨fun a U g mk q => mz_blP q, fun U hU hW => ⟨rfl, hU, hPc, va_K.moved hW.alike hK, mz_nw hW hN⟩⟩ rfl rfl hl.1 rfl (lv_room (Nat.le_of_ble_eq_true rfl)) dX7_thing_33 ⟨Nat.le_of_ble_eq_true rfl, Nat.le_of_ble_eq_true rfl⟩) hS (fun q _ h => h.elim) (fun q h => h.elim) (fun r u t H1 locs ht hvm hw hB hz1 hk1 hS => ?_)
    have hE : H = H1 := hB.symm.trans ht
    subst hE
    obtain rfl : r = 1 := hw
    refine lv_ior hx hb dX7_thing_36 ?_
    refine mz_ti (y := 1) (by decide +kernel) ?_
    refine va_put (D := (dC, dI)) (ci := 7) (v := .int 1) (ty := .int) (C := RX7) (T := TX7) (N := 10) hx hb hts hiX7 tyX7 tyX7_ok nmX7 hown hK hP hD hS 0 rfl rfl 7 (by decide) (hts (.fieldLink RX7 54 "MadeItSo" "seenHeap" "I") (by decide +kernel)) (fun _ h9 => h9) rfl (by decide +kernel) rfl rfl (Nat.le_of_ble_eq_true rfl) dX7_thing_37 (fun H locs hP hD hS => ?_)
    have hP : va_P (dC, dI) vwCl [(mx, .inr (7, [.ref dr, .ref th, .ref bk, .ref wt, .ref tt, .ref lh, .ref la, .int 1, .long 0, .long 1]))] H := hP
    have hD : va_D A [(mx, .inr (7, [.ref dr, .ref th, .ref bk, .ref wt, .ref tt, .ref lh, .ref la, .int 1, .long 0, .long 1]))] := hD
    refine lv_iload_n hx hb dX7_thing_40 rfl (lv_at hl 0 rfl) ?_
    have hP9 := hP.sub (ws' := []) [] rfl
    have hD9 := hD.sub (ws' := []) [] (by decide) rfl
    refine W.widen (k := 0) (n := 0) (Nat.le_of_ble_eq_true rfl) (Nat.le_of_ble_eq_true rfl) ?_
    exact W.iret (v := 0) hx hb hr (fun t ht hW => ⟨⟨0, (), rfl, rfl, by rw [ht]; exact hP9, hD9⟩, hS.F ht⟩) hS.2.2 dX7_thing_41
set_option maxHeartbeats 1000000 in
set_option maxRecDepth 100000 in
theorem mz_alike (l : Launch) (dC : Nat → ClassId) (dI : Nat → Nat → Nat) (cI cJ cZ : ClassId) (mx : Nat) (dr : Nat) (th : Nat) (bk : Nat) (wt : Nat) (tt : Nat) (lh : Nat) (la : Nat) (dp : Nat) (dc : Nat) (lw : Nat) (fl : Nat → Int32) (sz : Nat)  : Met l yX7_alike wsX7_alike ({ frames := 2, cells := 0, slots := 0, locals := 46 }) (va_Pc [.ref mx] (fun U => U.heap.size = sz ∧ va_P (dC, dI) vwCl [(mx, .inr (7, [.ref dr, .ref th, .ref bk, .ref wt, .ref tt, .ref lh, .ref la, .int 0, .long 0, .long 1])), (dr, .inr (2, [.ref dp, .ref dc, .int 0])), (la, .inr (4, [.ref lw])), (lw, .inl (cI, 256, .inl fl))] U.heap ∧ va_K (dC, dI) vwCl [(cI, FieldType.int), (cJ, FieldType.long), (cZ, FieldType.boolean)] U ∧ va_D (fun _ => True) [(mx, .inr (7, [.ref dr, .ref th, .ref bk, .ref wt, .ref tt, .ref lh, .ref la, .int 0, .long 0, .long 1])), (dr, .inr (2, [.ref dp, .ref dc, .int 0])), (la, .inr (4, [.ref lw])), (lw, .inl (cI, 256, .inl fl))] ∧ mz_N U)) (va_Qi (fun (r : Int32) (_ : Unit) => r = 1) (fun _ t => va_P (dC, dI) vwCl [] t.heap ∧ va_D (va_A [(mx, .inr (7, [.ref dr, .ref th, .ref bk, .ref wt, .ref tt, .ref lh, .ref la, .int 0, .long 0, .long 1])), (dr, .inr (2, [.ref dp, .ref dc, .int 0])), (la, .inr (4, [.ref lw])), (lw, .inl (cI, 256, .inl fl))] sz) []) (va_A [(mx, .inr (7, [.ref dr, .ref th, .ref bk, .ref wt, .ref tt, .ref lh, .ref la, .int 0, .long 0, .long 1])), (dr, .inr (2, [.ref dp, .ref dc, .int 0])), (la, .inr (4, [.ref lw])), (lw, .inl (cI, 256, .inl fl))] sz)) 0 0 (va_A [(mx, .inr (7, [.ref dr, .ref th, .ref bk, .ref wt, .ref tt, .ref lh, .ref la, .int 0, .long 0, .long 1])), (dr, .inr (2, [.ref dp, .ref dc, .int 0])), (la, .inr (4, [.ref lw])), (lw, .inl (cI, 256, .inl fl))] sz) := by
  refine Met.ofW (cc := cX7_alike) (maxL := 1) (ret := (some .int)) (by decide) rfl ?_
  intro p e s m args below meth c s₁ B hml hv
  obtain ⟨rfl, hsz, hP, hK, hD0, hN⟩ := hv
  subst hsz
  have hx := B.exec
  have hb := B.bytes
  have hr := B.returns
  have hts := atoms_spec (ws := wsX7_alike) B.pre
  have hown : s.vm.findClass RX7 = some m.cls := findClass_of_methodNamed B.named
  have hlocks := B.notSynchronized
  have hD := hD0.self (sz := s.heap.size)
  generalize hAe : va_A [(mx, .inr (7, [.ref dr, .ref th, .ref bk, .ref wt, .ref tt, .ref lh, .ref la, .int 0, .long 0, .long 1])), (dr, .inr (2, [.ref dp, .ref dc, .int 0])), (la, .inr (4, [.ref lw])), (lw, .inl (cI, 256, .inl fl))] s.heap.size = A at hD ⊢
  have hA : ∀ q : Nat, s.heap.size ≤ q → A q := fun q h => by rw [← hAe]; exact Or.inr h
  have hS : va_S A s.heap s.heap [] := va_S.rf
  have hiX7 : ∀ w ∈ u_ws RX7 TX7 10, w ∈ wsX7_alike := by decide +kernel
  have hl := lv_entry ([.ref mx]) (n := 1) (Nat.le_of_ble_eq_true rfl)
  rw [lg_entry_eq]
  generalize (lg_sl ([.ref mx]) ++ List.replicate (1 - (lg_sl ([.ref mx])).length) Slot.unset).toArray = ls at hl ⊢
  have hl : lv_has ls 1 [(0, .ref mx)] := hl
  refine lv_aload_n hx hb dX7_alike_0 rfl (lv_at hl 0 rfl) ?_
  refine va_get (D := (dC, dI)) (ci := 7) (v := .ref la) (C := RX7) (T := TX7) (N := 10) hx hb hts hiX7 hown hK hP 0 rfl rfl 6 (by decide) (hts (.fieldLink RX7 50 "MadeItSo" "lookalikes" "LMadeItSo$Lookalikes;") (by decide +kernel)) (fun _ h9 => h9) rfl dX7_alike_1 ?_
  refine lv_aload_n hx hb dX7_alike_4 rfl (lv_at hl 0 rfl) ?_
  refine va_get (D := (dC, dI)) (ci := 7) (v := .ref dr) (C := RX7) (T := TX7) (N := 10) hx hb hts hiX7 hown hK hP 0 rfl rfl 0 (by decide) (hts (.fieldLink RX7 12 "MadeItSo" "drawing" "LMadeItSo$Drawing;") (by decide +kernel)) (fun _ h9 => h9) rfl dX7_alike_5 ?_
  refine lv_iconst (v := (-1)) hx hb dX7_alike_8 (by decide +kernel) ?_
  refine lv_iconst (v := (-1)) hx hb dX7_alike_9 (by decide +kernel) ?_
  have hPc := hP.sub (ws' := [(la, .inr (4, [.ref lw])), (lw, .inl (cI, 256, .inl fl)), (dr, .inr (2, [.ref dp, .ref dc, .int 0]))]) [2, 3, 1] rfl
  have hDc := hD.sub (ws' := [(la, .inr (4, [.ref lw])), (lw, .inl (cI, 256, .inl fl)), (dr, .inr (2, [.ref dp, .ref dc, .int 0]))]) [2, 3, 1] (by decide) rfl
  have hFc := va_free (wc := [(la, .inr (4, [.ref lw])), (lw, .inl (cI, 256, .inl fl)), (dr, .inr (2, [.ref dp, .ref dc, .int 0]))]) hD hS hA [2, 3, 1] rfl
  refine va_calli (va_runV (As := [.ref dr, .int (-1), .int (-1)]) (rest := []) ⟨hx, hb, hml, hown, hts⟩ (mz_reckon0 l dC dI cI cJ cZ la lw fl dr dp dc s.heap.size ) (cwV 3 hts gX7_alike_X4_reckon rfl rfl rfl (by decide +kernel) ⟨Nat.le_of_ble_eq_true rfl, Nat.le_of_ble_eq_true rfl⟩) ⟨fun a U g mk q => mz_blI q, va_recv hK hPc (ci := 4) (q0 := 0) rfl rfl, fun U hU hW => ⟨rfl, by rw [hU], by rw [hU]; exact hPc, va_K.moved hW.alike hK, hDc.weaken (fun _ _ _ _ => trivial), mz_nw hW hN⟩⟩ rfl rfl hl.1 rfl (lv_room (Nat.le_of_ble_eq_true rfl)) dX7_alike_10 ⟨Nat.le_of_ble_eq_true rfl, Nat.le_of_ble_eq_true rfl⟩) hS (fun q _ h => hFc q h) hFc (fun r u t H1 locs ht hvm hw hB hz1 hk1 hS => ?_)
  obtain ⟨hP1, hD1⟩ := hB
  rw [ht] at hP1
  obtain ⟨hP, hD⟩ := va_join (wr := [(mx, .inr (7, [.ref dr, .ref th, .ref bk, .ref wt, .ref tt, .ref lh, .ref la, .int 0, .long 0, .long 1]))]) (w1 := []) hP hD [2, 3, 1] [0] rfl rfl (by decide) (by decide) hk1 hFc hP1 hD1
  generalize H1 = H at hP hS ⊢
  have hP : va_P (dC, dI) vwCl [(mx, .inr (7, [.ref dr, .ref th, .ref bk, .ref wt, .ref tt, .ref lh, .ref la, .int 0, .long 0, .long 1]))] H := hP
  have hD : va_D A [(mx, .inr (7, [.ref dr, .ref th, .ref bk, .ref wt, .ref tt, .ref lh, .ref la, .int 0, .long 0, .long 1]))] := hD
  obtain rfl : r = 1 := hw
  have hP9 := hP.sub (ws' := []) [] rfl
  have hD9 := hD.sub (ws' := []) [] (by decide) rfl
  refine W.widen (k := 0) (n := 0) (Nat.le_of_ble_eq_true rfl) (Nat.le_of_ble_eq_true rfl) ?_
  exact W.iret (v := 1) hx hb hr (fun t ht hW => ⟨⟨1, (), rfl, rfl, by rw [ht]; exact hP9, hD9⟩, hS.F ht⟩) hS.2.2 dX7_alike_13
set_option maxHeartbeats 1000000 in
set_option maxRecDepth 100000 in
theorem mz_weight (l : Launch) (dC : Nat → ClassId) (dI : Nat → Nat → Nat) (cI cJ cZ : ClassId) (mx : Nat) (dr : Nat) (th : Nat) (bk : Nat) (wt : Nat) (tt : Nat) (lh : Nat) (la : Nat) (dp : Nat) (dc : Nat) (wo : Nat) (fw : Nat → Int64) (bp : Nat) (p1 : Int32) (p2 : Int32) (sz : Nat)  : Met l yX7_weight wsX7_weight ({ frames := 3, cells := 0, slots := 0, locals := 68 }) (va_Pc [.ref mx, .int p1, .int p2] (fun U => U.heap.size = sz ∧ va_P (dC, dI) vwCl [(mx, .inr (7, [.ref dr, .ref th, .ref bk, .ref wt, .ref tt, .ref lh, .ref la, .int 0, .long 0, .long 1])), (dr, .inr (2, [.ref dp, .ref dc, .int 0])), (wt, .inr (6, [.ref wo, .int 0])), (wo, .inl (cJ, 256, .inr (.inl fw))), (bk, .inr (1, [.ref bp]))] U.heap ∧ va_K (dC, dI) vwCl [(cI, FieldType.int), (cJ, FieldType.long), (cZ, FieldType.boolean)] U ∧ va_D (fun _ => True) [(mx, .inr (7, [.ref dr, .ref th, .ref bk, .ref wt, .ref tt, .ref lh, .ref la, .int 0, .long 0, .long 1])), (dr, .inr (2, [.ref dp, .ref dc, .int 0])), (wt, .inr (6, [.ref wo, .int 0])), (wo, .inl (cJ, 256, .inr (.inl fw))), (bk, .inr (1, [.ref bp]))] ∧ mz_N U)) (va_Ql (fun (r : Int64) (_ : Unit) => r = (if p1 = 0 ∧ p2 = 0 then 1 else (-1))) (fun _ t => va_P (dC, dI) vwCl [] t.heap ∧ va_D (va_A [(mx, .inr (7, [.ref dr, .ref th, .ref bk, .ref wt, .ref tt, .ref lh, .ref la, .int 0, .long 0, .long 1])), (dr, .inr (2, [.ref dp, .ref dc, .int 0])), (wt, .inr (6, [.ref wo, .int 0])), (wo, .inl (cJ, 256, .inr (.inl fw))), (bk, .inr (1, [.ref bp]))] sz) []) (va_A [(mx, .inr (7, [.ref dr, .ref th, .ref bk, .ref wt, .ref tt, .ref lh, .ref la, .int 0, .long 0, .long 1])), (dr, .inr (2, [.ref dp, .ref dc, .int 0])), (wt, .inr (6, [.ref wo, .int 0])), (wo, .inl (cJ, 256, .inr (.inl fw))), (bk, .inr (1, [.ref bp]))] sz)) 0 0 (va_A [(mx, .inr (7, [.ref dr, .ref th, .ref bk, .ref wt, .ref tt, .ref lh, .ref la, .int 0, .long 0, .long 1])), (dr, .inr (2, [.ref dp, .ref dc, .int 0])), (wt, .inr (6, [.ref wo, .int 0])), (wo, .inl (cJ, 256, .inr (.inl fw))), (bk, .inr (1, [.ref bp]))] sz) := by
  refine Met.ofW (cc := cX7_weight) (maxL := 3) (ret := (some .long)) (by decide) rfl ?_
  intro p e s m args below meth c s₁ B hml hv
  obtain ⟨rfl, hsz, hP, hK, hD0, hN⟩ := hv
  subst hsz
  have hx := B.exec
  have hb := B.bytes
  have hr := B.returns
  have hts := atoms_spec (ws := wsX7_weight) B.pre
  have hown : s.vm.findClass RX7 = some m.cls := findClass_of_methodNamed B.named
  have hlocks := B.notSynchronized
  have hD := hD0.self (sz := s.heap.size)
  generalize hAe : va_A [(mx, .inr (7, [.ref dr, .ref th, .ref bk, .ref wt, .ref tt, .ref lh, .ref la, .int 0, .long 0, .long 1])), (dr, .inr (2, [.ref dp, .ref dc, .int 0])), (wt, .inr (6, [.ref wo, .int 0])), (wo, .inl (cJ, 256, .inr (.inl fw))), (bk, .inr (1, [.ref bp]))] s.heap.size = A at hD ⊢
  have hA : ∀ q : Nat, s.heap.size ≤ q → A q := fun q h => by rw [← hAe]; exact Or.inr h
  have hS : va_S A s.heap s.heap [] := va_S.rf
  have hiX7 : ∀ w ∈ u_ws RX7 TX7 10, w ∈ wsX7_weight := by decide +kernel
  have hl := lv_entry ([.ref mx, .int p1, .int p2]) (n := 3) (Nat.le_of_ble_eq_true rfl)
  rw [lg_entry_eq]
  generalize (lg_sl ([.ref mx, .int p1, .int p2]) ++ List.replicate (3 - (lg_sl ([.ref mx, .int p1, .int p2])).length) Slot.unset).toArray = ls at hl ⊢
  have hl : lv_has ls 3 [(0, .ref mx), (1, .int p1), (2, .int p2)] := hl
  refine lv_aload_n hx hb dX7_weight_0 rfl (lv_at hl 0 rfl) ?_
  refine lv_iload_n hx hb dX7_weight_1 rfl (lv_at hl 1 rfl) ?_
  by_cases hz_2 : p1 = 0
  · subst hz_2
    have hPc := hP.sub (ws' := [(mx, .inr (7, [.ref dr, .ref th, .ref bk, .ref wt, .ref tt, .ref lh, .ref la, .int 0, .long 0, .long 1])), (dr, .inr (2, [.ref dp, .ref dc, .int 0]))]) [0, 1] rfl
    refine va_calli (va_runV (As := [.int 0]) (rest := []) ⟨hx, hb, hml, hown, hts⟩ (mz_isSetting_0 l dC dI cI cJ cZ mx dr th bk wt tt lh la dp dc 0 1 s.heap ) (cwV 1 hts gX7_weight_X7_isSetting rfl rfl rfl (by decide +kernel) ⟨Nat.le_of_ble_eq_true rfl, Nat.le_of_ble_eq_true rfl⟩) ⟨fun a U g mk q => mz_blP q, va_recv hK hPc (ci := 7) (q0 := 0) rfl rfl, fun U hU hW => ⟨rfl, hU, hPc, va_K.moved hW.alike hK, mz_nw hW hN⟩⟩ rfl rfl hl.1 rfl (lv_room (Nat.le_of_ble_eq_true rfl)) dX7_weight_2 ⟨Nat.le_of_ble_eq_true rfl, Nat.le_of_ble_eq_true rfl⟩) hS (fun q _ h => h.elim) (fun q h => h.elim) (fun r u t H1 locs ht hvm hw hB hz1 hk1 hS => ?_)
    have hE : s.heap = H1 := hB.symm.trans ht
    subst hE
    obtain rfl : r = 1 := hw
    refine lv_if_eq (tgt := 16) hx hb dX7_weight_5 (by decide) (fun c_5 => absurd c_5 (by decide +kernel)) (fun _ => ?_)
    refine lv_aload_n hx hb dX7_weight_8 rfl (lv_at hl 0 rfl) ?_
    refine lv_iload_n hx hb dX7_weight_9 rfl (lv_at hl 2 rfl) ?_
    by_cases hz_10 : p2 = 0
    · subst hz_10
      have hPc := hP.sub (ws' := [(mx, .inr (7, [.ref dr, .ref th, .ref bk, .ref wt, .ref tt, .ref lh, .ref la, .int 0, .long 0, .long 1])), (dr, .inr (2, [.ref dp, .ref dc, .int 0]))]) [0, 1] rfl
      refine va_calli (va_runV (As := [.int 0]) (rest := []) ⟨hx, hb, hml, hown, hts⟩ (mz_isSetting_0 l dC dI cI cJ cZ mx dr th bk wt tt lh la dp dc 0 1 s.heap ) (cwV 1 hts gX7_weight_X7_isSetting rfl rfl rfl (by decide +kernel) ⟨Nat.le_of_ble_eq_true rfl, Nat.le_of_ble_eq_true rfl⟩) ⟨fun a U g mk q => mz_blP q, va_recv hK hPc (ci := 7) (q0 := 0) rfl rfl, fun U hU hW => ⟨rfl, hU, hPc, va_K.moved hW.alike hK, mz_nw hW hN⟩⟩ rfl rfl hl.1 rfl (lv_room (Nat.le_of_ble_eq_true rfl)) dX7_weight_10 ⟨Nat.le_of_ble_eq_true rfl, Nat.le_of_ble_eq_true rfl⟩) hS (fun q _ h => h.elim) (fun q h => h.elim) (fun r u t H1 locs ht hvm hw hB hz1 hk1 hS => ?_)
      have hE : s.heap = H1 := hB.symm.trans ht
      subst hE
      obtain rfl : r = 1 := hw
      refine lv_if_ne (tgt := 20) hx hb dX7_weight_13 (by decide) (fun _ => ?_) (fun c_13 => absurd c_13 (by decide +kernel))
      refine lv_aload_n hx hb dX7_weight_20 rfl (lv_at hl 0 rfl) ?_
      refine va_get (D := (dC, dI)) (ci := 7) (v := .ref wt) (C := RX7) (T := TX7) (N := 10) hx hb hts hiX7 hown hK hP 0 rfl rfl 3 (by decide) (hts (.fieldLink RX7 29 "MadeItSo" "weights" "LMadeItSo$Weights;") (by decide +kernel)) (fun _ h9 => h9) rfl dX7_weight_21 ?_
      refine lv_aload_n hx hb dX7_weight_24 rfl (lv_at hl 0 rfl) ?_
      refine va_get (D := (dC, dI)) (ci := 7) (v := .ref dr) (C := RX7) (T := TX7) (N := 10) hx hb hts hiX7 hown hK hP 0 rfl rfl 0 (by decide) (hts (.fieldLink RX7 12 "MadeItSo" "drawing" "LMadeItSo$Drawing;") (by decide +kernel)) (fun _ h9 => h9) rfl dX7_weight_25 ?_
      refine lv_aload_n hx hb dX7_weight_28 rfl (lv_at hl 0 rfl) ?_
      refine va_get (D := (dC, dI)) (ci := 7) (v := .ref bk) (C := RX7) (T := TX7) (N := 10) hx hb hts hiX7 hown hK hP 0 rfl rfl 2 (by decide) (hts (.fieldLink RX7 22 "MadeItSo" "books" "LMadeItSo$Books;") (by decide +kernel)) (fun _ h9 => h9) rfl dX7_weight_29 ?_
      refine lv_iload_n hx hb dX7_weight_32 rfl (lv_at hl 2 rfl) ?_
      have hPc := hP.sub (ws' := [(wt, .inr (6, [.ref wo, .int 0])), (wo, .inl (cJ, 256, .inr (.inl fw))), (dr, .inr (2, [.ref dp, .ref dc, .int 0]))]) [2, 3, 1] rfl
      have hDc := hD.sub (ws' := [(wt, .inr (6, [.ref wo, .int 0])), (wo, .inl (cJ, 256, .inr (.inl fw))), (dr, .inr (2, [.ref dp, .ref dc, .int 0]))]) [2, 3, 1] (by decide) rfl
      have hFc := va_free (wc := [(wt, .inr (6, [.ref wo, .int 0])), (wo, .inl (cJ, 256, .inr (.inl fw))), (dr, .inr (2, [.ref dp, .ref dc, .int 0]))]) hD hS hA [2, 3, 1] rfl
      refine va_callv (va_runV (As := [.ref dr, .ref bk, .int 0]) (rest := []) ⟨hx, hb, hml, hown, hts⟩ (mz_weigh0 l dC dI cI cJ cZ wt wo fw dr dp dc bk 0 s.heap.size ) (cwV 3 hts gX7_weight_X6_weigh rfl rfl rfl (by decide +kernel) ⟨Nat.le_of_ble_eq_true rfl, Nat.le_of_ble_eq_true rfl⟩) ⟨fun a U g mk q => mz_blI q, va_recv hK hPc (ci := 6) (q0 := 0) rfl rfl, fun U hU hW => ⟨rfl, by rw [hU], by rw [hU]; exact hPc, va_K.moved hW.alike hK, hDc.weaken (fun _ _ _ _ => trivial), mz_nw hW hN⟩⟩ rfl rfl hl.1 rfl (lv_room (Nat.le_of_ble_eq_true rfl)) dX7_weight_33 ⟨Nat.le_of_ble_eq_true rfl, Nat.le_of_ble_eq_true rfl⟩) hS (fun q _ h => hFc q h) hFc (fun u t H1 locs ht hvm hw hB hz1 hk1 hS => ?_)
      obtain ⟨fx1, hf2, hP1, hD1⟩ := hB
      rw [ht] at hP1
      obtain ⟨hP, hD⟩ := va_join (wr := [(mx, .inr (7, [.ref dr, .ref th, .ref bk, .ref wt, .ref tt, .ref lh, .ref la, .int 0, .long 0, .long 1])), (bk, .inr (1, [.ref bp]))]) (w1 := [(wt, .inr (6, [.ref wo, .int 0])), (wo, .inl (cJ, 256, .inr (.inl fx1))), (dr, .inr (2, [.ref dp, .ref dc, .int 0]))]) hP hD [2, 3, 1] [0, 4] rfl rfl (by decide) (by decide) hk1 hFc hP1 hD1
      generalize H1 = H at hP hS ⊢
      have hP : va_P (dC, dI) vwCl [(mx, .inr (7, [.ref dr, .ref th, .ref bk, .ref wt, .ref tt, .ref lh, .ref la, .int 0, .long 0, .long 1])), (bk, .inr (1, [.ref bp])), (wt, .inr (6, [.ref wo, .int 0])), (wo, .inl (cJ, 256, .inr (.inl fx1))), (dr, .inr (2, [.ref dp, .ref dc, .int 0]))] H := hP
      have hD : va_D A [(mx, .inr (7, [.ref dr, .ref th, .ref bk, .ref wt, .ref tt, .ref lh, .ref la, .int 0, .long 0, .long 1])), (bk, .inr (1, [.ref bp])), (wt, .inr (6, [.ref wo, .int 0])), (wo, .inl (cJ, 256, .inr (.inl fx1))), (dr, .inr (2, [.ref dp, .ref dc, .int 0]))] := hD
      refine lv_aload_n hx hb dX7_weight_36 rfl (lv_at hl 0 rfl) ?_
      refine va_get (D := (dC, dI)) (ci := 7) (v := .ref wt) (C := RX7) (T := TX7) (N := 10) hx hb hts hiX7 hown hK hP 0 rfl rfl 3 (by decide) (hts (.fieldLink RX7 29 "MadeItSo" "weights" "LMadeItSo$Weights;") (by decide +kernel)) (fun _ h9 => h9) rfl dX7_weight_37 ?_
      refine lv_iload_n hx hb dX7_weight_40 rfl (lv_at hl 1 rfl) ?_
      have hPc := hP.sub (ws' := []) [] rfl
      refine va_calli (va_runS (As := [.int 0]) (rest := [.ref wt]) ⟨hx, hb, hml, hown, hts⟩ (mz_heapOf l dC dI cI cJ cZ 0 H ) (va_cwS 1 hts gX7_weight_X7_heapOf rfl rfl rfl (by decide +kernel) ⟨Nat.le_of_ble_eq_true rfl, Nat.le_of_ble_eq_true rfl⟩) ⟨fun a U g mk q => mz_blP q, fun U hU hW => ⟨rfl, hU, hPc, va_K.moved hW.alike hK, mz_nw hW hN⟩⟩ rfl rfl hl.1 rfl (lv_room (Nat.le_of_ble_eq_true rfl)) dX7_weight_41 ⟨Nat.le_of_ble_eq_true rfl, Nat.le_of_ble_eq_true rfl⟩) hS (fun q _ h => h.elim) (fun q h => h.elim) (fun r u t H1 locs ht hvm hw hB hz1 hk1 hS => ?_)
      have hE : H = H1 := hB.symm.trans ht
      subst hE
      obtain rfl : r = ((0 : Int32) &&& 255) := hw
      refine mz_ti (y := 0) (by decide +kernel) ?_
      refine lv_iload_n hx hb dX7_weight_44 rfl (lv_at hl 1 rfl) ?_
      have hPc := hP.sub (ws' := []) [] rfl
      refine va_calli (va_runS (As := [.int 0]) (rest := [.int 0, .ref wt]) ⟨hx, hb, hml, hown, hts⟩ (mz_onesOf l dC dI cI cJ cZ 0 H ) (va_cwS 1 hts gX7_weight_X7_onesOf rfl rfl rfl (by decide +kernel) ⟨Nat.le_of_ble_eq_true rfl, Nat.le_of_ble_eq_true rfl⟩) ⟨fun a U g mk q => mz_blP q, fun U hU hW => ⟨rfl, hU, hPc, va_K.moved hW.alike hK, mz_nw hW hN⟩⟩ rfl rfl hl.1 rfl (lv_room (Nat.le_of_ble_eq_true rfl)) dX7_weight_45 ⟨Nat.le_of_ble_eq_true rfl, Nat.le_of_ble_eq_true rfl⟩) hS (fun q _ h => h.elim) (fun q h => h.elim) (fun r u t H1 locs ht hvm hw hB hz1 hk1 hS => ?_)
      have hE : H = H1 := hB.symm.trans ht
      subst hE
      obtain rfl : r = (((0 : Int32) >>> (8 &&& 31)) &&& 255) := hw
      refine mz_ti (y := 0) (by decide +kernel) ?_
      have hPc := hP.sub (ws' := [(wt, .inr (6, [.ref wo, .int 0])), (wo, .inl (cJ, 256, .inr (.inl fx1)))]) [2, 3] rfl
      refine va_calll (va_runV (As := [.int 0, .int 0]) (rest := []) ⟨hx, hb, hml, hown, hts⟩ (mz_having0 l dC dI cI cJ cZ wt wo fx1 H hf2) (cwV 2 hts gX7_weight_X6_having rfl rfl rfl (by decide +kernel) ⟨Nat.le_of_ble_eq_true rfl, Nat.le_of_ble_eq_true rfl⟩) ⟨fun a U g mk q => mz_blP q, va_recv hK hPc (ci := 6) (q0 := 0) rfl rfl, fun U hU hW => ⟨rfl, hU, hPc, va_K.moved hW.alike hK, mz_nw hW hN⟩⟩ rfl rfl hl.1 rfl (lv_room (Nat.le_of_ble_eq_true rfl)) dX7_weight_48 ⟨Nat.le_of_ble_eq_true rfl, Nat.le_of_ble_eq_true rfl⟩) hS (fun q _ h => h.elim) (fun q h => h.elim) (fun r u t H1 locs ht hvm hw hB hz1 hk1 hS => ?_)
      have hE : H = H1 := hB.symm.trans ht
      subst hE
      obtain rfl : r = 1 := hw
      have hP9 := hP.sub (ws' := []) [] rfl
      have hD9 := hD.sub (ws' := []) [] (by decide) rfl
      refine W.widen (k := 0) (n := 0) (Nat.le_of_ble_eq_true rfl) (Nat.le_of_ble_eq_true rfl) ?_
      exact W.lret (v := 1) hx hb hr (fun t ht hW => ⟨⟨1, (), rfl, by simp [*], by rw [ht]; exact hP9, hD9⟩, hS.F ht⟩) hS.2.2 dX7_weight_51
    · skip
      have hPc := hP.sub (ws' := [(mx, .inr (7, [.ref dr, .ref th, .ref bk, .ref wt, .ref tt, .ref lh, .ref la, .int 0, .long 0, .long 1])), (dr, .inr (2, [.ref dp, .ref dc, .int 0]))]) [0, 1] rfl
      refine va_calli (va_runV (As := [.int p2]) (rest := []) ⟨hx, hb, hml, hown, hts⟩ (mz_isSetting_n l dC dI cI cJ cZ mx dr th bk wt tt lh la dp dc 0 1 p2 s.heap hz_10) (cwV 1 hts gX7_weight_X7_isSetting rfl rfl rfl (by decide +kernel) ⟨Nat.le_of_ble_eq_true rfl, Nat.le_of_ble_eq_true rfl⟩) ⟨fun a U g mk q => mz_blP q, va_recv hK hPc (ci := 7) (q0 := 0) rfl rfl, fun U hU hW => ⟨rfl, hU, hPc, va_K.moved hW.alike hK, mz_nw hW hN⟩⟩ rfl rfl hl.1 rfl (lv_room (Nat.le_of_ble_eq_true rfl)) dX7_weight_10 ⟨Nat.le_of_ble_eq_true rfl, Nat.le_of_ble_eq_true rfl⟩) hS (fun q _ h => h.elim) (fun q h => h.elim) (fun r u t H1 locs ht hvm hw hB hz1 hk1 hS => ?_)
      have hE : s.heap = H1 := hB.symm.trans ht
      subst hE
      obtain rfl : r = 0 := hw
      refine lv_if_ne (tgt := 20) hx hb dX7_weight_13 (by decide) (fun c_13 => absurd (by decide +kernel) c_13) (fun _ => ?_)
      refine lv_ldc2 hx hb hown (hts (.constantLong RX7 121 (-1)) (by decide +kernel)) dX7_weight_16 ?_
      have hP9 := hP.sub (ws' := []) [] rfl
      have hD9 := hD.sub (ws' := []) [] (by decide) rfl
      refine W.widen (k := 0) (n := 0) (Nat.le_of_ble_eq_true rfl) (Nat.le_of_ble_eq_true rfl) ?_
      exact W.lret (v := (-1)) hx hb hr (fun t ht hW => ⟨⟨(-1), (), rfl, by simp [*], by rw [ht]; exact hP9, hD9⟩, hS.F ht⟩) hS.2.2 dX7_weight_19
  · skip
    have hPc := hP.sub (ws' := [(mx, .inr (7, [.ref dr, .ref th, .ref bk, .ref wt, .ref tt, .ref lh, .ref la, .int 0, .long 0, .long 1])), (dr, .inr (2, [.ref dp, .ref dc, .int 0]))]) [0, 1] rfl
    refine va_calli (va_runV (As := [.int p1]) (rest := []) ⟨hx, hb, hml, hown, hts⟩ (mz_isSetting_n l dC dI cI cJ cZ mx dr th bk wt tt lh la dp dc 0 1 p1 s.heap hz_2) (cwV 1 hts gX7_weight_X7_isSetting rfl rfl rfl (by decide +kernel) ⟨Nat.le_of_ble_eq_true rfl, Nat.le_of_ble_eq_true rfl⟩) ⟨fun a U g mk q => mz_blP q, va_recv hK hPc (ci := 7) (q0 := 0) rfl rfl, fun U hU hW => ⟨rfl, hU, hPc, va_K.moved hW.alike hK, mz_nw hW hN⟩⟩ rfl rfl hl.1 rfl (lv_room (Nat.le_of_ble_eq_true rfl)) dX7_weight_2 ⟨Nat.le_of_ble_eq_true rfl, Nat.le_of_ble_eq_true rfl⟩) hS (fun q _ h => h.elim) (fun q h => h.elim) (fun r u t H1 locs ht hvm hw hB hz1 hk1 hS => ?_)
    have hE : s.heap = H1 := hB.symm.trans ht
    subst hE
    obtain rfl : r = 0 := hw
    refine lv_if_eq (tgt := 16) hx hb dX7_weight_5 (by decide) (fun _ => ?_) (fun c_5 => absurd (by decide +kernel) c_5)
    refine lv_ldc2 hx hb hown (hts (.constantLong RX7 121 (-1)) (by decide +kernel)) dX7_weight_16 ?_
    have hP9 := hP.sub (ws' := []) [] rfl
    have hD9 := hD.sub (ws' := []) [] (by decide) rfl
    refine W.widen (k := 0) (n := 0) (Nat.le_of_ble_eq_true rfl) (Nat.le_of_ble_eq_true rfl) ?_
    exact W.lret (v := (-1)) hx hb hr (fun t ht hW => ⟨⟨(-1), (), rfl, by simp [*], by rw [ht]; exact hP9, hD9⟩, hS.F ht⟩) hS.2.2 dX7_weight_19
set_option maxHeartbeats 1000000 in
set_option maxRecDepth 100000 in
theorem mz_chance (l : Launch) (dC : Nat → ClassId) (dI : Nat → Nat → Nat) (cI cJ cZ : ClassId) (mx : Nat) (dr : Nat) (th : Nat) (bk : Nat) (wt : Nat) (tt : Nat) (lh : Nat) (la : Nat) (dp : Nat) (dc : Nat) (wo : Nat) (fw : Nat → Int64) (bp : Nat) (p1 : Int32) (p2 : Int32) (p3 : Int32) (sz : Nat)  : Met l yX7_chance wsX7_chance ({ frames := 3, cells := 0, slots := 0, locals := 68 }) (va_Pc [.ref mx, .int p1, .int p2, .int p3] (fun U => U.heap.size = sz ∧ va_P (dC, dI) vwCl [(mx, .inr (7, [.ref dr, .ref th, .ref bk, .ref wt, .ref tt, .ref lh, .ref la, .int 0, .long 0, .long 1])), (dr, .inr (2, [.ref dp, .ref dc, .int 0])), (wt, .inr (6, [.ref wo, .int 0])), (wo, .inl (cJ, 256, .inr (.inl fw))), (bk, .inr (1, [.ref bp]))] U.heap ∧ va_K (dC, dI) vwCl [(cI, FieldType.int), (cJ, FieldType.long), (cZ, FieldType.boolean)] U ∧ va_D (fun _ => True) [(mx, .inr (7, [.ref dr, .ref th, .ref bk, .ref wt, .ref tt, .ref lh, .ref la, .int 0, .long 0, .long 1])), (dr, .inr (2, [.ref dp, .ref dc, .int 0])), (wt, .inr (6, [.ref wo, .int 0])), (wo, .inl (cJ, 256, .inr (.inl fw))), (bk, .inr (1, [.ref bp]))] ∧ mz_N U)) (va_Qi (fun (r : Int32) (_ : Unit) => r = (if p1 = 0 ∧ p2 = 0 ∧ p3 = 0 then 1 else (-1))) (fun _ t => va_P (dC, dI) vwCl [] t.heap ∧ va_D (va_A [(mx, .inr (7, [.ref dr, .ref th, .ref bk, .ref wt, .ref tt, .ref lh, .ref la, .int 0, .long 0, .long 1])), (dr, .inr (2, [.ref dp, .ref dc, .int 0])), (wt, .inr (6, [.ref wo, .int 0])), (wo, .inl (cJ, 256, .inr (.inl fw))), (bk, .inr (1, [.ref bp]))] sz) []) (va_A [(mx, .inr (7, [.ref dr, .ref th, .ref bk, .ref wt, .ref tt, .ref lh, .ref la, .int 0, .long 0, .long 1])), (dr, .inr (2, [.ref dp, .ref dc, .int 0])), (wt, .inr (6, [.ref wo, .int 0])), (wo, .inl (cJ, 256, .inr (.inl fw))), (bk, .inr (1, [.ref bp]))] sz)) 0 0 (va_A [(mx, .inr (7, [.ref dr, .ref th, .ref bk, .ref wt, .ref tt, .ref lh, .ref la, .int 0, .long 0, .long 1])), (dr, .inr (2, [.ref dp, .ref dc, .int 0])), (wt, .inr (6, [.ref wo, .int 0])), (wo, .inl (cJ, 256, .inr (.inl fw))), (bk, .inr (1, [.ref bp]))] sz) := by
  refine Met.ofW (cc := cX7_chance) (maxL := 10) (ret := (some .int)) (by decide) rfl ?_
  intro p e s m args below meth c s₁ B hml hv
  obtain ⟨rfl, hsz, hP, hK, hD0, hN⟩ := hv
  subst hsz
  have hx := B.exec
  have hb := B.bytes
  have hr := B.returns
  have hts := atoms_spec (ws := wsX7_chance) B.pre
  have hown : s.vm.findClass RX7 = some m.cls := findClass_of_methodNamed B.named
  have hlocks := B.notSynchronized
  have hD := hD0.self (sz := s.heap.size)
  generalize hAe : va_A [(mx, .inr (7, [.ref dr, .ref th, .ref bk, .ref wt, .ref tt, .ref lh, .ref la, .int 0, .long 0, .long 1])), (dr, .inr (2, [.ref dp, .ref dc, .int 0])), (wt, .inr (6, [.ref wo, .int 0])), (wo, .inl (cJ, 256, .inr (.inl fw))), (bk, .inr (1, [.ref bp]))] s.heap.size = A at hD ⊢
  have hA : ∀ q : Nat, s.heap.size ≤ q → A q := fun q h => by rw [← hAe]; exact Or.inr h
  have hS : va_S A s.heap s.heap [] := va_S.rf
  have hiX7 : ∀ w ∈ u_ws RX7 TX7 10, w ∈ wsX7_chance := by decide +kernel
  have hl := lv_entry ([.ref mx, .int p1, .int p2, .int p3]) (n := 10) (Nat.le_of_ble_eq_true rfl)
  rw [lg_entry_eq]
  generalize (lg_sl ([.ref mx, .int p1, .int p2, .int p3]) ++ List.replicate (10 - (lg_sl ([.ref mx, .int p1, .int p2, .int p3])).length) Slot.unset).toArray = ls at hl ⊢
  have hl : lv_has ls 10 [(0, .ref mx), (1, .int p1), (2, .int p2), (3, .int p3)] := hl
  refine lv_aload_n hx hb dX7_chance_0 rfl (lv_at hl 0 rfl) ?_
  refine lv_lconst (v := 0) hx hb dX7_chance_1 (by decide +kernel) ?_
  refine va_put (D := (dC, dI)) (ci := 7) (v := .long 0) (ty := .long) (C := RX7) (T := TX7) (N := 10) hx hb hts hiX7 tyX7 tyX7_ok nmX7 hown hK hP hD hS 0 rfl rfl 8 (by decide) (hts (.fieldLink RX7 58 "MadeItSo" "aboveLine" "J") (by decide +kernel)) (fun _ h9 => h9) rfl (by decide +kernel) rfl rfl (Nat.le_of_ble_eq_true rfl) dX7_chance_2 (fun H locs hP hD hS => ?_)
  have hP : va_P (dC, dI) vwCl [(mx, .inr (7, [.ref dr, .ref th, .ref bk, .ref wt, .ref tt, .ref lh, .ref la, .int 0, .long 0, .long 1])), (dr, .inr (2, [.ref dp, .ref dc, .int 0])), (wt, .inr (6, [.ref wo, .int 0])), (wo, .inl (cJ, 256, .inr (.inl fw))), (bk, .inr (1, [.ref bp]))] H := hP
  have hD : va_D A [(mx, .inr (7, [.ref dr, .ref th, .ref bk, .ref wt, .ref tt, .ref lh, .ref la, .int 0, .long 0, .long 1])), (dr, .inr (2, [.ref dp, .ref dc, .int 0])), (wt, .inr (6, [.ref wo, .int 0])), (wo, .inl (cJ, 256, .inr (.inl fw))), (bk, .inr (1, [.ref bp]))] := hD
  refine lv_aload_n hx hb dX7_chance_5 rfl (lv_at hl 0 rfl) ?_
  refine lv_lconst (v := 1) hx hb dX7_chance_6 (by decide +kernel) ?_
  refine va_put (D := (dC, dI)) (ci := 7) (v := .long 1) (ty := .long) (C := RX7) (T := TX7) (N := 10) hx hb hts hiX7 tyX7 tyX7_ok nmX7 hown hK hP hD hS 0 rfl rfl 9 (by decide) (hts (.fieldLink RX7 62 "MadeItSo" "belowLine" "J") (by decide +kernel)) (fun _ h9 => h9) rfl (by decide +kernel) rfl rfl (Nat.le_of_ble_eq_true rfl) dX7_chance_7 (fun H locs hP hD hS => ?_)
  have hP : va_P (dC, dI) vwCl [(mx, .inr (7, [.ref dr, .ref th, .ref bk, .ref wt, .ref tt, .ref lh, .ref la, .int 0, .long 0, .long 1])), (dr, .inr (2, [.ref dp, .ref dc, .int 0])), (wt, .inr (6, [.ref wo, .int 0])), (wo, .inl (cJ, 256, .inr (.inl fw))), (bk, .inr (1, [.ref bp]))] H := hP
  have hD : va_D A [(mx, .inr (7, [.ref dr, .ref th, .ref bk, .ref wt, .ref tt, .ref lh, .ref la, .int 0, .long 0, .long 1])), (dr, .inr (2, [.ref dp, .ref dc, .int 0])), (wt, .inr (6, [.ref wo, .int 0])), (wo, .inl (cJ, 256, .inr (.inl fw))), (bk, .inr (1, [.ref bp]))] := hD
  refine lv_aload_n hx hb dX7_chance_10 rfl (lv_at hl 0 rfl) ?_
  refine lv_iload_n hx hb dX7_chance_11 rfl (lv_at hl 1 rfl) ?_
  by_cases hz_12 : p1 = 0
  · subst hz_12
    have hPc := hP.sub (ws' := [(mx, .inr (7, [.ref dr, .ref th, .ref bk, .ref wt, .ref tt, .ref lh, .ref la, .int 0, .long 0, .long 1])), (dr, .inr (2, [.ref dp, .ref dc, .int 0]))]) [0, 1] rfl
    refine va_calli (va_runV (As := [.int 0]) (rest := []) ⟨hx, hb, hml, hown, hts⟩ (mz_isSetting_0 l dC dI cI cJ cZ mx dr th bk wt tt lh la dp dc 0 1 H ) (cwV 1 hts gX7_chance_X7_isSetting rfl rfl rfl (by decide +kernel) ⟨Nat.le_of_ble_eq_true rfl, Nat.le_of_ble_eq_true rfl⟩) ⟨fun a U g mk q => mz_blP q, va_recv hK hPc (ci := 7) (q0 := 0) rfl rfl, fun U hU hW => ⟨rfl, hU, hPc, va_K.moved hW.alike hK, mz_nw hW hN⟩⟩ rfl rfl hl.1 rfl (lv_room (Nat.le_of_ble_eq_true rfl)) dX7_chance_12 ⟨Nat.le_of_ble_eq_true rfl, Nat.le_of_ble_eq_true rfl⟩) hS (fun q _ h => h.elim) (fun q h => h.elim) (fun r u t H1 locs ht hvm hw hB hz1 hk1 hS => ?_)
    have hE : H = H1 := hB.symm.trans ht
    subst hE
    obtain rfl : r = 1 := hw
    refine lv_if_eq (tgt := 34) hx hb dX7_chance_15 (by decide) (fun c_15 => absurd c_15 (by decide +kernel)) (fun _ => ?_)
    refine lv_aload_n hx hb dX7_chance_18 rfl (lv_at hl 0 rfl) ?_
    refine lv_iload_n hx hb dX7_chance_19 rfl (lv_at hl 2 rfl) ?_
    by_cases hz_20 : p2 = 0
    · subst hz_20
      have hPc := hP.sub (ws' := [(mx, .inr (7, [.ref dr, .ref th, .ref bk, .ref wt, .ref tt, .ref lh, .ref la, .int 0, .long 0, .long 1])), (dr, .inr (2, [.ref dp, .ref dc, .int 0]))]) [0, 1] rfl
      refine va_calli (va_runV (As := [.int 0]) (rest := []) ⟨hx, hb, hml, hown, hts⟩ (mz_isSetting_0 l dC dI cI cJ cZ mx dr th bk wt tt lh la dp dc 0 1 H ) (cwV 1 hts gX7_chance_X7_isSetting rfl rfl rfl (by decide +kernel) ⟨Nat.le_of_ble_eq_true rfl, Nat.le_of_ble_eq_true rfl⟩) ⟨fun a U g mk q => mz_blP q, va_recv hK hPc (ci := 7) (q0 := 0) rfl rfl, fun U hU hW => ⟨rfl, hU, hPc, va_K.moved hW.alike hK, mz_nw hW hN⟩⟩ rfl rfl hl.1 rfl (lv_room (Nat.le_of_ble_eq_true rfl)) dX7_chance_20 ⟨Nat.le_of_ble_eq_true rfl, Nat.le_of_ble_eq_true rfl⟩) hS (fun q _ h => h.elim) (fun q h => h.elim) (fun r u t H1 locs ht hvm hw hB hz1 hk1 hS => ?_)
      have hE : H = H1 := hB.symm.trans ht
      subst hE
      obtain rfl : r = 1 := hw
      refine lv_if_eq (tgt := 34) hx hb dX7_chance_23 (by decide) (fun c_23 => absurd c_23 (by decide +kernel)) (fun _ => ?_)
      refine lv_aload_n hx hb dX7_chance_26 rfl (lv_at hl 0 rfl) ?_
      refine lv_iload_n hx hb dX7_chance_27 rfl (lv_at hl 3 rfl) ?_
      by_cases hz_28 : p3 = 0
      · subst hz_28
        have hPc := hP.sub (ws' := [(mx, .inr (7, [.ref dr, .ref th, .ref bk, .ref wt, .ref tt, .ref lh, .ref la, .int 0, .long 0, .long 1])), (dr, .inr (2, [.ref dp, .ref dc, .int 0]))]) [0, 1] rfl
        refine va_calli (va_runV (As := [.int 0]) (rest := []) ⟨hx, hb, hml, hown, hts⟩ (mz_isSetting_0 l dC dI cI cJ cZ mx dr th bk wt tt lh la dp dc 0 1 H ) (cwV 1 hts gX7_chance_X7_isSetting rfl rfl rfl (by decide +kernel) ⟨Nat.le_of_ble_eq_true rfl, Nat.le_of_ble_eq_true rfl⟩) ⟨fun a U g mk q => mz_blP q, va_recv hK hPc (ci := 7) (q0 := 0) rfl rfl, fun U hU hW => ⟨rfl, hU, hPc, va_K.moved hW.alike hK, mz_nw hW hN⟩⟩ rfl rfl hl.1 rfl (lv_room (Nat.le_of_ble_eq_true rfl)) dX7_chance_28 ⟨Nat.le_of_ble_eq_true rfl, Nat.le_of_ble_eq_true rfl⟩) hS (fun q _ h => h.elim) (fun q h => h.elim) (fun r u t H1 locs ht hvm hw hB hz1 hk1 hS => ?_)
        have hE : H = H1 := hB.symm.trans ht
        subst hE
        obtain rfl : r = 1 := hw
        refine lv_if_ne (tgt := 36) hx hb dX7_chance_31 (by decide) (fun _ => ?_) (fun c_31 => absurd c_31 (by decide +kernel))
        refine lv_aload_n hx hb dX7_chance_36 rfl (lv_at hl 0 rfl) ?_
        refine va_get (D := (dC, dI)) (ci := 7) (v := .ref wt) (C := RX7) (T := TX7) (N := 10) hx hb hts hiX7 hown hK hP 0 rfl rfl 3 (by decide) (hts (.fieldLink RX7 29 "MadeItSo" "weights" "LMadeItSo$Weights;") (by decide +kernel)) (fun _ h9 => h9) rfl dX7_chance_37 ?_
        refine lv_aload_n hx hb dX7_chance_40 rfl (lv_at hl 0 rfl) ?_
        refine va_get (D := (dC, dI)) (ci := 7) (v := .ref dr) (C := RX7) (T := TX7) (N := 10) hx hb hts hiX7 hown hK hP 0 rfl rfl 0 (by decide) (hts (.fieldLink RX7 12 "MadeItSo" "drawing" "LMadeItSo$Drawing;") (by decide +kernel)) (fun _ h9 => h9) rfl dX7_chance_41 ?_
        refine lv_aload_n hx hb dX7_chance_44 rfl (lv_at hl 0 rfl) ?_
        refine va_get (D := (dC, dI)) (ci := 7) (v := .ref bk) (C := RX7) (T := TX7) (N := 10) hx hb hts hiX7 hown hK hP 0 rfl rfl 2 (by decide) (hts (.fieldLink RX7 22 "MadeItSo" "books" "LMadeItSo$Books;") (by decide +kernel)) (fun _ h9 => h9) rfl dX7_chance_45 ?_
        refine lv_iload_n hx hb dX7_chance_48 rfl (lv_at hl 3 rfl) ?_
        have hPc := hP.sub (ws' := [(wt, .inr (6, [.ref wo, .int 0])), (wo, .inl (cJ, 256, .inr (.inl fw))), (dr, .inr (2, [.ref dp, .ref dc, .int 0]))]) [2, 3, 1] rfl
        have hDc := hD.sub (ws' := [(wt, .inr (6, [.ref wo, .int 0])), (wo, .inl (cJ, 256, .inr (.inl fw))), (dr, .inr (2, [.ref dp, .ref dc, .int 0]))]) [2, 3, 1] (by decide) rfl
        have hFc := va_free (wc := [(wt, .inr (6, [.ref wo, .int 0])), (wo, .inl (cJ, 256, .inr (.inl fw))), (dr, .inr (2, [.ref dp, .ref dc, .int 0]))]) hD hS hA [2, 3, 1] rfl
        refine va_callv (va_runV (As := [.ref dr, .ref bk, .int 0]) (rest := []) ⟨hx, hb, hml, hown, hts⟩ (mz_weigh0 l dC dI cI cJ cZ wt wo fw dr dp dc bk 0 H.size ) (cwV 3 hts gX7_chance_X6_weigh rfl rfl rfl (by decide +kernel) ⟨Nat.le_of_ble_eq_true rfl, Nat.le_of_ble_eq_true rfl⟩) ⟨fun a U g mk q => mz_blI q, va_recv hK hPc (ci := 6) (q0 := 0) rfl rfl, fun U hU hW => ⟨rfl, by rw [hU], by rw [hU]; exact hPc, va_K.moved hW.alike hK, hDc.weaken (fun _ _ _ _ => trivial), mz_nw hW hN⟩⟩ rfl rfl hl.1 rfl (lv_room (Nat.le_of_ble_eq_true rfl)) dX7_chance_49 ⟨Nat.le_of_ble_eq_true rfl, Nat.le_of_ble_eq_true rfl⟩) hS (fun q _ h => hFc q h) hFc (fun u t H1 locs ht hvm hw hB hz1 hk1 hS => ?_)
        obtain ⟨fx1, hf2, hP1, hD1⟩ := hB
        rw [ht] at hP1
        obtain ⟨hP, hD⟩ := va_join (wr := [(mx, .inr (7, [.ref dr, .ref th, .ref bk, .ref wt, .ref tt, .ref lh, .ref la, .int 0, .long 0, .long 1])), (bk, .inr (1, [.ref bp]))]) (w1 := [(wt, .inr (6, [.ref wo, .int 0])), (wo, .inl (cJ, 256, .inr (.inl fx1))), (dr, .inr (2, [.ref dp, .ref dc, .int 0]))]) hP hD [2, 3, 1] [0, 4] rfl rfl (by decide) (by decide) hk1 hFc hP1 hD1
        generalize H1 = H at hP hS ⊢
        have hP : va_P (dC, dI) vwCl [(mx, .inr (7, [.ref dr, .ref th, .ref bk, .ref wt, .ref tt, .ref lh, .ref la, .int 0, .long 0, .long 1])), (bk, .inr (1, [.ref bp])), (wt, .inr (6, [.ref wo, .int 0])), (wo, .inl (cJ, 256, .inr (.inl fx1))), (dr, .inr (2, [.ref dp, .ref dc, .int 0]))] H := hP
        have hD : va_D A [(mx, .inr (7, [.ref dr, .ref th, .ref bk, .ref wt, .ref tt, .ref lh, .ref la, .int 0, .long 0, .long 1])), (bk, .inr (1, [.ref bp])), (wt, .inr (6, [.ref wo, .int 0])), (wo, .inl (cJ, 256, .inr (.inl fx1))), (dr, .inr (2, [.ref dp, .ref dc, .int 0]))] := hD
        refine lv_aload_n hx hb dX7_chance_52 rfl (lv_at hl 0 rfl) ?_
        refine va_get (D := (dC, dI)) (ci := 7) (v := .ref wt) (C := RX7) (T := TX7) (N := 10) hx hb hts hiX7 hown hK hP 0 rfl rfl 3 (by decide) (hts (.fieldLink RX7 29 "MadeItSo" "weights" "LMadeItSo$Weights;") (by decide +kernel)) (fun _ h9 => h9) rfl dX7_chance_53 ?_
        refine lv_iload_n hx hb dX7_chance_56 rfl (lv_at hl 2 rfl) ?_
        have hPc := hP.sub (ws' := []) [] rfl
        refine va_calli (va_runS (As := [.int 0]) (rest := [.ref wt]) ⟨hx, hb, hml, hown, hts⟩ (mz_heapOf l dC dI cI cJ cZ 0 H ) (va_cwS 1 hts gX7_chance_X7_heapOf rfl rfl rfl (by decide +kernel) ⟨Nat.le_of_ble_eq_true rfl, Nat.le_of_ble_eq_true rfl⟩) ⟨fun a U g mk q => mz_blP q, fun U hU hW => ⟨rfl, hU, hPc, va_K.moved hW.alike hK, mz_nw hW hN⟩⟩ rfl rfl hl.1 rfl (lv_room (Nat.le_of_ble_eq_true rfl)) dX7_chance_57 ⟨Nat.le_of_ble_eq_true rfl, Nat.le_of_ble_eq_true rfl⟩) hS (fun q _ h => h.elim) (fun q h => h.elim) (fun r u t H1 locs ht hvm hw hB hz1 hk1 hS => ?_)
        have hE : H = H1 := hB.symm.trans ht
        subst hE
        obtain rfl : r = ((0 : Int32) &&& 255) := hw
        refine mz_ti (y := 0) (by decide +kernel) ?_
        refine lv_iload_n hx hb dX7_chance_60 rfl (lv_at hl 2 rfl) ?_
        have hPc := hP.sub (ws' := []) [] rfl
        refine va_calli (va_runS (As := [.int 0]) (rest := [.int 0, .ref wt]) ⟨hx, hb, hml, hown, hts⟩ (mz_onesOf l dC dI cI cJ cZ 0 H ) (va_cwS 1 hts gX7_chance_X7_onesOf rfl rfl rfl (by decide +kernel) ⟨Nat.le_of_ble_eq_true rfl, Nat.le_of_ble_eq_true rfl⟩) ⟨fun a U g mk q => mz_blP q, fun U hU hW => ⟨rfl, hU, hPc, va_K.moved hW.alike hK, mz_nw hW hN⟩⟩ rfl rfl hl.1 rfl (lv_room (Nat.le_of_ble_eq_true rfl)) dX7_chance_61 ⟨Nat.le_of_ble_eq_true rfl, Nat.le_of_ble_eq_true rfl⟩) hS (fun q _ h => h.elim) (fun q h => h.elim) (fun r u t H1 locs ht hvm hw hB hz1 hk1 hS => ?_)
        have hE : H = H1 := hB.symm.trans ht
        subst hE
        obtain rfl : r = (((0 : Int32) >>> (8 &&& 31)) &&& 255) := hw
        refine mz_ti (y := 0) (by decide +kernel) ?_
        have hPc := hP.sub (ws' := [(wt, .inr (6, [.ref wo, .int 0])), (wo, .inl (cJ, 256, .inr (.inl fx1)))]) [2, 3] rfl
        refine va_calll (va_runV (As := [.int 0, .int 0]) (rest := []) ⟨hx, hb, hml, hown, hts⟩ (mz_having0 l dC dI cI cJ cZ wt wo fx1 H hf2) (cwV 2 hts gX7_chance_X6_having rfl rfl rfl (by decide +kernel) ⟨Nat.le_of_ble_eq_true rfl, Nat.le_of_ble_eq_true rfl⟩) ⟨fun a U g mk q => mz_blP q, va_recv hK hPc (ci := 6) (q0 := 0) rfl rfl, fun U hU hW => ⟨rfl, hU, hPc, va_K.moved hW.alike hK, mz_nw hW hN⟩⟩ rfl rfl hl.1 rfl (lv_room (Nat.le_of_ble_eq_true rfl)) dX7_chance_64 ⟨Nat.le_of_ble_eq_true rfl, Nat.le_of_ble_eq_true rfl⟩) hS (fun q _ h => h.elim) (fun q h => h.elim) (fun r u t H1 locs ht hvm hw hB hz1 hk1 hS => ?_)
        have hE : H = H1 := hB.symm.trans ht
        subst hE
        obtain rfl : r = 1 := hw
        refine lv_lstore (lv' := [(4, .long 1), (0, .ref mx), (1, .int 0), (2, .int 0), (3, .int 0)]) hx hb dX7_chance_67 hl (by decide) rfl (fun ls hl => ?_)
        refine lv_lload hx hb dX7_chance_69 (lv_at hl 0 rfl) ?_
        refine lv_lconst (v := 0) hx hb dX7_chance_71 (by decide +kernel) ?_
        refine W.lcmp hx hb dX7_chance_72 ?_
        refine mz_ti (y := 1) (by decide +kernel) ?_
        refine lv_if_gt (tgt := 78) hx hb dX7_chance_73 (by decide) (fun _ => ?_) (fun c_73 => absurd (by decide +kernel) c_73)
        refine lv_lconst (v := 0) hx hb dX7_chance_78 (by decide +kernel) ?_
        refine lv_lstore (lv' := [(6, .long 0), (4, .long 1), (0, .ref mx), (1, .int 0), (2, .int 0), (3, .int 0)]) hx hb dX7_chance_79 hl (by decide) rfl (fun ls hl => ?_)
        refine lv_iload_n hx hb dX7_chance_81 rfl (lv_at hl 3 rfl) ?_
        refine lv_iload_n hx hb dX7_chance_82 rfl (lv_at hl 4 rfl) ?_
        have hPc := hP.sub (ws' := []) [] rfl
        refine va_calli (va_runS (As := [.int 0, .int 0]) (rest := []) ⟨hx, hb, hml, hown, hts⟩ (mz_clash0 l dC dI cI cJ cZ  H ) (va_cwS 2 hts gX7_chance_X7_clash rfl rfl rfl (by decide +kernel) ⟨Nat.le_of_ble_eq_true rfl, Nat.le_of_ble_eq_true rfl⟩) ⟨fun a U g mk q => mz_blP q, fun U hU hW => ⟨rfl, hU, hPc, va_K.moved hW.alike hK, mz_nw hW hN⟩⟩ rfl rfl hl.1 rfl (lv_room (Nat.le_of_ble_eq_true rfl)) dX7_chance_83 ⟨Nat.le_of_ble_eq_true rfl, Nat.le_of_ble_eq_true rfl⟩) hS (fun q _ h => h.elim) (fun q h => h.elim) (fun r u t H1 locs ht hvm hw hB hz1 hk1 hS => ?_)
        have hE : H = H1 := hB.symm.trans ht
        subst hE
        obtain rfl : r = 0 := hw
        refine lv_if_ne (tgt := 110) hx hb dX7_chance_86 (by decide) (fun c_86 => absurd (by decide +kernel) c_86) (fun _ => ?_)
        refine lv_aload_n hx hb dX7_chance_89 rfl (lv_at hl 2 rfl) ?_
        refine va_get (D := (dC, dI)) (ci := 7) (v := .ref wt) (C := RX7) (T := TX7) (N := 10) hx hb hts hiX7 hown hK hP 0 rfl rfl 3 (by decide) (hts (.fieldLink RX7 29 "MadeItSo" "weights" "LMadeItSo$Weights;") (by decide +kernel)) (fun _ h9 => h9) rfl dX7_chance_90 ?_
        refine lv_iload_n hx hb dX7_chance_93 rfl (lv_at hl 3 rfl) ?_
        refine lv_iload_n hx hb dX7_chance_94 rfl (lv_at hl 4 rfl) ?_
        refine lv_ior hx hb dX7_chance_95 ?_
        refine mz_ti (y := 0) (by decide +kernel) ?_
        have hPc := hP.sub (ws' := []) [] rfl
        refine va_calli (va_runS (As := [.int 0]) (rest := [.ref wt]) ⟨hx, hb, hml, hown, hts⟩ (mz_heapOf l dC dI cI cJ cZ 0 H ) (va_cwS 1 hts gX7_chance_X7_heapOf rfl rfl rfl (by decide +kernel) ⟨Nat.le_of_ble_eq_true rfl, Nat.le_of_ble_eq_true rfl⟩) ⟨fun a U g mk q => mz_blP q, fun U hU hW => ⟨rfl, hU, hPc, va_K.moved hW.alike hK, mz_nw hW hN⟩⟩ rfl rfl hl.1 rfl (lv_room (Nat.le_of_ble_eq_true rfl)) dX7_chance_96 ⟨Nat.le_of_ble_eq_true rfl, Nat.le_of_ble_eq_true rfl⟩) hS (fun q _ h => h.elim) (fun q h => h.elim) (fun r u t H1 locs ht hvm hw hB hz1 hk1 hS => ?_)
        have hE : H = H1 := hB.symm.trans ht
        subst hE
        obtain rfl : r = ((0 : Int32) &&& 255) := hw
        refine mz_ti (y := 0) (by decide +kernel) ?_
        refine lv_iload_n hx hb dX7_chance_99 rfl (lv_at hl 3 rfl) ?_
        refine lv_iload_n hx hb dX7_chance_100 rfl (lv_at hl 4 rfl) ?_
        refine lv_ior hx hb dX7_chance_101 ?_
        refine mz_ti (y := 0) (by decide +kernel) ?_
        have hPc := hP.sub (ws' := []) [] rfl
        refine va_calli (va_runS (As := [.int 0]) (rest := [.int 0, .ref wt]) ⟨hx, hb, hml, hown, hts⟩ (mz_onesOf l dC dI cI cJ cZ 0 H ) (va_cwS 1 hts gX7_chance_X7_onesOf rfl rfl rfl (by decide +kernel) ⟨Nat.le_of_ble_eq_true rfl, Nat.le_of_ble_eq_true rfl⟩) ⟨fun a U g mk q => mz_blP q, fun U hU hW => ⟨rfl, hU, hPc, va_K.moved hW.alike hK, mz_nw hW hN⟩⟩ rfl rfl hl.1 rfl (lv_room (Nat.le_of_ble_eq_true rfl)) dX7_chance_102 ⟨Nat.le_of_ble_eq_true rfl, Nat.le_of_ble_eq_true rfl⟩) hS (fun q _ h => h.elim) (fun q h => h.elim) (fun r u t H1 locs ht hvm hw hB hz1 hk1 hS => ?_)
        have hE : H = H1 := hB.symm.trans ht
        subst hE
        obtain rfl : r = (((0 : Int32) >>> (8 &&& 31)) &&& 255) := hw
        refine mz_ti (y := 0) (by decide +kernel) ?_
        have hPc := hP.sub (ws' := [(wt, .inr (6, [.ref wo, .int 0])), (wo, .inl (cJ, 256, .inr (.inl fx1)))]) [2, 3] rfl
        refine va_calll (va_runV (As := [.int 0, .int 0]) (rest := []) ⟨hx, hb, hml, hown, hts⟩ (mz_having0 l dC dI cI cJ cZ wt wo fx1 H hf2) (cwV 2 hts gX7_chance_X6_having rfl rfl rfl (by decide +kernel) ⟨Nat.le_of_ble_eq_true rfl, Nat.le_of_ble_eq_true rfl⟩) ⟨fun a U g mk q => mz_blP q, va_recv hK hPc (ci := 6) (q0 := 0) rfl rfl, fun U hU hW => ⟨rfl, hU, hPc, va_K.moved hW.alike hK, mz_nw hW hN⟩⟩ rfl rfl hl.1 rfl (lv_room (Nat.le_of_ble_eq_true rfl)) dX7_chance_105 ⟨Nat.le_of_ble_eq_true rfl, Nat.le_of_ble_eq_true rfl⟩) hS (fun q _ h => h.elim) (fun q h => h.elim) (fun r u t H1 locs ht hvm hw hB hz1 hk1 hS => ?_)
        have hE : H = H1 := hB.symm.trans ht
        subst hE
        obtain rfl : r = 1 := hw
        refine lv_lstore (lv' := [(6, .long 1), (4, .long 1), (0, .ref mx), (1, .int 0), (2, .int 0), (3, .int 0)]) hx hb dX7_chance_108 hl (by decide) rfl (fun ls hl => ?_)
        refine lv_lload hx hb dX7_chance_110 (lv_at hl 1 rfl) ?_
        refine lv_lload hx hb dX7_chance_112 (lv_at hl 0 rfl) ?_
        have hPc := hP.sub (ws' := []) [] rfl
        refine va_calll (va_runS (As := [.long 1, .long 1]) (rest := []) ⟨hx, hb, hml, hown, hts⟩ (mz_commonDivisor1 l dC dI cI cJ cZ  H ) (va_cwS 2 hts gX7_chance_X7_commonDivisor rfl rfl rfl (by decide +kernel) ⟨Nat.le_of_ble_eq_true rfl, Nat.le_of_ble_eq_true rfl⟩) ⟨fun a U g mk q => mz_blP q, fun U hU hW => ⟨rfl, hU, hPc, va_K.moved hW.alike hK, mz_nw hW hN⟩⟩ rfl rfl hl.1 rfl (lv_room (Nat.le_of_ble_eq_true rfl)) dX7_chance_114 ⟨Nat.le_of_ble_eq_true rfl, Nat.le_of_ble_eq_true rfl⟩) hS (fun q _ h => h.elim) (fun q h => h.elim) (fun r u t H1 locs ht hvm hw hB hz1 hk1 hS => ?_)
        have hE : H = H1 := hB.symm.trans ht
        subst hE
        obtain rfl : r = 1 := hw
        refine lv_lstore (lv' := [(8, .long 1), (6, .long 1), (4, .long 1), (0, .ref mx), (1, .int 0), (2, .int 0), (3, .int 0)]) hx hb dX7_chance_117 hl (by decide) rfl (fun ls hl => ?_)
        refine lv_aload_n hx hb dX7_chance_119 rfl (lv_at hl 3 rfl) ?_
        refine lv_lload hx hb dX7_chance_120 (lv_at hl 1 rfl) ?_
        refine lv_lload hx hb dX7_chance_122 (lv_at hl 0 rfl) ?_
        refine lv_ldiv hx hb dX7_chance_124 (by decide +kernel) ?_
        refine mz_tl (y := 1) (by decide +kernel) ?_
        refine va_put (D := (dC, dI)) (ci := 7) (v := .long 1) (ty := .long) (C := RX7) (T := TX7) (N := 10) hx hb hts hiX7 tyX7 tyX7_ok nmX7 hown hK hP hD hS 0 rfl rfl 8 (by decide) (hts (.fieldLink RX7 58 "MadeItSo" "aboveLine" "J") (by decide +kernel)) (fun _ h9 => h9) rfl (by decide +kernel) rfl rfl (Nat.le_of_ble_eq_true rfl) dX7_chance_125 (fun H locs hP hD hS => ?_)
        have hP : va_P (dC, dI) vwCl [(mx, .inr (7, [.ref dr, .ref th, .ref bk, .ref wt, .ref tt, .ref lh, .ref la, .int 0, .long 1, .long 1])), (bk, .inr (1, [.ref bp])), (wt, .inr (6, [.ref wo, .int 0])), (wo, .inl (cJ, 256, .inr (.inl fx1))), (dr, .inr (2, [.ref dp, .ref dc, .int 0]))] H := hP
        have hD : va_D A [(mx, .inr (7, [.ref dr, .ref th, .ref bk, .ref wt, .ref tt, .ref lh, .ref la, .int 0, .long 1, .long 1])), (bk, .inr (1, [.ref bp])), (wt, .inr (6, [.ref wo, .int 0])), (wo, .inl (cJ, 256, .inr (.inl fx1))), (dr, .inr (2, [.ref dp, .ref dc, .int 0]))] := hD
        refine lv_aload_n hx hb dX7_chance_128 rfl (lv_at hl 3 rfl) ?_
        refine lv_lload hx hb dX7_chance_129 (lv_at hl 2 rfl) ?_
        refine lv_lload hx hb dX7_chance_131 (lv_at hl 0 rfl) ?_
        refine lv_ldiv hx hb dX7_chance_133 (by decide +kernel) ?_
        refine mz_tl (y := 1) (by decide +kernel) ?_
        refine va_put (D := (dC, dI)) (ci := 7) (v := .long 1) (ty := .long) (C := RX7) (T := TX7) (N := 10) hx hb hts hiX7 tyX7 tyX7_ok nmX7 hown hK hP hD hS 0 rfl rfl 9 (by decide) (hts (.fieldLink RX7 62 "MadeItSo" "belowLine" "J") (by decide +kernel)) (fun _ h9 => h9) rfl (by decide +kernel) rfl rfl (Nat.le_of_ble_eq_true rfl) dX7_chance_134 (fun H locs hP hD hS => ?_)
        have hP : va_P (dC, dI) vwCl [(mx, .inr (7, [.ref dr, .ref th, .ref bk, .ref wt, .ref tt, .ref lh, .ref la, .int 0, .long 1, .long 1])), (bk, .inr (1, [.ref bp])), (wt, .inr (6, [.ref wo, .int 0])), (wo, .inl (cJ, 256, .inr (.inl fx1))), (dr, .inr (2, [.ref dp, .ref dc, .int 0]))] H := hP
        have hD : va_D A [(mx, .inr (7, [.ref dr, .ref th, .ref bk, .ref wt, .ref tt, .ref lh, .ref la, .int 0, .long 1, .long 1])), (bk, .inr (1, [.ref bp])), (wt, .inr (6, [.ref wo, .int 0])), (wo, .inl (cJ, 256, .inr (.inl fx1))), (dr, .inr (2, [.ref dp, .ref dc, .int 0]))] := hD
        refine lv_iconst (v := 1) hx hb dX7_chance_137 (by decide +kernel) ?_
        have hP9 := hP.sub (ws' := []) [] rfl
        have hD9 := hD.sub (ws' := []) [] (by decide) rfl
        refine W.widen (k := 0) (n := 0) (Nat.le_of_ble_eq_true rfl) (Nat.le_of_ble_eq_true rfl) ?_
        exact W.iret (v := 1) hx hb hr (fun t ht hW => ⟨⟨1, (), rfl, by simp [*], by rw [ht]; exact hP9, hD9⟩, hS.F ht⟩) hS.2.2 dX7_chance_138
      · skip
        have hPc := hP.sub (ws' := [(mx, .inr (7, [.ref dr, .ref th, .ref bk, .ref wt, .ref tt, .ref lh, .ref la, .int 0, .long 0, .long 1])), (dr, .inr (2, [.ref dp, .ref dc, .int 0]))]) [0, 1] rfl
        refine va_calli (va_runV (As := [.int p3]) (rest := []) ⟨hx, hb, hml, hown, hts⟩ (mz_isSetting_n l dC dI cI cJ cZ mx dr th bk wt tt lh la dp dc 0 1 p3 H hz_28) (cwV 1 hts gX7_chance_X7_isSetting rfl rfl rfl (by decide +kernel) ⟨Nat.le_of_ble_eq_true rfl, Nat.le_of_ble_eq_true rfl⟩) ⟨fun a U g mk q => mz_blP q, va_recv hK hPc (ci := 7) (q0 := 0) rfl rfl, fun U hU hW => ⟨rfl, hU, hPc, va_K.moved hW.alike hK, mz_nw hW hN⟩⟩ rfl rfl hl.1 rfl (lv_room (Nat.le_of_ble_eq_true rfl)) dX7_chance_28 ⟨Nat.le_of_ble_eq_true rfl, Nat.le_of_ble_eq_true rfl⟩) hS (fun q _ h => h.elim) (fun q h => h.elim) (fun r u t H1 locs ht hvm hw hB hz1 hk1 hS => ?_)
        have hE : H = H1 := hB.symm.trans ht
        subst hE
        obtain rfl : r = 0 := hw
        refine lv_if_ne (tgt := 36) hx hb dX7_chance_31 (by decide) (fun c_31 => absurd (by decide +kernel) c_31) (fun _ => ?_)
        refine lv_iconst (v := (-1)) hx hb dX7_chance_34 (by decide +kernel) ?_
        have hP9 := hP.sub (ws' := []) [] rfl
        have hD9 := hD.sub (ws' := []) [] (by decide) rfl
        refine W.widen (k := 0) (n := 0) (Nat.le_of_ble_eq_true rfl) (Nat.le_of_ble_eq_true rfl) ?_
        exact W.iret (v := (-1)) hx hb hr (fun t ht hW => ⟨⟨(-1), (), rfl, by simp [*], by rw [ht]; exact hP9, hD9⟩, hS.F ht⟩) hS.2.2 dX7_chance_35
    · skip
      have hPc := hP.sub (ws' := [(mx, .inr (7, [.ref dr, .ref th, .ref bk, .ref wt, .ref tt, .ref lh, .ref la, .int 0, .long 0, .long 1])), (dr, .inr (2, [.ref dp, .ref dc, .int 0]))]) [0, 1] rfl
      refine va_calli (va_runV (As := [.int p2]) (rest := []) ⟨hx, hb, hml, hown, hts⟩ (mz_isSetting_n l dC dI cI cJ cZ mx dr th bk wt tt lh la dp dc 0 1 p2 H hz_20) (cwV 1 hts gX7_chance_X7_isSetting rfl rfl rfl (by decide +kernel) ⟨Nat.le_of_ble_eq_true rfl, Nat.le_of_ble_eq_true rfl⟩) ⟨fun a U g mk q => mz_blP q, va_recv hK hPc (ci := 7) (q0 := 0) rfl rfl, fun U hU hW => ⟨rfl, hU, hPc, va_K.moved hW.alike hK, mz_nw hW hN⟩⟩ rfl rfl hl.1 rfl (lv_room (Nat.le_of_ble_eq_true rfl)) dX7_chance_20 ⟨Nat.le_of_ble_eq_true rfl, Nat.le_of_ble_eq_true rfl⟩) hS (fun q _ h => h.elim) (fun q h => h.elim) (fun r u t H1 locs ht hvm hw hB hz1 hk1 hS => ?_)
      have hE : H = H1 := hB.symm.trans ht
      subst hE
      obtain rfl : r = 0 := hw
      refine lv_if_eq (tgt := 34) hx hb dX7_chance_23 (by decide) (fun _ => ?_) (fun c_23 => absurd (by decide +kernel) c_23)
      refine lv_iconst (v := (-1)) hx hb dX7_chance_34 (by decide +kernel) ?_
      have hP9 := hP.sub (ws' := []) [] rfl
      have hD9 := hD.sub (ws' := []) [] (by decide) rfl
      refine W.widen (k := 0) (n := 0) (Nat.le_of_ble_eq_true rfl) (Nat.le_of_ble_eq_true rfl) ?_
      exact W.iret (v := (-1)) hx hb hr (fun t ht hW => ⟨⟨(-1), (), rfl, by simp [*], by rw [ht]; exact hP9, hD9⟩, hS.F ht⟩) hS.2.2 dX7_chance_35
  · skip
    have hPc := hP.sub (ws' := [(mx, .inr (7, [.ref dr, .ref th, .ref bk, .ref wt, .ref tt, .ref lh, .ref la, .int 0, .long 0, .long 1])), (dr, .inr (2, [.ref dp, .ref dc, .int 0]))]) [0, 1] rfl
    refine va_calli (va_runV (As := [.int p1]) (rest := []) ⟨hx, hb, hml, hown, hts⟩ (mz_isSetting_n l dC dI cI cJ cZ mx dr th bk wt tt lh la dp dc 0 1 p1 H hz_12) (cwV 1 hts gX7_chance_X7_isSetting rfl rfl rfl (by decide +kernel) ⟨Nat.le_of_ble_eq_true rfl, Nat.le_of_ble_eq_true rfl⟩) ⟨fun a U g mk q => mz_blP q, va_recv hK hPc (ci := 7) (q0 := 0) rfl rfl, fun U hU hW => ⟨rfl, hU, hPc, va_K.moved hW.alike hK, mz_nw hW hN⟩⟩ rfl rfl hl.1 rfl (lv_room (Nat.le_of_ble_eq_true rfl)) dX7_chance_12 ⟨Nat.le_of_ble_eq_true rfl, Nat.le_of_ble_eq_true rfl⟩) hS (fun q _ h => h.elim) (fun q h => h.elim) (fun r u t H1 locs ht hvm hw hB hz1 hk1 hS => ?_)
    have hE : H = H1 := hB.symm.trans ht
    subst hE
    obtain rfl : r = 0 := hw
    refine lv_if_eq (tgt := 34) hx hb dX7_chance_15 (by decide) (fun _ => ?_) (fun c_15 => absurd (by decide +kernel) c_15)
    refine lv_iconst (v := (-1)) hx hb dX7_chance_34 (by decide +kernel) ?_
    have hP9 := hP.sub (ws' := []) [] rfl
    have hD9 := hD.sub (ws' := []) [] (by decide) rfl
    refine W.widen (k := 0) (n := 0) (Nat.le_of_ble_eq_true rfl) (Nat.le_of_ble_eq_true rfl) ?_
    exact W.iret (v := (-1)) hx hb hr (fun t ht hW => ⟨⟨(-1), (), rfl, by simp [*], by rw [ht]; exact hP9, hD9⟩, hS.F ht⟩) hS.2.2 dX7_chance_35
end
section
/-! the reference without things -/
set_option maxHeartbeats 1000000 in
set_option maxRecDepth 100000 in
theorem mz_M_isThing (l : Launch) (dC : Nat → ClassId) (dI : Nat → Nat → Nat) (cI cJ cZ : ClassId) (mo : Nat) (m1 : Nat) (m2 : Nat) (m3 : Nat) (m6 : Nat) (m7 : Nat) (m8 : Nat) (m9 : Nat) (m10 : Nat) (m11 : Nat) (m12 : Nat) (m13 : Nat) (m14 : Nat) (m15 : Nat) (m16 : Nat) (p0 : Int32) (Hq : Heap)  : Met l yX8_isThing wsX8_isThing ({ frames := 0, cells := 0, slots := 0, locals := 0 }) (va_Pc [.ref mo, .int p0] (fun U => U.heap = Hq ∧ va_P (dC, dI) vwCl [(mo, .inr (8, [.int 0, .ref m1, .ref m2, .ref m3, .long 0, .long 1, .ref m6, .ref m7, .ref m8, .ref m9, .ref m10, .ref m11, .ref m12, .ref m13, .ref m14, .ref m15, .ref m16]))] Hq ∧ va_K (dC, dI) vwCl [(cI, FieldType.int), (cJ, FieldType.long), (cZ, FieldType.boolean)] U ∧ mz_N U)) (va_Qi (fun (r : Int32) (_ : Unit) => r = 0) (fun _ t => t.heap = Hq) (fun _ : Nat => False)) 0 0 (fun _ : Nat => False) := by
  refine Met.ofW (cc := cX8_isThing) (maxL := 2) (ret := (some .boolean)) (by decide) rfl ?_
  intro p e s m args below meth c s₁ B hml hv
  obtain ⟨rfl, hH, hP, hK, hN⟩ := hv
  subst hH
  have hx := B.exec
  have hb := B.bytes
  have hr := B.returns
  have hts := atoms_spec (ws := wsX8_isThing) B.pre
  have hown : s.vm.findClass RX8 = some m.cls := findClass_of_methodNamed B.named
  have hlocks := B.notSynchronized
  have hS : va_S (fun _ : Nat => False) s.heap s.heap [] := va_S.rf
  have hiX8 : ∀ w ∈ u_ws RX8 TX8 17, w ∈ wsX8_isThing := by decide +kernel
  have hl := lv_entry ([.ref mo, .int p0]) (n := 2) (Nat.le_of_ble_eq_true rfl)
  rw [lg_entry_eq]
  generalize (lg_sl ([.ref mo, .int p0]) ++ List.replicate (2 - (lg_sl ([.ref mo, .int p0])).length) Slot.unset).toArray = ls at hl ⊢
  have hl : lv_has ls 2 [(0, .ref mo), (1, .int p0)] := hl
  refine lv_iload_n hx hb dX8_isThing_0 rfl (lv_at hl 1 rfl) ?_
  refine lv_if_lt (tgt := 16) hx hb dX8_isThing_1 (by decide) (fun c_1 => ?_) (fun c_1 => ?_)
  · skip
    refine lv_iconst (v := 0) hx hb dX8_isThing_16 (by decide +kernel) ?_
    refine W.widen (k := 0) (n := 0) (Nat.le_of_ble_eq_true rfl) (Nat.le_of_ble_eq_true rfl) ?_
    exact W.zret (v := 0) hx hb hr (mz_nz (by decide +kernel)) (fun t ht hW => ⟨⟨0, (), rfl, rfl, ht⟩, hS.F ht⟩) hS.2.2 dX8_isThing_17
  · skip
    refine lv_iload_n hx hb dX8_isThing_4 rfl (lv_at hl 1 rfl) ?_
    refine lv_aload_n hx hb dX8_isThing_5 rfl (lv_at hl 0 rfl) ?_
    refine va_get (D := (dC, dI)) (ci := 8) (v := .int 0) (C := RX8) (T := TX8) (N := 17) hx hb hts hiX8 hown hK hP 0 rfl rfl 0 (by decide) (hts (.fieldLink RX8 58 "MadeItSoModel" "many" "I") (by decide +kernel)) (fun _ h9 => h9) rfl dX8_isThing_6 ?_
    refine lv_icmp_ge (tgt := 16) hx hb dX8_isThing_9 (by decide) (fun _ => ?_) (fun c_9 => absurd (mz_nn c_1) c_9)
    refine lv_iconst (v := 0) hx hb dX8_isThing_16 (by decide +kernel) ?_
    refine W.widen (k := 0) (n := 0) (Nat.le_of_ble_eq_true rfl) (Nat.le_of_ble_eq_true rfl) ?_
    exact W.zret (v := 0) hx hb hr (mz_nz (by decide +kernel)) (fun t ht hW => ⟨⟨0, (), rfl, rfl, ht⟩, hS.F ht⟩) hS.2.2 dX8_isThing_17
set_option maxHeartbeats 1000000 in
set_option maxRecDepth 100000 in
theorem mz_M_isHeap_0 (l : Launch) (dC : Nat → ClassId) (dI : Nat → Nat → Nat) (cI cJ cZ : ClassId) (mo : Nat) (m1 : Nat) (m2 : Nat) (m3 : Nat) (m6 : Nat) (m7 : Nat) (m8 : Nat) (m9 : Nat) (m10 : Nat) (m11 : Nat) (m12 : Nat) (m13 : Nat) (m14 : Nat) (m15 : Nat) (m16 : Nat) (la1 : Int64) (lb1 : Int64) (Hq : Heap)  : Met l yX8_isHeap wsX8_isHeap ({ frames := 0, cells := 0, slots := 0, locals := 0 }) (va_Pc [.ref mo, .int 0] (fun U => U.heap = Hq ∧ va_P (dC, dI) vwCl [(mo, .inr (8, [.int 0, .ref m1, .ref m2, .ref m3, .long la1, .long lb1, .ref m6, .ref m7, .ref m8, .ref m9, .ref m10, .ref m11, .ref m12, .ref m13, .ref m14, .ref m15, .ref m16]))] Hq ∧ va_K (dC, dI) vwCl [(cI, FieldType.int), (cJ, FieldType.long), (cZ, FieldType.boolean)] U ∧ mz_N U)) (va_Qi (fun (r : Int32) (_ : Unit) => r = 1) (fun _ t => t.heap = Hq) (fun _ : Nat => False)) 0 0 (fun _ : Nat => False) := by
  refine Met.ofW (cc := cX8_isHeap) (maxL := 2) (ret := (some .boolean)) (by decide) rfl ?_
  intro p e s m args below meth c s₁ B hml hv
  obtain ⟨rfl, hH, hP, hK, hN⟩ := hv
  subst hH
  have hx := B.exec
  have hb := B.bytes
  have hr := B.returns
  have hts := atoms_spec (ws := wsX8_isHeap) B.pre
  have hown : s.vm.findClass RX8 = some m.cls := findClass_of_methodNamed B.named
  have hlocks := B.notSynchronized
  have hS : va_S (fun _ : Nat => False) s.heap s.heap [] := va_S.rf
  have hiX8 : ∀ w ∈ u_ws RX8 TX8 17, w ∈ wsX8_isHeap := by decide +kernel
  have hl := lv_entry ([.ref mo, .int 0]) (n := 2) (Nat.le_of_ble_eq_true rfl)
  rw [lg_entry_eq]
  generalize (lg_sl ([.ref mo, .int 0]) ++ List.replicate (2 - (lg_sl ([.ref mo, .int 0])).length) Slot.unset).toArray = ls at hl ⊢
  have hl : lv_has ls 2 [(0, .ref mo), (1, .int 0)] := hl
  refine lv_iload_n hx hb dX8_isHeap_0 rfl (lv_at hl 1 rfl) ?_
  refine lv_if_lt (tgt := 18) hx hb dX8_isHeap_1 (by decide) (fun c_1 => absurd c_1 (by decide +kernel)) (fun _ => ?_)
  refine lv_iload_n hx hb dX8_isHeap_4 rfl (lv_at hl 1 rfl) ?_
  refine lv_iconst (v := 1) hx hb dX8_isHeap_5 (by decide +kernel) ?_
  refine lv_aload_n hx hb dX8_isHeap_6 rfl (lv_at hl 0 rfl) ?_
  refine va_get (D := (dC, dI)) (ci := 8) (v := .int 0) (C := RX8) (T := TX8) (N := 17) hx hb hts hiX8 hown hK hP 0 rfl rfl 0 (by decide) (hts (.fieldLink RX8 58 "MadeItSoModel" "many" "I") (by decide +kernel)) (fun _ h9 => h9) rfl dX8_isHeap_7 ?_
  refine lv_ishl hx hb dX8_isHeap_10 ?_
  refine mz_ti (y := 1) (by decide +kernel) ?_
  refine lv_icmp_ge (tgt := 18) hx hb dX8_isHeap_11 (by decide) (fun c_11 => absurd c_11 (by decide +kernel)) (fun _ => ?_)
  refine lv_iconst (v := 1) hx hb dX8_isHeap_14 (by decide +kernel) ?_
  refine lv_goto (tgt := 19) hx hb dX8_isHeap_15 (by decide) ?_
  refine W.widen (k := 0) (n := 0) (Nat.le_of_ble_eq_true rfl) (Nat.le_of_ble_eq_true rfl) ?_
  exact W.zret (v := 1) hx hb hr (mz_nz (by decide +kernel)) (fun t ht hW => ⟨⟨1, (), rfl, rfl, ht⟩, hS.F ht⟩) hS.2.2 dX8_isHeap_19
set_option maxHeartbeats 1000000 in
set_option maxRecDepth 100000 in
theorem mz_M_isHeap_n (l : Launch) (dC : Nat → ClassId) (dI : Nat → Nat → Nat) (cI cJ cZ : ClassId) (mo : Nat) (m1 : Nat) (m2 : Nat) (m3 : Nat) (m6 : Nat) (m7 : Nat) (m8 : Nat) (m9 : Nat) (m10 : Nat) (m11 : Nat) (m12 : Nat) (m13 : Nat) (m14 : Nat) (m15 : Nat) (m16 : Nat) (la1 : Int64) (lb1 : Int64) (p0 : Int32) (Hq : Heap) (hne : ¬ p0 = 0) : Met l yX8_isHeap wsX8_isHeap ({ frames := 0, cells := 0, slots := 0, locals := 0 }) (va_Pc [.ref mo, .int p0] (fun U => U.heap = Hq ∧ va_P (dC, dI) vwCl [(mo, .inr (8, [.int 0, .ref m1, .ref m2, .ref m3, .long la1, .long lb1, .ref m6, .ref m7, .ref m8, .ref m9, .ref m10, .ref m11, .ref m12, .ref m13, .ref m14, .ref m15, .ref m16]))] Hq ∧ va_K (dC, dI) vwCl [(cI, FieldType.int), (cJ, FieldType.long), (cZ, FieldType.boolean)] U ∧ mz_N U)) (va_Qi (fun (r : Int32) (_ : Unit) => r = 0) (fun _ t => t.heap = Hq) (fun _ : Nat => False)) 0 0 (fun _ : Nat => False) := by
  refine Met.ofW (cc := cX8_isHeap) (maxL := 2) (ret := (some .boolean)) (by decide) rfl ?_
  intro p e s m args below meth c s₁ B hml hv
  obtain ⟨rfl, hH, hP, hK, hN⟩ := hv
  subst hH
  have hx := B.exec
  have hb := B.bytes
  have hr := B.returns
  have hts := atoms_spec (ws := wsX8_isHeap) B.pre
  have hown : s.vm.findClass RX8 = some m.cls := findClass_of_methodNamed B.named
  have hlocks := B.notSynchronized
  have hS : va_S (fun _ : Nat => False) s.heap s.heap [] := va_S.rf
  have hiX8 : ∀ w ∈ u_ws RX8 TX8 17, w ∈ wsX8_isHeap := by decide +kernel
  have hl := lv_entry ([.ref mo, .int p0]) (n := 2) (Nat.le_of_ble_eq_true rfl)
  rw [lg_entry_eq]
  generalize (lg_sl ([.ref mo, .int p0]) ++ List.replicate (2 - (lg_sl ([.ref mo, .int p0])).length) Slot.unset).toArray = ls at hl ⊢
  have hl : lv_has ls 2 [(0, .ref mo), (1, .int p0)] := hl
  refine lv_iload_n hx hb dX8_isHeap_0 rfl (lv_at hl 1 rfl) ?_
  refine lv_if_lt (tgt := 18) hx hb dX8_isHeap_1 (by decide) (fun c_1 => ?_) (fun c_1 => ?_)
  · skip
    refine lv_iconst (v := 0) hx hb dX8_isHeap_18 (by decide +kernel) ?_
    refine W.widen (k := 0) (n := 0) (Nat.le_of_ble_eq_true rfl) (Nat.le_of_ble_eq_true rfl) ?_
    exact W.zret (v := 0) hx hb hr (mz_nz (by decide +kernel)) (fun t ht hW => ⟨⟨0, (), rfl, rfl, ht⟩, hS.F ht⟩) hS.2.2 dX8_isHeap_19
  · skip
    refine lv_iload_n hx hb dX8_isHeap_4 rfl (lv_at hl 1 rfl) ?_
    refine lv_iconst (v := 1) hx hb dX8_isHeap_5 (by decide +kernel) ?_
    refine lv_aload_n hx hb dX8_isHeap_6 rfl (lv_at hl 0 rfl) ?_
    refine va_get (D := (dC, dI)) (ci := 8) (v := .int 0) (C := RX8) (T := TX8) (N := 17) hx hb hts hiX8 hown hK hP 0 rfl rfl 0 (by decide) (hts (.fieldLink RX8 58 "MadeItSoModel" "many" "I") (by decide +kernel)) (fun _ h9 => h9) rfl dX8_isHeap_7 ?_
    refine lv_ishl hx hb dX8_isHeap_10 ?_
    refine mz_ti (y := 1) (by decide +kernel) ?_
    refine lv_icmp_ge (tgt := 18) hx hb dX8_isHeap_11 (by decide) (fun c_11 => ?_) (fun c_11 => ?_)
    · skip
      refine lv_iconst (v := 0) hx hb dX8_isHeap_18 (by decide +kernel) ?_
      refine W.widen (k := 0) (n := 0) (Nat.le_of_ble_eq_true rfl) (Nat.le_of_ble_eq_true rfl) ?_
      exact W.zret (v := 0) hx hb hr (mz_nz (by decide +kernel)) (fun t ht hW => ⟨⟨0, (), rfl, rfl, ht⟩, hS.F ht⟩) hS.2.2 dX8_isHeap_19
    · skip
      refine lv_iconst (v := 1) hx hb dX8_isHeap_14 (by decide +kernel) ?_
      refine lv_goto (tgt := 19) hx hb dX8_isHeap_15 (by decide) ?_
      refine W.widen (k := 0) (n := 0) (Nat.le_of_ble_eq_true rfl) (Nat.le_of_ble_eq_true rfl) ?_
      exact W.zret (v := 1) hx hb hr (mz_nz (by decide +kernel)) (fun t ht hW => ⟨⟨1, (), rfl, absurd (mz_h1 c_1 c_11) hne, ht⟩, hS.F ht⟩) hS.2.2 dX8_isHeap_19
set_option maxHeartbeats 1000000 in
set_option maxRecDepth 100000 in
theorem mz_M_isSetting_0 (l : Launch) (dC : Nat → ClassId) (dI : Nat → Nat → Nat) (cI cJ cZ : ClassId) (mo : Nat) (m1 : Nat) (m2 : Nat) (m3 : Nat) (m6 : Nat) (m7 : Nat) (m8 : Nat) (m9 : Nat) (m10 : Nat) (m11 : Nat) (m12 : Nat) (m13 : Nat) (m14 : Nat) (m15 : Nat) (m16 : Nat) (la1 : Int64) (lb1 : Int64) (Hq : Heap)  : Met l yX8_isSetting wsX8_isSetting ({ frames := 1, cells := 0, slots := 0, locals := 21 }) (va_Pc [.ref mo, .int 0] (fun U => U.heap = Hq ∧ va_P (dC, dI) vwCl [(mo, .inr (8, [.int 0, .ref m1, .ref m2, .ref m3, .long la1, .long lb1, .ref m6, .ref m7, .ref m8, .ref m9, .ref m10, .ref m11, .ref m12, .ref m13, .ref m14, .ref m15, .ref m16]))] Hq ∧ va_K (dC, dI) vwCl [(cI, FieldType.int), (cJ, FieldType.long), (cZ, FieldType.boolean)] U ∧ mz_N U)) (va_Qi (fun (r : Int32) (_ : Unit) => r = 1) (fun _ t => t.heap = Hq) (fun _ : Nat => False)) 0 0 (fun _ : Nat => False) := by
  refine Met.ofW (cc := cX8_isSetting) (maxL := 2) (ret := (some .boolean)) (by decide) rfl ?_
  intro p e s m args below meth c s₁ B hml hv
  obtain ⟨rfl, hH, hP, hK, hN⟩ := hv
  subst hH
  have hx := B.exec
  have hb := B.bytes
  have hr := B.returns
  have hts := atoms_spec (ws := wsX8_isSetting) B.pre
  have hown : s.vm.findClass RX8 = some m.cls := findClass_of_methodNamed B.named
  have hlocks := B.notSynchronized
  have hS : va_S (fun _ : Nat => False) s.heap s.heap [] := va_S.rf
  have hl := lv_entry ([.ref mo, .int 0]) (n := 2) (Nat.le_of_ble_eq_true rfl)
  rw [lg_entry_eq]
  generalize (lg_sl ([.ref mo, .int 0]) ++ List.replicate (2 - (lg_sl ([.ref mo, .int 0])).length) Slot.unset).toArray = ls at hl ⊢
  have hl : lv_has ls 2 [(0, .ref mo), (1, .int 0)] := hl
  refine lv_iload_n hx hb dX8_isSetting_0 rfl (lv_at hl 1 rfl) ?_
  refine lv_if_lt (tgt := 41) hx hb dX8_isSetting_1 (by decide) (fun c_1 => absurd c_1 (by decide +kernel)) (fun _ => ?_)
  refine lv_iload_n hx hb dX8_isSetting_4 rfl (lv_at hl 1 rfl) ?_
  refine lv_ldc hx hb hown (hts (.constant RX8 62 (65536)) (by decide +kernel)) dX8_isSetting_5 ?_
  refine lv_icmp_ge (tgt := 41) hx hb dX8_isSetting_7 (by decide) (fun c_7 => absurd c_7 (by decide +kernel)) (fun _ => ?_)
  refine lv_aload_n hx hb dX8_isSetting_10 rfl (lv_at hl 0 rfl) ?_
  refine lv_iload_n hx hb dX8_isSetting_11 rfl (lv_at hl 1 rfl) ?_
  refine lv_sipush (v := 255) hx hb dX8_isSetting_12 (by decide +kernel) ?_
  refine lv_iand hx hb dX8_isSetting_15 ?_
  refine mz_ti (y := 0) (by decide +kernel) ?_
  have hPc := hP.sub (ws' := [(mo, .inr (8, [.int 0, .ref m1, .ref m2, .ref m3, .long la1, .long lb1, .ref m6, .ref m7, .ref m8, .ref m9, .ref m10, .ref m11, .ref m12, .ref m13, .ref m14, .ref m15, .ref m16]))]) [0] rfl
  refine va_calli (va_runV (As := [.int 0]) (rest := []) ⟨hx, hb, hml, hown, hts⟩ (mz_M_isHeap_0 l dC dI cI cJ cZ mo m1 m2 m3 m6 m7 m8 m9 m10 m11 m12 m13 m14 m15 m16 la1 lb1 s.heap ) (cwV 1 hts gX8_isSetting_X8_isHeap rfl rfl rfl (by decide +kernel) ⟨Nat.le_of_ble_eq_true rfl, Nat.le_of_ble_eq_true rfl⟩) ⟨fun a U g mk q => mz_blP q, va_recv hK hPc (ci := 8) (q0 := 0) rfl rfl, fun U hU hW => ⟨rfl, hU, hPc, va_K.moved hW.alike hK, mz_nw hW hN⟩⟩ rfl rfl hl.1 rfl (lv_room (Nat.le_of_ble_eq_true rfl)) dX8_isSetting_16 ⟨Nat.le_of_ble_eq_true rfl, Nat.le_of_ble_eq_true rfl⟩) hS (fun q _ h => h.elim) (fun q h => h.elim) (fun r u t H1 locs ht hvm hw hB hz1 hk1 hS => ?_)
  have hE : s.heap = H1 := hB.symm.trans ht
  subst hE
  obtain rfl : r = 1 := hw
  refine lv_if_eq (tgt := 41) hx hb dX8_isSetting_19 (by decide) (fun c_19 => absurd c_19 (by decide +kernel)) (fun _ => ?_)
  refine lv_iload_n hx hb dX8_isSetting_22 rfl (lv_at hl 1 rfl) ?_
  refine lv_bipush (v := 8) hx hb dX8_isSetting_23 (by decide +kernel) ?_
  refine lv_ishr hx hb dX8_isSetting_25 ?_
  refine mz_ti (y := 0) (by decide +kernel) ?_
  refine lv_iload_n hx hb dX8_isSetting_26 rfl (lv_at hl 1 rfl) ?_
  refine lv_sipush (v := 255) hx hb dX8_isSetting_27 (by decide +kernel) ?_
  refine lv_iand hx hb dX8_isSetting_30 ?_
  refine mz_ti (y := 0) (by decide +kernel) ?_
  refine lv_iconst (v := (-1)) hx hb dX8_isSetting_31 (by decide +kernel) ?_
  refine lv_ixor hx hb dX8_isSetting_32 ?_
  refine mz_ti (y := (-1)) (by decide +kernel) ?_
  refine lv_iand hx hb dX8_isSetting_33 ?_
  refine mz_ti (y := 0) (by decide +kernel) ?_
  refine lv_if_ne (tgt := 41) hx hb dX8_isSetting_34 (by decide) (fun c_34 => absurd (by decide +kernel) c_34) (fun _ => ?_)
  refine lv_iconst (v := 1) hx hb dX8_isSetting_37 (by decide +kernel) ?_
  refine lv_goto (tgt := 42) hx hb dX8_isSetting_38 (by decide) ?_
  refine W.widen (k := 0) (n := 0) (Nat.le_of_ble_eq_true rfl) (Nat.le_of_ble_eq_true rfl) ?_
  exact W.zret (v := 1) hx hb hr (mz_nz (by decide +kernel)) (fun t ht hW => ⟨⟨1, (), rfl, rfl, ht⟩, hS.F ht⟩) hS.2.2 dX8_isSetting_42
set_option maxHeartbeats 1000000 in
set_option maxRecDepth 100000 in
theorem mz_M_isSetting_n (l : Launch) (dC : Nat → ClassId) (dI : Nat → Nat → Nat) (cI cJ cZ : ClassId) (mo : Nat) (m1 : Nat) (m2 : Nat) (m3 : Nat) (m6 : Nat) (m7 : Nat) (m8 : Nat) (m9 : Nat) (m10 : Nat) (m11 : Nat) (m12 : Nat) (m13 : Nat) (m14 : Nat) (m15 : Nat) (m16 : Nat) (la1 : Int64) (lb1 : Int64) (p0 : Int32) (Hq : Heap) (hne : ¬ p0 = 0) : Met l yX8_isSetting wsX8_isSetting ({ frames := 1, cells := 0, slots := 0, locals := 21 }) (va_Pc [.ref mo, .int p0] (fun U => U.heap = Hq ∧ va_P (dC, dI) vwCl [(mo, .inr (8, [.int 0, .ref m1, .ref m2, .ref m3, .long la1, .long lb1, .ref m6, .ref m7, .ref m8, .ref m9, .ref m10, .ref m11, .ref m12, .ref m13, .ref m14, .ref m15, .ref m16]))] Hq ∧ va_K (dC, dI) vwCl [(cI, FieldType.int), (cJ, FieldType.long), (cZ, FieldType.boolean)] U ∧ mz_N U)) (va_Qi (fun (r : Int32) (_ : Unit) => r = 0) (fun _ t => t.heap = Hq) (fun _ : Nat => False)) 0 0 (fun _ : Nat => False) := by
  refine Met.ofW (cc := cX8_isSetting) (maxL := 2) (ret := (some .boolean)) (by decide) rfl ?_
  intro p e s m args below meth c s₁ B hml hv
  obtain ⟨rfl, hH, hP, hK, hN⟩ := hv
  subst hH
  have hx := B.exec
  have hb := B.bytes
  have hr := B.returns
  have hts := atoms_spec (ws := wsX8_isSetting) B.pre
  have hown : s.vm.findClass RX8 = some m.cls := findClass_of_methodNamed B.named
  have hlocks := B.notSynchronized
  have hS : va_S (fun _ : Nat => False) s.heap s.heap [] := va_S.rf
  have hl := lv_entry ([.ref mo, .int p0]) (n := 2) (Nat.le_of_ble_eq_true rfl)
  rw [lg_entry_eq]
  generalize (lg_sl ([.ref mo, .int p0]) ++ List.replicate (2 - (lg_sl ([.ref mo, .int p0])).length) Slot.unset).toArray = ls at hl ⊢
  have hl : lv_has ls 2 [(0, .ref mo), (1, .int p0)] := hl
  refine lv_iload_n hx hb dX8_isSetting_0 rfl (lv_at hl 1 rfl) ?_
  refine lv_if_lt (tgt := 41) hx hb dX8_isSetting_1 (by decide) (fun c_1 => ?_) (fun c_1 => ?_)
  · skip
    refine lv_iconst (v := 0) hx hb dX8_isSetting_41 (by decide +kernel) ?_
    refine W.widen (k := 0) (n := 0) (Nat.le_of_ble_eq_true rfl) (Nat.le_of_ble_eq_true rfl) ?_
    exact W.zret (v := 0) hx hb hr (mz_nz (by decide +kernel)) (fun t ht hW => ⟨⟨0, (), rfl, rfl, ht⟩, hS.F ht⟩) hS.2.2 dX8_isSetting_42
  · skip
    refine lv_iload_n hx hb dX8_isSetting_4 rfl (lv_at hl 1 rfl) ?_
    refine lv_ldc hx hb hown (hts (.constant RX8 62 (65536)) (by decide +kernel)) dX8_isSetting_5 ?_
    refine lv_icmp_ge (tgt := 41) hx hb dX8_isSetting_7 (by decide) (fun c_7 => ?_) (fun c_7 => ?_)
    · skip
      refine lv_iconst (v := 0) hx hb dX8_isSetting_41 (by decide +kernel) ?_
      refine W.widen (k := 0) (n := 0) (Nat.le_of_ble_eq_true rfl) (Nat.le_of_ble_eq_true rfl) ?_
      exact W.zret (v := 0) hx hb hr (mz_nz (by decide +kernel)) (fun t ht hW => ⟨⟨0, (), rfl, rfl, ht⟩, hS.F ht⟩) hS.2.2 dX8_isSetting_42
    · skip
      refine lv_aload_n hx hb dX8_isSetting_10 rfl (lv_at hl 0 rfl) ?_
      refine lv_iload_n hx hb dX8_isSetting_11 rfl (lv_at hl 1 rfl) ?_
      refine lv_sipush (v := 255) hx hb dX8_isSetting_12 (by decide +kernel) ?_
      refine lv_iand hx hb dX8_isSetting_15 ?_
      by_cases hz_16 : (p0 &&& 255) = 0
      · refine mz_ti (y := 0) hz_16 ?_
        have hPc := hP.sub (ws' := [(mo, .inr (8, [.int 0, .ref m1, .ref m2, .ref m3, .long la1, .long lb1, .ref m6, .ref m7, .ref m8, .ref m9, .ref m10, .ref m11, .ref m12, .ref m13, .ref m14, .ref m15, .ref m16]))]) [0] rfl
        refine va_calli (va_runV (As := [.int 0]) (rest := []) ⟨hx, hb, hml, hown, hts⟩ (mz_M_isHeap_0 l dC dI cI cJ cZ mo m1 m2 m3 m6 m7 m8 m9 m10 m11 m12 m13 m14 m15 m16 la1 lb1 s.heap ) (cwV 1 hts gX8_isSetting_X8_isHeap rfl rfl rfl (by decide +kernel) ⟨Nat.le_of_ble_eq_true rfl, Nat.le_of_ble_eq_true rfl⟩) ⟨fun a U g mk q => mz_blP q, va_recv hK hPc (ci := 8) (q0 := 0) rfl rfl, fun U hU hW => ⟨rfl, hU, hPc, va_K.moved hW.alike hK, mz_nw hW hN⟩⟩ rfl rfl hl.1 rfl (lv_room (Nat.le_of_ble_eq_true rfl)) dX8_isSetting_16 ⟨Nat.le_of_ble_eq_true rfl, Nat.le_of_ble_eq_true rfl⟩) hS (fun q _ h => h.elim) (fun q h => h.elim) (fun r u t H1 locs ht hvm hw hB hz1 hk1 hS => ?_)
        have hE : s.heap = H1 := hB.symm.trans ht
        subst hE
        obtain rfl : r = 1 := hw
        refine lv_if_eq (tgt := 41) hx hb dX8_isSetting_19 (by decide) (fun c_19 => absurd c_19 (by decide +kernel)) (fun _ => ?_)
        refine lv_iload_n hx hb dX8_isSetting_22 rfl (lv_at hl 1 rfl) ?_
        refine lv_bipush (v := 8) hx hb dX8_isSetting_23 (by decide +kernel) ?_
        refine lv_ishr hx hb dX8_isSetting_25 ?_
        refine lv_iload_n hx hb dX8_isSetting_26 rfl (lv_at hl 1 rfl) ?_
        refine lv_sipush (v := 255) hx hb dX8_isSetting_27 (by decide +kernel) ?_
        refine lv_iand hx hb dX8_isSetting_30 ?_
        refine lv_iconst (v := (-1)) hx hb dX8_isSetting_31 (by decide +kernel) ?_
        refine lv_ixor hx hb dX8_isSetting_32 ?_
        refine lv_iand hx hb dX8_isSetting_33 ?_
        refine lv_if_ne (tgt := 41) hx hb dX8_isSetting_34 (by decide) (fun c_34 => ?_) (fun c_34 => ?_)
        · skip
          refine lv_iconst (v := 0) hx hb dX8_isSetting_41 (by decide +kernel) ?_
          refine W.widen (k := 0) (n := 0) (Nat.le_of_ble_eq_true rfl) (Nat.le_of_ble_eq_true rfl) ?_
          exact W.zret (v := 0) hx hb hr (mz_nz (by decide +kernel)) (fun t ht hW => ⟨⟨0, (), rfl, rfl, ht⟩, hS.F ht⟩) hS.2.2 dX8_isSetting_42
        · skip
          refine lv_iconst (v := 1) hx hb dX8_isSetting_37 (by decide +kernel) ?_
          refine lv_goto (tgt := 42) hx hb dX8_isSetting_38 (by decide) ?_
          refine W.widen (k := 0) (n := 0) (Nat.le_of_ble_eq_true rfl) (Nat.le_of_ble_eq_true rfl) ?_
          exact W.zret (v := 1) hx hb hr (mz_nz (by decide +kernel)) (fun t ht hW => ⟨⟨1, (), rfl, absurd (mz_setM c_1 c_7 hz_16 c_34) hne, ht⟩, hS.F ht⟩) hS.2.2 dX8_isSetting_42
      · skip
        have hPc := hP.sub (ws' := [(mo, .inr (8, [.int 0, .ref m1, .ref m2, .ref m3, .long la1, .long lb1, .ref m6, .ref m7, .ref m8, .ref m9, .ref m10, .ref m11, .ref m12, .ref m13, .ref m14, .ref m15, .ref m16]))]) [0] rfl
        refine va_calli (va_runV (As := [.int (p0 &&& 255)]) (rest := []) ⟨hx, hb, hml, hown, hts⟩ (mz_M_isHeap_n l dC dI cI cJ cZ mo m1 m2 m3 m6 m7 m8 m9 m10 m11 m12 m13 m14 m15 m16 la1 lb1 (p0 &&& 255) s.heap hz_16) (cwV 1 hts gX8_isSetting_X8_isHeap rfl rfl rfl (by decide +kernel) ⟨Nat.le_of_ble_eq_true rfl, Nat.le_of_ble_eq_true rfl⟩) ⟨fun a U g mk q => mz_blP q, va_recv hK hPc (ci := 8) (q0 := 0) rfl rfl, fun U hU hW => ⟨rfl, hU, hPc, va_K.moved hW.alike hK, mz_nw hW hN⟩⟩ rfl rfl hl.1 rfl (lv_room (Nat.le_of_ble_eq_true rfl)) dX8_isSetting_16 ⟨Nat.le_of_ble_eq_true rfl, Nat.le_of_ble_eq_true rfl⟩) hS (fun q _ h => h.elim) (fun q h => h.elim) (fun r u t H1 locs ht hvm hw hB hz1 hk1 hS => ?_)
        have hE : s.heap = H1 := hB.symm.trans ht
        subst hE
        obtain rfl : r = 0 := hw
        refine lv_if_eq (tgt := 41) hx hb dX8_isSetting_19 (by decide) (fun _ => ?_) (fun c_19 => absurd (by decide +kernel) c_19)
        refine lv_iconst (v := 0) hx hb dX8_isSetting_41 (by decide +kernel) ?_
        refine W.widen (k := 0) (n := 0) (Nat.le_of_ble_eq_true rfl) (Nat.le_of_ble_eq_true rfl) ?_
        exact W.zret (v := 0) hx hb hr (mz_nz (by decide +kernel)) (fun t ht hW => ⟨⟨0, (), rfl, rfl, ht⟩, hS.F ht⟩) hS.2.2 dX8_isSetting_42
set_option maxHeartbeats 1000000 in
set_option maxRecDepth 100000 in
theorem mz_M_has (l : Launch) (dC : Nat → ClassId) (dI : Nat → Nat → Nat) (cI cJ cZ : ClassId) (mo : Nat) (m1 : Nat) (m2 : Nat) (m3 : Nat) (m6 : Nat) (m7 : Nat) (m8 : Nat) (m9 : Nat) (m10 : Nat) (m11 : Nat) (m12 : Nat) (m13 : Nat) (m14 : Nat) (m15 : Nat) (m16 : Nat) (p0 : Int32) (p1 : Int32) (Hq : Heap)  : Met l yX8_has wsX8_has ({ frames := 1, cells := 0, slots := 0, locals := 21 }) (va_Pc [.ref mo, .int p0, .int p1] (fun U => U.heap = Hq ∧ va_P (dC, dI) vwCl [(mo, .inr (8, [.int 0, .ref m1, .ref m2, .ref m3, .long 0, .long 1, .ref m6, .ref m7, .ref m8, .ref m9, .ref m10, .ref m11, .ref m12, .ref m13, .ref m14, .ref m15, .ref m16]))] Hq ∧ va_K (dC, dI) vwCl [(cI, FieldType.int), (cJ, FieldType.long), (cZ, FieldType.boolean)] U ∧ mz_N U)) (va_Qi (fun (r : Int32) (_ : Unit) => r = 0) (fun _ t => t.heap = Hq) (fun _ : Nat => False)) 0 0 (fun _ : Nat => False) := by
  refine Met.ofW (cc := cX8_has) (maxL := 3) (ret := (some .boolean)) (by decide) rfl ?_
  intro p e s m args below meth c s₁ B hml hv
  obtain ⟨rfl, hH, hP, hK, hN⟩ := hv
  subst hH
  have hx := B.exec
  have hb := B.bytes
  have hr := B.returns
  have hts := atoms_spec (ws := wsX8_has) B.pre
  have hown : s.vm.findClass RX8 = some m.cls := findClass_of_methodNamed B.named
  have hlocks := B.notSynchronized
  have hS : va_S (fun _ : Nat => False) s.heap s.heap [] := va_S.rf
  have hl := lv_entry ([.ref mo, .int p0, .int p1]) (n := 3) (Nat.le_of_ble_eq_true rfl)
  rw [lg_entry_eq]
  generalize (lg_sl ([.ref mo, .int p0, .int p1]) ++ List.replicate (3 - (lg_sl ([.ref mo, .int p0, .int p1])).length) Slot.unset).toArray = ls at hl ⊢
  have hl : lv_has ls 3 [(0, .ref mo), (1, .int p0), (2, .int p1)] := hl
  refine lv_aload_n hx hb dX8_has_0 rfl (lv_at hl 0 rfl) ?_
  refine lv_iload_n hx hb dX8_has_1 rfl (lv_at hl 1 rfl) ?_
  have hPc := hP.sub (ws' := [(mo, .inr (8, [.int 0, .ref m1, .ref m2, .ref m3, .long 0, .long 1, .ref m6, .ref m7, .ref m8, .ref m9, .ref m10, .ref m11, .ref m12, .ref m13, .ref m14, .ref m15, .ref m16]))]) [0] rfl
  refine va_calli (va_runV (As := [.int p0]) (rest := []) ⟨hx, hb, hml, hown, hts⟩ (mz_M_isThing l dC dI cI cJ cZ mo m1 m2 m3 m6 m7 m8 m9 m10 m11 m12 m13 m14 m15 m16 p0 s.heap ) (cwV 1 hts gX8_has_X8_isThing rfl rfl rfl (by decide +kernel) ⟨Nat.le_of_ble_eq_true rfl, Nat.le_of_ble_eq_true rfl⟩) ⟨fun a U g mk q => mz_blP q, va_recv hK hPc (ci := 8) (q0 := 0) rfl rfl, fun U hU hW => ⟨rfl, hU, hPc, va_K.moved hW.alike hK, mz_nw hW hN⟩⟩ rfl rfl hl.1 rfl (lv_room (Nat.le_of_ble_eq_true rfl)) dX8_has_2 ⟨Nat.le_of_ble_eq_true rfl, Nat.le_of_ble_eq_true rfl⟩) hS (fun q _ h => h.elim) (fun q h => h.elim) (fun r u t H1 locs ht hvm hw hB hz1 hk1 hS => ?_)
  have hE : s.heap = H1 := hB.symm.trans ht
  subst hE
  obtain rfl : r = 0 := hw
  refine lv_if_eq (tgt := 34) hx hb dX8_has_5 (by decide) (fun _ => ?_) (fun c_5 => absurd (by decide +kernel) c_5)
  refine lv_iconst (v := 0) hx hb dX8_has_34 (by decide +kernel) ?_
  refine W.widen (k := 0) (n := 0) (Nat.le_of_ble_eq_true rfl) (Nat.le_of_ble_eq_true rfl) ?_
  exact W.zret (v := 0) hx hb hr (mz_nz (by decide +kernel)) (fun t ht hW => ⟨⟨0, (), rfl, rfl, ht⟩, hS.F ht⟩) hS.2.2 dX8_has_35
set_option maxHeartbeats 1000000 in
set_option maxRecDepth 100000 in
theorem mz_M_isRow (l : Launch) (dC : Nat → ClassId) (dI : Nat → Nat → Nat) (cI cJ cZ : ClassId) (mo : Nat) (m1 : Nat) (m2 : Nat) (m3 : Nat) (m6 : Nat) (m7 : Nat) (m8 : Nat) (m9 : Nat) (m10 : Nat) (m11 : Nat) (m12 : Nat) (m13 : Nat) (m14 : Nat) (m15 : Nat) (m16 : Nat) (p0 : Int32) (p1 : Int32) (Hq : Heap)  : Met l yX8_isRow wsX8_isRow ({ frames := 1, cells := 0, slots := 0, locals := 21 }) (va_Pc [.ref mo, .int p0, .int p1] (fun U => U.heap = Hq ∧ va_P (dC, dI) vwCl [(mo, .inr (8, [.int 0, .ref m1, .ref m2, .ref m3, .long 0, .long 1, .ref m6, .ref m7, .ref m8, .ref m9, .ref m10, .ref m11, .ref m12, .ref m13, .ref m14, .ref m15, .ref m16]))] Hq ∧ va_K (dC, dI) vwCl [(cI, FieldType.int), (cJ, FieldType.long), (cZ, FieldType.boolean)] U ∧ mz_N U)) (va_Qi (fun (r : Int32) (_ : Unit) => r = 0) (fun _ t => t.heap = Hq) (fun _ : Nat => False)) 0 0 (fun _ : Nat => False) := by
  refine Met.ofW (cc := cX8_isRow) (maxL := 3) (ret := (some .boolean)) (by decide) rfl ?_
  intro p e s m args below meth c s₁ B hml hv
  obtain ⟨rfl, hH, hP, hK, hN⟩ := hv
  subst hH
  have hx := B.exec
  have hb := B.bytes
  have hr := B.returns
  have hts := atoms_spec (ws := wsX8_isRow) B.pre
  have hown : s.vm.findClass RX8 = some m.cls := findClass_of_methodNamed B.named
  have hlocks := B.notSynchronized
  have hS : va_S (fun _ : Nat => False) s.heap s.heap [] := va_S.rf
  have hl := lv_entry ([.ref mo, .int p0, .int p1]) (n := 3) (Nat.le_of_ble_eq_true rfl)
  rw [lg_entry_eq]
  generalize (lg_sl ([.ref mo, .int p0, .int p1]) ++ List.replicate (3 - (lg_sl ([.ref mo, .int p0, .int p1])).length) Slot.unset).toArray = ls at hl ⊢
  have hl : lv_has ls 3 [(0, .ref mo), (1, .int p0), (2, .int p1)] := hl
  refine lv_aload_n hx hb dX8_isRow_0 rfl (lv_at hl 0 rfl) ?_
  refine lv_iload_n hx hb dX8_isRow_1 rfl (lv_at hl 1 rfl) ?_
  have hPc := hP.sub (ws' := [(mo, .inr (8, [.int 0, .ref m1, .ref m2, .ref m3, .long 0, .long 1, .ref m6, .ref m7, .ref m8, .ref m9, .ref m10, .ref m11, .ref m12, .ref m13, .ref m14, .ref m15, .ref m16]))]) [0] rfl
  refine va_calli (va_runV (As := [.int p0]) (rest := []) ⟨hx, hb, hml, hown, hts⟩ (mz_M_isThing l dC dI cI cJ cZ mo m1 m2 m3 m6 m7 m8 m9 m10 m11 m12 m13 m14 m15 m16 p0 s.heap ) (cwV 1 hts gX8_isRow_X8_isThing rfl rfl rfl (by decide +kernel) ⟨Nat.le_of_ble_eq_true rfl, Nat.le_of_ble_eq_true rfl⟩) ⟨fun a U g mk q => mz_blP q, va_recv hK hPc (ci := 8) (q0 := 0) rfl rfl, fun U hU hW => ⟨rfl, hU, hPc, va_K.moved hW.alike hK, mz_nw hW hN⟩⟩ rfl rfl hl.1 rfl (lv_room (Nat.le_of_ble_eq_true rfl)) dX8_isRow_2 ⟨Nat.le_of_ble_eq_true rfl, Nat.le_of_ble_eq_true rfl⟩) hS (fun q _ h => h.elim) (fun q h => h.elim) (fun r u t H1 locs ht hvm hw hB hz1 hk1 hS => ?_)
  have hE : s.heap = H1 := hB.symm.trans ht
  subst hE
  obtain rfl : r = 0 := hw
  refine lv_if_eq (tgt := 31) hx hb dX8_isRow_5 (by decide) (fun _ => ?_) (fun c_5 => absurd (by decide +kernel) c_5)
  refine lv_iconst (v := 0) hx hb dX8_isRow_31 (by decide +kernel) ?_
  refine W.widen (k := 0) (n := 0) (Nat.le_of_ble_eq_true rfl) (Nat.le_of_ble_eq_true rfl) ?_
  exact W.zret (v := 0) hx hb hr (mz_nz (by decide +kernel)) (fun t ht hW => ⟨⟨0, (), rfl, rfl, ht⟩, hS.F ht⟩) hS.2.2 dX8_isRow_32
set_option maxHeartbeats 1000000 in
set_option maxRecDepth 100000 in
theorem mz_M_weightOf0 (l : Launch) (dC : Nat → ClassId) (dI : Nat → Nat → Nat) (cI cJ cZ : ClassId) (mo : Nat) (m1 : Nat) (m2 : Nat) (m3 : Nat) (m6 : Nat) (m7 : Nat) (m8 : Nat) (m9 : Nat) (m10 : Nat) (m11 : Nat) (m12 : Nat) (m13 : Nat) (m14 : Nat) (m15 : Nat) (m16 : Nat) (la1 : Int64) (lb1 : Int64) (Hq : Heap)  : Met l yX8_weightOf wsX8_weightOf ({ frames := 0, cells := 0, slots := 0, locals := 0 }) (va_Pc [.ref mo, .int 0, .int 0] (fun U => U.heap = Hq ∧ va_P (dC, dI) vwCl [(mo, .inr (8, [.int 0, .ref m1, .ref m2, .ref m3, .long la1, .long lb1, .ref m6, .ref m7, .ref m8, .ref m9, .ref m10, .ref m11, .ref m12, .ref m13, .ref m14, .ref m15, .ref m16]))] Hq ∧ va_K (dC, dI) vwCl [(cI, FieldType.int), (cJ, FieldType.long), (cZ, FieldType.boolean)] U ∧ mz_N U)) (va_Ql (fun (r : Int64) (_ : Unit) => r = 1) (fun _ t => t.heap = Hq) (fun _ : Nat => False)) 0 0 (fun _ : Nat => False) := by
  refine Met.ofW (cc := cX8_weightOf) (maxL := 7) (ret := (some .long)) (by decide) rfl ?_
  intro p e s m args below meth c s₁ B hml hv
  obtain ⟨rfl, hH, hP, hK, hN⟩ := hv
  subst hH
  have hx := B.exec
  have hb := B.bytes
  have hr := B.returns
  have hts := atoms_spec (ws := wsX8_weightOf) B.pre
  have hown : s.vm.findClass RX8 = some m.cls := findClass_of_methodNamed B.named
  have hlocks := B.notSynchronized
  have hS : va_S (fun _ : Nat => False) s.heap s.heap [] := va_S.rf
  have hiX8 : ∀ w ∈ u_ws RX8 TX8 17, w ∈ wsX8_weightOf := by decide +kernel
  have hl := lv_entry ([.ref mo, .int 0, .int 0]) (n := 7) (Nat.le_of_ble_eq_true rfl)
  rw [lg_entry_eq]
  generalize (lg_sl ([.ref mo, .int 0, .int 0]) ++ List.replicate (7 - (lg_sl ([.ref mo, .int 0, .int 0])).length) Slot.unset).toArray = ls at hl ⊢
  have hl : lv_has ls 7 [(0, .ref mo), (1, .int 0), (2, .int 0)] := hl
  refine lv_iload_n hx hb dX8_weightOf_0 rfl (lv_at hl 1 rfl) ?_
  refine lv_iload_n hx hb dX8_weightOf_1 rfl (lv_at hl 2 rfl) ?_
  refine lv_bipush (v := 8) hx hb dX8_weightOf_2 (by decide +kernel) ?_
  refine lv_ishr hx hb dX8_weightOf_4 ?_
  refine mz_ti (y := 0) (by decide +kernel) ?_
  refine lv_ixor hx hb dX8_weightOf_5 ?_
  refine mz_ti (y := 0) (by decide +kernel) ?_
  refine lv_iload_n hx hb dX8_weightOf_6 rfl (lv_at hl 2 rfl) ?_
  refine lv_iand hx hb dX8_weightOf_7 ?_
  refine mz_ti (y := 0) (by decide +kernel) ?_
  refine lv_sipush (v := 255) hx hb dX8_weightOf_8 (by decide +kernel) ?_
  refine lv_iand hx hb dX8_weightOf_11 ?_
  refine mz_ti (y := 0) (by decide +kernel) ?_
  refine lv_if_eq (tgt := 17) hx hb dX8_weightOf_12 (by decide) (fun _ => ?_) (fun c_12 => absurd (by decide +kernel) c_12)
  refine lv_lconst (v := 1) hx hb dX8_weightOf_17 (by decide +kernel) ?_
  refine lv_lstore_n (lv' := [(3, .long 1), (0, .ref mo), (1, .int 0), (2, .int 0)]) hx hb dX8_weightOf_18 rfl hl (by decide) rfl (fun ls hl => ?_)
  refine lv_iconst (v := 0) hx hb dX8_weightOf_19 (by decide +kernel) ?_
  refine lv_istore (lv' := [(5, .int 0), (3, .long 1), (0, .ref mo), (1, .int 0), (2, .int 0)]) hx hb dX8_weightOf_20 hl (by decide) rfl (fun ls hl => ?_)
  refine lv_iload hx hb dX8_weightOf_22 (lv_at hl 0 rfl) ?_
  refine lv_aload_n hx hb dX8_weightOf_24 rfl (lv_at hl 2 rfl) ?_
  refine va_get (D := (dC, dI)) (ci := 8) (v := .int 0) (C := RX8) (T := TX8) (N := 17) hx hb hts hiX8 hown hK hP 0 rfl rfl 0 (by decide) (hts (.fieldLink RX8 58 "MadeItSoModel" "many" "I") (by decide +kernel)) (fun _ h9 => h9) rfl dX8_weightOf_25 ?_
  refine lv_icmp_ge (tgt := 87) hx hb dX8_weightOf_28 (by decide) (fun _ => ?_) (fun c_28 => absurd (by decide +kernel) c_28)
  refine lv_lload_n hx hb dX8_weightOf_87 rfl (lv_at hl 1 rfl) ?_
  refine W.widen (k := 0) (n := 0) (Nat.le_of_ble_eq_true rfl) (Nat.le_of_ble_eq_true rfl) ?_
  exact W.lret (v := 1) hx hb hr (fun t ht hW => ⟨⟨1, (), rfl, rfl, ht⟩, hS.F ht⟩) hS.2.2 dX8_weightOf_88
set_option maxHeartbeats 1000000 in
set_option maxRecDepth 100000 in
theorem mz_M_sum0 (l : Launch) (dC : Nat → ClassId) (dI : Nat → Nat → Nat) (cI cJ cZ : ClassId) (mo : Nat) (m1 : Nat) (m2 : Nat) (m3 : Nat) (m6 : Nat) (m7 : Nat) (m8 : Nat) (m9 : Nat) (m10 : Nat) (m11 : Nat) (m12 : Nat) (m13 : Nat) (m14 : Nat) (m15 : Nat) (m16 : Nat) (la1 : Int64) (lb1 : Int64) (Hq : Heap)  : Met l yX8_sum wsX8_sum ({ frames := 1, cells := 0, slots := 0, locals := 26 }) (va_Pc [.ref mo, .int 0, .int 0] (fun U => U.heap = Hq ∧ va_P (dC, dI) vwCl [(mo, .inr (8, [.int 0, .ref m1, .ref m2, .ref m3, .long la1, .long lb1, .ref m6, .ref m7, .ref m8, .ref m9, .ref m10, .ref m11, .ref m12, .ref m13, .ref m14, .ref m15, .ref m16]))] Hq ∧ va_K (dC, dI) vwCl [(cI, FieldType.int), (cJ, FieldType.long), (cZ, FieldType.boolean)] U ∧ mz_N U)) (va_Ql (fun (r : Int64) (_ : Unit) => r = 1) (fun _ t => t.heap = Hq) (fun _ : Nat => False)) 0 0 (fun _ : Nat => False) := by
  refine Met.ofW (cc := cX8_sum) (maxL := 6) (ret := (some .long)) (by decide) rfl ?_
  intro p e s m args below meth c s₁ B hml hv
  obtain ⟨rfl, hH, hP, hK, hN⟩ := hv
  subst hH
  have hx := B.exec
  have hb := B.bytes
  have hr := B.returns
  have hts := atoms_spec (ws := wsX8_sum) B.pre
  have hown : s.vm.findClass RX8 = some m.cls := findClass_of_methodNamed B.named
  have hlocks := B.notSynchronized
  have hS : va_S (fun _ : Nat => False) s.heap s.heap [] := va_S.rf
  have hiX8 : ∀ w ∈ u_ws RX8 TX8 17, w ∈ wsX8_sum := by decide +kernel
  have hl := lv_entry ([.ref mo, .int 0, .int 0]) (n := 6) (Nat.le_of_ble_eq_true rfl)
  rw [lg_entry_eq]
  generalize (lg_sl ([.ref mo, .int 0, .int 0]) ++ List.replicate (6 - (lg_sl ([.ref mo, .int 0, .int 0])).length) Slot.unset).toArray = ls at hl ⊢
  have hl : lv_has ls 6 [(0, .ref mo), (1, .int 0), (2, .int 0)] := hl
  refine lv_lconst (v := 0) hx hb dX8_sum_0 (by decide +kernel) ?_
  refine lv_lstore_n (lv' := [(3, .long 0), (0, .ref mo), (1, .int 0), (2, .int 0)]) hx hb dX8_sum_1 rfl hl (by decide) rfl (fun ls hl => ?_)
  refine lv_iconst (v := 0) hx hb dX8_sum_2 (by decide +kernel) ?_
  refine lv_istore (lv' := [(5, .int 0), (3, .long 0), (0, .ref mo), (1, .int 0), (2, .int 0)]) hx hb dX8_sum_3 hl (by decide) rfl (fun ls hl => ?_)
  refine lv_iload hx hb dX8_sum_5 (lv_at hl 0 rfl) ?_
  refine lv_iconst (v := 1) hx hb dX8_sum_7 (by decide +kernel) ?_
  refine lv_aload_n hx hb dX8_sum_8 rfl (lv_at hl 2 rfl) ?_
  refine va_get (D := (dC, dI)) (ci := 8) (v := .int 0) (C := RX8) (T := TX8) (N := 17) hx hb hts hiX8 hown hK hP 0 rfl rfl 0 (by decide) (hts (.fieldLink RX8 58 "MadeItSoModel" "many" "I") (by decide +kernel)) (fun _ h9 => h9) rfl dX8_sum_9 ?_
  refine lv_ishl hx hb dX8_sum_12 ?_
  refine mz_ti (y := 1) (by decide +kernel) ?_
  refine lv_icmp_ge (tgt := 48) hx hb dX8_sum_13 (by decide) (fun c_13 => absurd c_13 (by decide +kernel)) (fun _ => ?_)
  refine lv_iload hx hb dX8_sum_16 (lv_at hl 0 rfl) ?_
  refine lv_iload_n hx hb dX8_sum_18 rfl (lv_at hl 3 rfl) ?_
  refine lv_bipush (v := 8) hx hb dX8_sum_19 (by decide +kernel) ?_
  refine lv_ishr hx hb dX8_sum_21 ?_
  refine mz_ti (y := 0) (by decide +kernel) ?_
  refine lv_ixor hx hb dX8_sum_22 ?_
  refine mz_ti (y := 0) (by decide +kernel) ?_
  refine lv_iload_n hx hb dX8_sum_23 rfl (lv_at hl 3 rfl) ?_
  refine lv_iand hx hb dX8_sum_24 ?_
  refine mz_ti (y := 0) (by decide +kernel) ?_
  refine lv_sipush (v := 255) hx hb dX8_sum_25 (by decide +kernel) ?_
  refine lv_iand hx hb dX8_sum_28 ?_
  refine mz_ti (y := 0) (by decide +kernel) ?_
  refine lv_if_ne (tgt := 42) hx hb dX8_sum_29 (by decide) (fun c_29 => absurd (by decide +kernel) c_29) (fun _ => ?_)
  refine lv_lload_n hx hb dX8_sum_32 rfl (lv_at hl 1 rfl) ?_
  refine lv_aload_n hx hb dX8_sum_33 rfl (lv_at hl 2 rfl) ?_
  refine lv_iload hx hb dX8_sum_34 (lv_at hl 0 rfl) ?_
  refine lv_iload_n hx hb dX8_sum_36 rfl (lv_at hl 4 rfl) ?_
  have hPc := hP.sub (ws' := [(mo, .inr (8, [.int 0, .ref m1, .ref m2, .ref m3, .long la1, .long lb1, .ref m6, .ref m7, .ref m8, .ref m9, .ref m10, .ref m11, .ref m12, .ref m13, .ref m14, .ref m15, .ref m16]))]) [0] rfl
  refine va_calll (va_runV (As := [.int 0, .int 0]) (rest := [.long 0]) ⟨hx, hb, hml, hown, hts⟩ (mz_M_weightOf0 l dC dI cI cJ cZ mo m1 m2 m3 m6 m7 m8 m9 m10 m11 m12 m13 m14 m15 m16 la1 lb1 s.heap ) (cwV 2 hts gX8_sum_X8_weightOf rfl rfl rfl (by decide +kernel) ⟨Nat.le_of_ble_eq_true rfl, Nat.le_of_ble_eq_true rfl⟩) ⟨fun a U g mk q => mz_blP q, va_recv hK hPc (ci := 8) (q0 := 0) rfl rfl, fun U hU hW => ⟨rfl, hU, hPc, va_K.moved hW.alike hK, mz_nw hW hN⟩⟩ rfl rfl hl.1 rfl (lv_room (Nat.le_of_ble_eq_true rfl)) dX8_sum_37 ⟨Nat.le_of_ble_eq_true rfl, Nat.le_of_ble_eq_true rfl⟩) hS (fun q _ h => h.elim) (fun q h => h.elim) (fun r u t H1 locs ht hvm hw hB hz1 hk1 hS => ?_)
  have hE : s.heap = H1 := hB.symm.trans ht
  subst hE
  obtain rfl : r = 1 := hw
  refine lv_ladd hx hb dX8_sum_40 ?_
  refine mz_tl (y := 1) (by decide +kernel) ?_
  refine lv_lstore_n (lv' := [(3, .long 1), (5, .int 0), (0, .ref mo), (1, .int 0), (2, .int 0)]) hx hb dX8_sum_41 rfl hl (by decide) rfl (fun ls hl => ?_)
  refine lv_iinc (v := 1) (lv' := [(5, .int 1), (3, .long 1), (0, .ref mo), (1, .int 0), (2, .int 0)]) hx hb dX8_sum_42 hl (k := 1) rfl (by decide +kernel) (by decide) rfl (fun ls hl => ?_)
  refine lv_goto (tgt := 5) hx hb dX8_sum_45 (by decide) ?_
  refine lv_iload hx hb dX8_sum_5 (lv_at hl 0 rfl) ?_
  refine lv_iconst (v := 1) hx hb dX8_sum_7 (by decide +kernel) ?_
  refine lv_aload_n hx hb dX8_sum_8 rfl (lv_at hl 2 rfl) ?_
  refine va_get (D := (dC, dI)) (ci := 8) (v := .int 0) (C := RX8) (T := TX8) (N := 17) hx hb hts hiX8 hown hK hP 0 rfl rfl 0 (by decide) (hts (.fieldLink RX8 58 "MadeItSoModel" "many" "I") (by decide +kernel)) (fun _ h9 => h9) rfl dX8_sum_9 ?_
  refine lv_ishl hx hb dX8_sum_12 ?_
  refine mz_ti (y := 1) (by decide +kernel) ?_
  refine lv_icmp_ge (tgt := 48) hx hb dX8_sum_13 (by decide) (fun _ => ?_) (fun c_13 => absurd (by decide +kernel) c_13)
  refine lv_lload_n hx hb dX8_sum_48 rfl (lv_at hl 1 rfl) ?_
  refine W.widen (k := 0) (n := 0) (Nat.le_of_ble_eq_true rfl) (Nat.le_of_ble_eq_true rfl) ?_
  exact W.lret (v := 1) hx hb hr (fun t ht hW => ⟨⟨1, (), rfl, rfl, ht⟩, hS.F ht⟩) hS.2.2 dX8_sum_49
set_option maxHeartbeats 1000000 in
set_option maxRecDepth 100000 in
theorem mz_M_shared1 (l : Launch) (dC : Nat → ClassId) (dI : Nat → Nat → Nat) (cI cJ cZ : ClassId)  (Hq : Heap)  : Met l yX8_shared wsX8_shared ({ frames := 0, cells := 0, slots := 0, locals := 0 }) (va_Pc [.long 1, .long 1] (fun U => U.heap = Hq ∧ va_P (dC, dI) vwCl [] Hq ∧ va_K (dC, dI) vwCl [(cI, FieldType.int), (cJ, FieldType.long), (cZ, FieldType.boolean)] U ∧ mz_N U)) (va_Ql (fun (r : Int64) (_ : Unit) => r = 1) (fun _ t => t.heap = Hq) (fun _ : Nat => False)) 0 0 (fun _ : Nat => False) := by
  refine Met.ofW (cc := cX8_shared) (maxL := 10) (ret := (some .long)) (by decide) rfl ?_
  intro p e s m args below meth c s₁ B hml hv
  obtain ⟨rfl, hH, hP, hK, hN⟩ := hv
  subst hH
  have hx := B.exec
  have hb := B.bytes
  have hr := B.returns
  have hts := atoms_spec (ws := wsX8_shared) B.pre
  have hown : s.vm.findClass RX8 = some m.cls := findClass_of_methodNamed B.named
  have hlocks := B.notSynchronized
  have hS : va_S (fun _ : Nat => False) s.heap s.heap [] := va_S.rf
  have hl := lv_entry ([.long 1, .long 1]) (n := 10) (Nat.le_of_ble_eq_true rfl)
  rw [lg_entry_eq]
  generalize (lg_sl ([.long 1, .long 1]) ++ List.replicate (10 - (lg_sl ([.long 1, .long 1])).length) Slot.unset).toArray = ls at hl ⊢
  have hl : lv_has ls 10 [(0, .long 1), (2, .long 1)] := hl
  refine lv_lload_n hx hb dX8_shared_0 rfl (lv_at hl 0 rfl) ?_
  refine lv_lstore (lv' := [(4, .long 1), (0, .long 1), (2, .long 1)]) hx hb dX8_shared_1 hl (by decide) rfl (fun ls hl => ?_)
  refine lv_lload_n hx hb dX8_shared_3 rfl (lv_at hl 2 rfl) ?_
  refine lv_lstore (lv' := [(6, .long 1), (4, .long 1), (0, .long 1), (2, .long 1)]) hx hb dX8_shared_4 hl (by decide) rfl (fun ls hl => ?_)
  refine lv_lload hx hb dX8_shared_6 (lv_at hl 0 rfl) ?_
  refine lv_lconst (v := 0) hx hb dX8_shared_8 (by decide +kernel) ?_
  refine W.lcmp hx hb dX8_shared_9 ?_
  refine mz_ti (y := 1) (by decide +kernel) ?_
  refine lv_if_eq (tgt := 31) hx hb dX8_shared_10 (by decide) (fun c_10 => absurd c_10 (by decide +kernel)) (fun _ => ?_)
  refine lv_lload hx hb dX8_shared_13 (lv_at hl 1 rfl) ?_
  refine lv_lload hx hb dX8_shared_15 (lv_at hl 0 rfl) ?_
  refine lv_lrem hx hb dX8_shared_17 (by decide +kernel) ?_
  refine mz_tl (y := 0) (by decide +kernel) ?_
  refine lv_lstore (lv' := [(8, .long 0), (6, .long 1), (4, .long 1), (0, .long 1), (2, .long 1)]) hx hb dX8_shared_18 hl (by decide) rfl (fun ls hl => ?_)
  refine lv_lload hx hb dX8_shared_20 (lv_at hl 1 rfl) ?_
  refine lv_lstore (lv' := [(4, .long 1), (8, .long 0), (6, .long 1), (0, .long 1), (2, .long 1)]) hx hb dX8_shared_22 hl (by decide) rfl (fun ls hl => ?_)
  refine lv_lload hx hb dX8_shared_24 (lv_at hl 1 rfl) ?_
  refine lv_lstore (lv' := [(6, .long 0), (4, .long 1), (8, .long 0), (0, .long 1), (2, .long 1)]) hx hb dX8_shared_26 hl (by decide) rfl (fun ls hl => ?_)
  refine lv_goto (tgt := 6) hx hb dX8_shared_28 (by decide) ?_
  refine lv_lload hx hb dX8_shared_6 (lv_at hl 0 rfl) ?_
  refine lv_lconst (v := 0) hx hb dX8_shared_8 (by decide +kernel) ?_
  refine W.lcmp hx hb dX8_shared_9 ?_
  refine mz_ti (y := 0) (by decide +kernel) ?_
  refine lv_if_eq (tgt := 31) hx hb dX8_shared_10 (by decide) (fun _ => ?_) (fun c_10 => absurd (by decide +kernel) c_10)
  refine lv_lload hx hb dX8_shared_31 (lv_at hl 1 rfl) ?_
  refine W.widen (k := 0) (n := 0) (Nat.le_of_ble_eq_true rfl) (Nat.le_of_ble_eq_true rfl) ?_
  exact W.lret (v := 1) hx hb hr (fun t ht hW => ⟨⟨1, (), rfl, rfl, ht⟩, hS.F ht⟩) hS.2.2 dX8_shared_33
set_option maxHeartbeats 1000000 in
set_option maxRecDepth 100000 in
theorem mz_M_barred0 (l : Launch) (dC : Nat → ClassId) (dI : Nat → Nat → Nat) (cI cJ cZ : ClassId) (mo : Nat) (m1 : Nat) (m2 : Nat) (m3 : Nat) (m6 : Nat) (m7 : Nat) (m8 : Nat) (m9 : Nat) (m10 : Nat) (m11 : Nat) (m12 : Nat) (m13 : Nat) (m14 : Nat) (m15 : Nat) (m16 : Nat) (Hq : Heap)  : Met l yX8_barred wsX8_barred ({ frames := 0, cells := 0, slots := 0, locals := 0 }) (va_Pc [.ref mo, .int 0, .int 0, .int 0, .int 0, .int 0] (fun U => U.heap = Hq ∧ va_P (dC, dI) vwCl [(mo, .inr (8, [.int 0, .ref m1, .ref m2, .ref m3, .long 0, .long 1, .ref m6, .ref m7, .ref m8, .ref m9, .ref m10, .ref m11, .ref m12, .ref m13, .ref m14, .ref m15, .ref m16]))] Hq ∧ va_K (dC, dI) vwCl [(cI, FieldType.int), (cJ, FieldType.long), (cZ, FieldType.boolean)] U ∧ mz_N U)) (va_Qi (fun (r : Int32) (_ : Unit) => r = 1) (fun _ t => t.heap = Hq) (fun _ : Nat => False)) 0 0 (fun _ : Nat => False) := by
  refine Met.ofW (cc := cX8_barred) (maxL := 8) (ret := (some .boolean)) (by decide) rfl ?_
  intro p e s m args below meth c s₁ B hml hv
  obtain ⟨rfl, hH, hP, hK, hN⟩ := hv
  subst hH
  have hx := B.exec
  have hb := B.bytes
  have hr := B.returns
  have hts := atoms_spec (ws := wsX8_barred) B.pre
  have hown : s.vm.findClass RX8 = some m.cls := findClass_of_methodNamed B.named
  have hlocks := B.notSynchronized
  have hS : va_S (fun _ : Nat => False) s.heap s.heap [] := va_S.rf
  have hiX8 : ∀ w ∈ u_ws RX8 TX8 17, w ∈ wsX8_barred := by decide +kernel
  have hl := lv_entry ([.ref mo, .int 0, .int 0, .int 0, .int 0, .int 0]) (n := 8) (Nat.le_of_ble_eq_true rfl)
  rw [lg_entry_eq]
  generalize (lg_sl ([.ref mo, .int 0, .int 0, .int 0, .int 0, .int 0]) ++ List.replicate (8 - (lg_sl ([.ref mo, .int 0, .int 0, .int 0, .int 0, .int 0])).length) Slot.unset).toArray = ls at hl ⊢
  have hl : lv_has ls 8 [(0, .ref mo), (1, .int 0), (2, .int 0), (3, .int 0), (4, .int 0), (5, .int 0)] := hl
  refine lv_iconst (v := 0) hx hb dX8_barred_0 (by decide +kernel) ?_
  refine lv_istore (lv' := [(6, .int 0), (0, .ref mo), (1, .int 0), (2, .int 0), (3, .int 0), (4, .int 0), (5, .int 0)]) hx hb dX8_barred_1 hl (by decide) rfl (fun ls hl => ?_)
  refine lv_iload hx hb dX8_barred_3 (lv_at hl 0 rfl) ?_
  refine lv_aload_n hx hb dX8_barred_5 rfl (lv_at hl 1 rfl) ?_
  refine va_get (D := (dC, dI)) (ci := 8) (v := .int 0) (C := RX8) (T := TX8) (N := 17) hx hb hts hiX8 hown hK hP 0 rfl rfl 0 (by decide) (hts (.fieldLink RX8 58 "MadeItSoModel" "many" "I") (by decide +kernel)) (fun _ h9 => h9) rfl dX8_barred_6 ?_
  refine lv_icmp_ge (tgt := 74) hx hb dX8_barred_9 (by decide) (fun _ => ?_) (fun c_9 => absurd (by decide +kernel) c_9)
  refine lv_iconst (v := 1) hx hb dX8_barred_74 (by decide +kernel) ?_
  refine W.widen (k := 0) (n := 0) (Nat.le_of_ble_eq_true rfl) (Nat.le_of_ble_eq_true rfl) ?_
  exact W.zret (v := 1) hx hb hr (mz_nz (by decide +kernel)) (fun t ht hW => ⟨⟨1, (), rfl, rfl, ht⟩, hS.F ht⟩) hS.2.2 dX8_barred_75
set_option maxHeartbeats 1000000 in
set_option maxRecDepth 100000 in
theorem mz_M_seen (l : Launch) (dC : Nat → ClassId) (dI : Nat → Nat → Nat) (cI cJ cZ : ClassId) (mo : Nat) (m1 : Nat) (m2 : Nat) (m3 : Nat) (m6 : Nat) (m7 : Nat) (m8 : Nat) (m9 : Nat) (m10 : Nat) (m11 : Nat) (m12 : Nat) (m13 : Nat) (m14 : Nat) (m15 : Nat) (m16 : Nat) (Hq : Heap)  : Met l yX8_seen wsX8_seen ({ frames := 0, cells := 0, slots := 0, locals := 0 }) (va_Pc [.ref mo] (fun U => U.heap = Hq ∧ va_P (dC, dI) vwCl [(mo, .inr (8, [.int 0, .ref m1, .ref m2, .ref m3, .long 0, .long 1, .ref m6, .ref m7, .ref m8, .ref m9, .ref m10, .ref m11, .ref m12, .ref m13, .ref m14, .ref m15, .ref m16]))] Hq ∧ va_K (dC, dI) vwCl [(cI, FieldType.int), (cJ, FieldType.long), (cZ, FieldType.boolean)] U ∧ mz_N U)) (va_Qi (fun (r : Int32) (_ : Unit) => r = 0) (fun _ t => t.heap = Hq) (fun _ : Nat => False)) 0 0 (fun _ : Nat => False) := by
  refine Met.ofW (cc := cX8_seen) (maxL := 3) (ret := (some .int)) (by decide) rfl ?_
  intro p e s m args below meth c s₁ B hml hv
  obtain ⟨rfl, hH, hP, hK, hN⟩ := hv
  subst hH
  have hx := B.exec
  have hb := B.bytes
  have hr := B.returns
  have hts := atoms_spec (ws := wsX8_seen) B.pre
  have hown : s.vm.findClass RX8 = some m.cls := findClass_of_methodNamed B.named
  have hlocks := B.notSynchronized
  have hS : va_S (fun _ : Nat => False) s.heap s.heap [] := va_S.rf
  have hiX8 : ∀ w ∈ u_ws RX8 TX8 17, w ∈ wsX8_seen := by decide +kernel
  have hl := lv_entry ([.ref mo]) (n := 3) (Nat.le_of_ble_eq_true rfl)
  rw [lg_entry_eq]
  generalize (lg_sl ([.ref mo]) ++ List.replicate (3 - (lg_sl ([.ref mo])).length) Slot.unset).toArray = ls at hl ⊢
  have hl : lv_has ls 3 [(0, .ref mo)] := hl
  refine lv_iconst (v := 0) hx hb dX8_seen_0 (by decide +kernel) ?_
  refine lv_istore_n (lv' := [(1, .int 0), (0, .ref mo)]) hx hb dX8_seen_1 rfl hl (by decide) rfl (fun ls hl => ?_)
  refine lv_iconst (v := 0) hx hb dX8_seen_2 (by decide +kernel) ?_
  refine lv_istore_n (lv' := [(2, .int 0), (1, .int 0), (0, .ref mo)]) hx hb dX8_seen_3 rfl hl (by decide) rfl (fun ls hl => ?_)
  refine lv_iload_n hx hb dX8_seen_4 rfl (lv_at hl 0 rfl) ?_
  refine lv_aload_n hx hb dX8_seen_5 rfl (lv_at hl 2 rfl) ?_
  refine va_get (D := (dC, dI)) (ci := 8) (v := .int 0) (C := RX8) (T := TX8) (N := 17) hx hb hts hiX8 hown hK hP 0 rfl rfl 0 (by decide) (hts (.fieldLink RX8 58 "MadeItSoModel" "many" "I") (by decide +kernel)) (fun _ h9 => h9) rfl dX8_seen_6 ?_
  refine lv_icmp_ge (tgt := 37) hx hb dX8_seen_9 (by decide) (fun _ => ?_) (fun c_9 => absurd (by decide +kernel) c_9)
  refine lv_iload_n hx hb dX8_seen_37 rfl (lv_at hl 1 rfl) ?_
  refine W.widen (k := 0) (n := 0) (Nat.le_of_ble_eq_true rfl) (Nat.le_of_ble_eq_true rfl) ?_
  exact W.iret (v := 0) hx hb hr (fun t ht hW => ⟨⟨0, (), rfl, rfl, ht⟩, hS.F ht⟩) hS.2.2 dX8_seen_38
set_option maxHeartbeats 1000000 in
set_option maxRecDepth 100000 in
theorem mz_M_works (l : Launch) (dC : Nat → ClassId) (dI : Nat → Nat → Nat) (cI cJ cZ : ClassId) (mo : Nat) (m1 : Nat) (m2 : Nat) (m3 : Nat) (m6 : Nat) (m7 : Nat) (m8 : Nat) (m9 : Nat) (m10 : Nat) (m11 : Nat) (m12 : Nat) (m13 : Nat) (m14 : Nat) (m15 : Nat) (m16 : Nat) (p0 : Int32) (p1 : Int32) (Hq : Heap)  : Met l yX8_works wsX8_works ({ frames := 1, cells := 0, slots := 0, locals := 21 }) (va_Pc [.ref mo, .int p0, .int p1] (fun U => U.heap = Hq ∧ va_P (dC, dI) vwCl [(mo, .inr (8, [.int 0, .ref m1, .ref m2, .ref m3, .long 0, .long 1, .ref m6, .ref m7, .ref m8, .ref m9, .ref m10, .ref m11, .ref m12, .ref m13, .ref m14, .ref m15, .ref m16]))] Hq ∧ va_K (dC, dI) vwCl [(cI, FieldType.int), (cJ, FieldType.long), (cZ, FieldType.boolean)] U ∧ mz_N U)) (va_Qi (fun (r : Int32) (_ : Unit) => r = 0) (fun _ t => t.heap = Hq) (fun _ : Nat => False)) 0 0 (fun _ : Nat => False) := by
  refine Met.ofW (cc := cX8_works) (maxL := 5) (ret := (some .boolean)) (by decide) rfl ?_
  intro p e s m args below meth c s₁ B hml hv
  obtain ⟨rfl, hH, hP, hK, hN⟩ := hv
  subst hH
  have hx := B.exec
  have hb := B.bytes
  have hr := B.returns
  have hts := atoms_spec (ws := wsX8_works) B.pre
  have hown : s.vm.findClass RX8 = some m.cls := findClass_of_methodNamed B.named
  have hlocks := B.notSynchronized
  have hS : va_S (fun _ : Nat => False) s.heap s.heap [] := va_S.rf
  have hl := lv_entry ([.ref mo, .int p0, .int p1]) (n := 5) (Nat.le_of_ble_eq_true rfl)
  rw [lg_entry_eq]
  generalize (lg_sl ([.ref mo, .int p0, .int p1]) ++ List.replicate (5 - (lg_sl ([.ref mo, .int p0, .int p1])).length) Slot.unset).toArray = ls at hl ⊢
  have hl : lv_has ls 5 [(0, .ref mo), (1, .int p0), (2, .int p1)] := hl
  refine lv_aload_n hx hb dX8_works_0 rfl (lv_at hl 0 rfl) ?_
  refine lv_iload_n hx hb dX8_works_1 rfl (lv_at hl 1 rfl) ?_
  have hPc := hP.sub (ws' := [(mo, .inr (8, [.int 0, .ref m1, .ref m2, .ref m3, .long 0, .long 1, .ref m6, .ref m7, .ref m8, .ref m9, .ref m10, .ref m11, .ref m12, .ref m13, .ref m14, .ref m15, .ref m16]))]) [0] rfl
  refine va_calli (va_runV (As := [.int p0]) (rest := []) ⟨hx, hb, hml, hown, hts⟩ (mz_M_isThing l dC dI cI cJ cZ mo m1 m2 m3 m6 m7 m8 m9 m10 m11 m12 m13 m14 m15 m16 p0 s.heap ) (cwV 1 hts gX8_works_X8_isThing rfl rfl rfl (by decide +kernel) ⟨Nat.le_of_ble_eq_true rfl, Nat.le_of_ble_eq_true rfl⟩) ⟨fun a U g mk q => mz_blP q, va_recv hK hPc (ci := 8) (q0 := 0) rfl rfl, fun U hU hW => ⟨rfl, hU, hPc, va_K.moved hW.alike hK, mz_nw hW hN⟩⟩ rfl rfl hl.1 rfl (lv_room (Nat.le_of_ble_eq_true rfl)) dX8_works_2 ⟨Nat.le_of_ble_eq_true rfl, Nat.le_of_ble_eq_true rfl⟩) hS (fun q _ h => h.elim) (fun q h => h.elim) (fun r u t H1 locs ht hvm hw hB hz1 hk1 hS => ?_)
  have hE : s.heap = H1 := hB.symm.trans ht
  subst hE
  obtain rfl : r = 0 := hw
  refine lv_if_eq (tgt := 21) hx hb dX8_works_5 (by decide) (fun _ => ?_) (fun c_5 => absurd (by decide +kernel) c_5)
  refine lv_iconst (v := 0) hx hb dX8_works_21 (by decide +kernel) ?_
  refine W.widen (k := 0) (n := 0) (Nat.le_of_ble_eq_true rfl) (Nat.le_of_ble_eq_true rfl) ?_
  exact W.zret (v := 0) hx hb hr (mz_nz (by decide +kernel)) (fun t ht hW => ⟨⟨0, (), rfl, rfl, ht⟩, hS.F ht⟩) hS.2.2 dX8_works_22
set_option maxHeartbeats 1000000 in
set_option maxRecDepth 100000 in
theorem mz_M_arrow (l : Launch) (dC : Nat → ClassId) (dI : Nat → Nat → Nat) (cI cJ cZ : ClassId) (mo : Nat) (m1 : Nat) (m2 : Nat) (m3 : Nat) (m6 : Nat) (m7 : Nat) (m8 : Nat) (m9 : Nat) (m10 : Nat) (m11 : Nat) (m12 : Nat) (m13 : Nat) (m14 : Nat) (m15 : Nat) (m16 : Nat) (p1 : Int32) (p2 : Int32) (Hq : Heap)  : Met l yX8_arrow wsX8_arrow ({ frames := 1, cells := 0, slots := 0, locals := 21 }) (va_Pc [.ref mo, .int p1, .int p2] (fun U => U.heap = Hq ∧ va_P (dC, dI) vwCl [(mo, .inr (8, [.int 0, .ref m1, .ref m2, .ref m3, .long 0, .long 1, .ref m6, .ref m7, .ref m8, .ref m9, .ref m10, .ref m11, .ref m12, .ref m13, .ref m14, .ref m15, .ref m16]))] Hq ∧ va_K (dC, dI) vwCl [(cI, FieldType.int), (cJ, FieldType.long), (cZ, FieldType.boolean)] U ∧ mz_N U)) (va_Qi (fun (r : Int32) (_ : Unit) => r = 0) (fun _ t => t.heap = Hq) (fun _ : Nat => False)) 0 0 (fun _ : Nat => False) := by
  refine Met.ofW (cc := cX8_arrow) (maxL := 3) (ret := (some .boolean)) (by decide) rfl ?_
  intro p e s m args below meth c s₁ B hml hv
  obtain ⟨rfl, hH, hP, hK, hN⟩ := hv
  subst hH
  have hx := B.exec
  have hb := B.bytes
  have hr := B.returns
  have hts := atoms_spec (ws := wsX8_arrow) B.pre
  have hown : s.vm.findClass RX8 = some m.cls := findClass_of_methodNamed B.named
  have hlocks := B.notSynchronized
  have hS : va_S (fun _ : Nat => False) s.heap s.heap [] := va_S.rf
  have hl := lv_entry ([.ref mo, .int p1, .int p2]) (n := 3) (Nat.le_of_ble_eq_true rfl)
  rw [lg_entry_eq]
  generalize (lg_sl ([.ref mo, .int p1, .int p2]) ++ List.replicate (3 - (lg_sl ([.ref mo, .int p1, .int p2])).length) Slot.unset).toArray = ls at hl ⊢
  have hl : lv_has ls 3 [(0, .ref mo), (1, .int p1), (2, .int p2)] := hl
  refine lv_aload_n hx hb dX8_arrow_0 rfl (lv_at hl 0 rfl) ?_
  refine lv_iload_n hx hb dX8_arrow_1 rfl (lv_at hl 1 rfl) ?_
  have hPc := hP.sub (ws' := [(mo, .inr (8, [.int 0, .ref m1, .ref m2, .ref m3, .long 0, .long 1, .ref m6, .ref m7, .ref m8, .ref m9, .ref m10, .ref m11, .ref m12, .ref m13, .ref m14, .ref m15, .ref m16]))]) [0] rfl
  refine va_calli (va_runV (As := [.int p1]) (rest := []) ⟨hx, hb, hml, hown, hts⟩ (mz_M_isThing l dC dI cI cJ cZ mo m1 m2 m3 m6 m7 m8 m9 m10 m11 m12 m13 m14 m15 m16 p1 s.heap ) (cwV 1 hts gX8_arrow_X8_isThing rfl rfl rfl (by decide +kernel) ⟨Nat.le_of_ble_eq_true rfl, Nat.le_of_ble_eq_true rfl⟩) ⟨fun a U g mk q => mz_blP q, va_recv hK hPc (ci := 8) (q0 := 0) rfl rfl, fun U hU hW => ⟨rfl, hU, hPc, va_K.moved hW.alike hK, mz_nw hW hN⟩⟩ rfl rfl hl.1 rfl (lv_room (Nat.le_of_ble_eq_true rfl)) dX8_arrow_2 ⟨Nat.le_of_ble_eq_true rfl, Nat.le_of_ble_eq_true rfl⟩) hS (fun q _ h => h.elim) (fun q h => h.elim) (fun r u t H1 locs ht hvm hw hB hz1 hk1 hS => ?_)
  have hE : s.heap = H1 := hB.symm.trans ht
  subst hE
  obtain rfl : r = 0 := hw
  refine lv_if_eq (tgt := 53) hx hb dX8_arrow_5 (by decide) (fun _ => ?_) (fun c_5 => absurd (by decide +kernel) c_5)
  refine lv_iconst (v := 0) hx hb dX8_arrow_53 (by decide +kernel) ?_
  refine W.widen (k := 0) (n := 0) (Nat.le_of_ble_eq_true rfl) (Nat.le_of_ble_eq_true rfl) ?_
  exact W.zret (v := 0) hx hb hr (mz_nz (by decide +kernel)) (fun t ht hW => ⟨⟨0, (), rfl, rfl, ht⟩, hS.F ht⟩) hS.2.2 dX8_arrow_54
set_option maxHeartbeats 1000000 in
set_option maxRecDepth 100000 in
theorem mz_M_cut (l : Launch) (dC : Nat → ClassId) (dI : Nat → Nat → Nat) (cI cJ cZ : ClassId) (mo : Nat) (m1 : Nat) (m2 : Nat) (m3 : Nat) (m6 : Nat) (m7 : Nat) (m8 : Nat) (m9 : Nat) (m10 : Nat) (m11 : Nat) (m12 : Nat) (m13 : Nat) (m14 : Nat) (m15 : Nat) (m16 : Nat) (p1 : Int32) (p2 : Int32) (Hq : Heap)  : Met l yX8_cut wsX8_cut ({ frames := 2, cells := 0, slots := 0, locals := 43 }) (va_Pc [.ref mo, .int p1, .int p2] (fun U => U.heap = Hq ∧ va_P (dC, dI) vwCl [(mo, .inr (8, [.int 0, .ref m1, .ref m2, .ref m3, .long 0, .long 1, .ref m6, .ref m7, .ref m8, .ref m9, .ref m10, .ref m11, .ref m12, .ref m13, .ref m14, .ref m15, .ref m16]))] Hq ∧ va_K (dC, dI) vwCl [(cI, FieldType.int), (cJ, FieldType.long), (cZ, FieldType.boolean)] U ∧ mz_N U)) (va_Qi (fun (r : Int32) (_ : Unit) => r = 0) (fun _ t => t.heap = Hq) (fun _ : Nat => False)) 0 0 (fun _ : Nat => False) := by
  refine Met.ofW (cc := cX8_cut) (maxL := 3) (ret := (some .boolean)) (by decide) rfl ?_
  intro p e s m args below meth c s₁ B hml hv
  obtain ⟨rfl, hH, hP, hK, hN⟩ := hv
  subst hH
  have hx := B.exec
  have hb := B.bytes
  have hr := B.returns
  have hts := atoms_spec (ws := wsX8_cut) B.pre
  have hown : s.vm.findClass RX8 = some m.cls := findClass_of_methodNamed B.named
  have hlocks := B.notSynchronized
  have hS : va_S (fun _ : Nat => False) s.heap s.heap [] := va_S.rf
  have hl := lv_entry ([.ref mo, .int p1, .int p2]) (n := 3) (Nat.le_of_ble_eq_true rfl)
  rw [lg_entry_eq]
  generalize (lg_sl ([.ref mo, .int p1, .int p2]) ++ List.replicate (3 - (lg_sl ([.ref mo, .int p1, .int p2])).length) Slot.unset).toArray = ls at hl ⊢
  have hl : lv_has ls 3 [(0, .ref mo), (1, .int p1), (2, .int p2)] := hl
  refine lv_aload_n hx hb dX8_cut_0 rfl (lv_at hl 0 rfl) ?_
  refine lv_iload_n hx hb dX8_cut_1 rfl (lv_at hl 1 rfl) ?_
  refine lv_iload_n hx hb dX8_cut_2 rfl (lv_at hl 2 rfl) ?_
  have hPc := hP.sub (ws' := [(mo, .inr (8, [.int 0, .ref m1, .ref m2, .ref m3, .long 0, .long 1, .ref m6, .ref m7, .ref m8, .ref m9, .ref m10, .ref m11, .ref m12, .ref m13, .ref m14, .ref m15, .ref m16]))]) [0] rfl
  refine va_calli (va_runV (As := [.int p1, .int p2]) (rest := []) ⟨hx, hb, hml, hown, hts⟩ (mz_M_has l dC dI cI cJ cZ mo m1 m2 m3 m6 m7 m8 m9 m10 m11 m12 m13 m14 m15 m16 p1 p2 s.heap ) (cwV 2 hts gX8_cut_X8_has rfl rfl rfl (by decide +kernel) ⟨Nat.le_of_ble_eq_true rfl, Nat.le_of_ble_eq_true rfl⟩) ⟨fun a U g mk q => mz_blP q, va_recv hK hPc (ci := 8) (q0 := 0) rfl rfl, fun U hU hW => ⟨rfl, hU, hPc, va_K.moved hW.alike hK, mz_nw hW hN⟩⟩ rfl rfl hl.1 rfl (lv_room (Nat.le_of_ble_eq_true rfl)) dX8_cut_3 ⟨Nat.le_of_ble_eq_true rfl, Nat.le_of_ble_eq_true rfl⟩) hS (fun q _ h => h.elim) (fun q h => h.elim) (fun r u t H1 locs ht hvm hw hB hz1 hk1 hS => ?_)
  have hE : s.heap = H1 := hB.symm.trans ht
  subst hE
  obtain rfl : r = 0 := hw
  refine lv_if_ne (tgt := 11) hx hb dX8_cut_6 (by decide) (fun c_6 => absurd (by decide +kernel) c_6) (fun _ => ?_)
  refine lv_iconst (v := 0) hx hb dX8_cut_9 (by decide +kernel) ?_
  refine W.widen (k := 0) (n := 0) (Nat.le_of_ble_eq_true rfl) (Nat.le_of_ble_eq_true rfl) ?_
  exact W.zret (v := 0) hx hb hr (mz_nz (by decide +kernel)) (fun t ht hW => ⟨⟨0, (), rfl, rfl, ht⟩, hS.F ht⟩) hS.2.2 dX8_cut_10
set_option maxHeartbeats 1000000 in
set_option maxRecDepth 100000 in
theorem mz_M_turn (l : Launch) (dC : Nat → ClassId) (dI : Nat → Nat → Nat) (cI cJ cZ : ClassId) (mo : Nat) (m1 : Nat) (m2 : Nat) (m3 : Nat) (m6 : Nat) (m7 : Nat) (m8 : Nat) (m9 : Nat) (m10 : Nat) (m11 : Nat) (m12 : Nat) (m13 : Nat) (m14 : Nat) (m15 : Nat) (m16 : Nat) (p1 : Int32) (p2 : Int32) (Hq : Heap)  : Met l yX8_turn wsX8_turn ({ frames := 2, cells := 0, slots := 0, locals := 43 }) (va_Pc [.ref mo, .int p1, .int p2] (fun U => U.heap = Hq ∧ va_P (dC, dI) vwCl [(mo, .inr (8, [.int 0, .ref m1, .ref m2, .ref m3, .long 0, .long 1, .ref m6, .ref m7, .ref m8, .ref m9, .ref m10, .ref m11, .ref m12, .ref m13, .ref m14, .ref m15, .ref m16]))] Hq ∧ va_K (dC, dI) vwCl [(cI, FieldType.int), (cJ, FieldType.long), (cZ, FieldType.boolean)] U ∧ mz_N U)) (va_Qi (fun (r : Int32) (_ : Unit) => r = 0) (fun _ t => t.heap = Hq) (fun _ : Nat => False)) 0 0 (fun _ : Nat => False) := by
  refine Met.ofW (cc := cX8_turn) (maxL := 4) (ret := (some .boolean)) (by decide) rfl ?_
  intro p e s m args below meth c s₁ B hml hv
  obtain ⟨rfl, hH, hP, hK, hN⟩ := hv
  subst hH
  have hx := B.exec
  have hb := B.bytes
  have hr := B.returns
  have hts := atoms_spec (ws := wsX8_turn) B.pre
  have hown : s.vm.findClass RX8 = some m.cls := findClass_of_methodNamed B.named
  have hlocks := B.notSynchronized
  have hS : va_S (fun _ : Nat => False) s.heap s.heap [] := va_S.rf
  have hl := lv_entry ([.ref mo, .int p1, .int p2]) (n := 4) (Nat.le_of_ble_eq_true rfl)
  rw [lg_entry_eq]
  generalize (lg_sl ([.ref mo, .int p1, .int p2]) ++ List.replicate (4 - (lg_sl ([.ref mo, .int p1, .int p2])).length) Slot.unset).toArray = ls at hl ⊢
  have hl : lv_has ls 4 [(0, .ref mo), (1, .int p1), (2, .int p2)] := hl
  refine lv_aload_n hx hb dX8_turn_0 rfl (lv_at hl 0 rfl) ?_
  refine lv_iload_n hx hb dX8_turn_1 rfl (lv_at hl 1 rfl) ?_
  refine lv_iload_n hx hb dX8_turn_2 rfl (lv_at hl 2 rfl) ?_
  have hPc := hP.sub (ws' := [(mo, .inr (8, [.int 0, .ref m1, .ref m2, .ref m3, .long 0, .long 1, .ref m6, .ref m7, .ref m8, .ref m9, .ref m10, .ref m11, .ref m12, .ref m13, .ref m14, .ref m15, .ref m16]))]) [0] rfl
  refine va_calli (va_runV (As := [.int p1, .int p2]) (rest := []) ⟨hx, hb, hml, hown, hts⟩ (mz_M_has l dC dI cI cJ cZ mo m1 m2 m3 m6 m7 m8 m9 m10 m11 m12 m13 m14 m15 m16 p1 p2 s.heap ) (cwV 2 hts gX8_turn_X8_has rfl rfl rfl (by decide +kernel) ⟨Nat.le_of_ble_eq_true rfl, Nat.le_of_ble_eq_true rfl⟩) ⟨fun a U g mk q => mz_blP q, va_recv hK hPc (ci := 8) (q0 := 0) rfl rfl, fun U hU hW => ⟨rfl, hU, hPc, va_K.moved hW.alike hK, mz_nw hW hN⟩⟩ rfl rfl hl.1 rfl (lv_room (Nat.le_of_ble_eq_true rfl)) dX8_turn_3 ⟨Nat.le_of_ble_eq_true rfl, Nat.le_of_ble_eq_true rfl⟩) hS (fun q _ h => h.elim) (fun q h => h.elim) (fun r u t H1 locs ht hvm hw hB hz1 hk1 hS => ?_)
  have hE : s.heap = H1 := hB.symm.trans ht
  subst hE
  obtain rfl : r = 0 := hw
  refine lv_if_ne (tgt := 11) hx hb dX8_turn_6 (by decide) (fun c_6 => absurd (by decide +kernel) c_6) (fun _ => ?_)
  refine lv_iconst (v := 0) hx hb dX8_turn_9 (by decide +kernel) ?_
  refine W.widen (k := 0) (n := 0) (Nat.le_of_ble_eq_true rfl) (Nat.le_of_ble_eq_true rfl) ?_
  exact W.zret (v := 0) hx hb hr (mz_nz (by decide +kernel)) (fun t ht hW => ⟨⟨0, (), rfl, rfl, ht⟩, hS.F ht⟩) hS.2.2 dX8_turn_10
set_option maxHeartbeats 1000000 in
set_option maxRecDepth 100000 in
theorem mz_M_book (l : Launch) (dC : Nat → ClassId) (dI : Nat → Nat → Nat) (cI cJ cZ : ClassId) (mo : Nat) (m1 : Nat) (m2 : Nat) (m3 : Nat) (m6 : Nat) (m7 : Nat) (m8 : Nat) (m9 : Nat) (m10 : Nat) (m11 : Nat) (m12 : Nat) (m13 : Nat) (m14 : Nat) (m15 : Nat) (m16 : Nat) (p1 : Int32) (p2 : Int32) (p3 : Int32) (Hq : Heap)  : Met l yX8_book wsX8_book ({ frames := 2, cells := 0, slots := 0, locals := 43 }) (va_Pc [.ref mo, .int p1, .int p2, .int p3] (fun U => U.heap = Hq ∧ va_P (dC, dI) vwCl [(mo, .inr (8, [.int 0, .ref m1, .ref m2, .ref m3, .long 0, .long 1, .ref m6, .ref m7, .ref m8, .ref m9, .ref m10, .ref m11, .ref m12, .ref m13, .ref m14, .ref m15, .ref m16]))] Hq ∧ va_K (dC, dI) vwCl [(cI, FieldType.int), (cJ, FieldType.long), (cZ, FieldType.boolean)] U ∧ mz_N U)) (va_Qi (fun (r : Int32) (_ : Unit) => r = 0) (fun _ t => t.heap = Hq) (fun _ : Nat => False)) 0 0 (fun _ : Nat => False) := by
  refine Met.ofW (cc := cX8_book) (maxL := 4) (ret := (some .boolean)) (by decide) rfl ?_
  intro p e s m args below meth c s₁ B hml hv
  obtain ⟨rfl, hH, hP, hK, hN⟩ := hv
  subst hH
  have hx := B.exec
  have hb := B.bytes
  have hr := B.returns
  have hts := atoms_spec (ws := wsX8_book) B.pre
  have hown : s.vm.findClass RX8 = some m.cls := findClass_of_methodNamed B.named
  have hlocks := B.notSynchronized
  have hS : va_S (fun _ : Nat => False) s.heap s.heap [] := va_S.rf
  have hl := lv_entry ([.ref mo, .int p1, .int p2, .int p3]) (n := 4) (Nat.le_of_ble_eq_true rfl)
  rw [lg_entry_eq]
  generalize (lg_sl ([.ref mo, .int p1, .int p2, .int p3]) ++ List.replicate (4 - (lg_sl ([.ref mo, .int p1, .int p2, .int p3])).length) Slot.unset).toArray = ls at hl ⊢
  have hl : lv_has ls 4 [(0, .ref mo), (1, .int p1), (2, .int p2), (3, .int p3)] := hl
  refine lv_aload_n hx hb dX8_book_0 rfl (lv_at hl 0 rfl) ?_
  refine lv_iload_n hx hb dX8_book_1 rfl (lv_at hl 1 rfl) ?_
  refine lv_iload_n hx hb dX8_book_2 rfl (lv_at hl 2 rfl) ?_
  have hPc := hP.sub (ws' := [(mo, .inr (8, [.int 0, .ref m1, .ref m2, .ref m3, .long 0, .long 1, .ref m6, .ref m7, .ref m8, .ref m9, .ref m10, .ref m11, .ref m12, .ref m13, .ref m14, .ref m15, .ref m16]))]) [0] rfl
  refine va_calli (va_runV (As := [.int p1, .int p2]) (rest := []) ⟨hx, hb, hml, hown, hts⟩ (mz_M_isRow l dC dI cI cJ cZ mo m1 m2 m3 m6 m7 m8 m9 m10 m11 m12 m13 m14 m15 m16 p1 p2 s.heap ) (cwV 2 hts gX8_book_X8_isRow rfl rfl rfl (by decide +kernel) ⟨Nat.le_of_ble_eq_true rfl, Nat.le_of_ble_eq_true rfl⟩) ⟨fun a U g mk q => mz_blP q, va_recv hK hPc (ci := 8) (q0 := 0) rfl rfl, fun U hU hW => ⟨rfl, hU, hPc, va_K.moved hW.alike hK, mz_nw hW hN⟩⟩ rfl rfl hl.1 rfl (lv_room (Nat.le_of_ble_eq_true rfl)) dX8_book_3 ⟨Nat.le_of_ble_eq_true rfl, Nat.le_of_ble_eq_true rfl⟩) hS (fun q _ h => h.elim) (fun q h => h.elim) (fun r u t H1 locs ht hvm hw hB hz1 hk1 hS => ?_)
  have hE : s.heap = H1 := hB.symm.trans ht
  subst hE
  obtain rfl : r = 0 := hw
  refine lv_if_eq (tgt := 19) hx hb dX8_book_6 (by decide) (fun _ => ?_) (fun c_6 => absurd (by decide +kernel) c_6)
  refine lv_iconst (v := 0) hx hb dX8_book_19 (by decide +kernel) ?_
  refine W.widen (k := 0) (n := 0) (Nat.le_of_ble_eq_true rfl) (Nat.le_of_ble_eq_true rfl) ?_
  exact W.zret (v := 0) hx hb hr (mz_nz (by decide +kernel)) (fun t ht hW => ⟨⟨0, (), rfl, rfl, ht⟩, hS.F ht⟩) hS.2.2 dX8_book_20
set_option maxHeartbeats 1000000 in
set_option maxRecDepth 100000 in
theorem mz_M_booked (l : Launch) (dC : Nat → ClassId) (dI : Nat → Nat → Nat) (cI cJ cZ : ClassId) (mo : Nat) (m1 : Nat) (m2 : Nat) (m3 : Nat) (m6 : Nat) (m7 : Nat) (m8 : Nat) (m9 : Nat) (m10 : Nat) (m11 : Nat) (m12 : Nat) (m13 : Nat) (m14 : Nat) (m15 : Nat) (m16 : Nat) (p1 : Int32) (p2 : Int32) (Hq : Heap)  : Met l yX8_booked wsX8_booked ({ frames := 2, cells := 0, slots := 0, locals := 43 }) (va_Pc [.ref mo, .int p1, .int p2] (fun U => U.heap = Hq ∧ va_P (dC, dI) vwCl [(mo, .inr (8, [.int 0, .ref m1, .ref m2, .ref m3, .long 0, .long 1, .ref m6, .ref m7, .ref m8, .ref m9, .ref m10, .ref m11, .ref m12, .ref m13, .ref m14, .ref m15, .ref m16]))] Hq ∧ va_K (dC, dI) vwCl [(cI, FieldType.int), (cJ, FieldType.long), (cZ, FieldType.boolean)] U ∧ mz_N U)) (va_Qi (fun (r : Int32) (_ : Unit) => r = (-1)) (fun _ t => t.heap = Hq) (fun _ : Nat => False)) 0 0 (fun _ : Nat => False) := by
  refine Met.ofW (cc := cX8_booked) (maxL := 3) (ret := (some .int)) (by decide) rfl ?_
  intro p e s m args below meth c s₁ B hml hv
  obtain ⟨rfl, hH, hP, hK, hN⟩ := hv
  subst hH
  have hx := B.exec
  have hb := B.bytes
  have hr := B.returns
  have hts := atoms_spec (ws := wsX8_booked) B.pre
  have hown : s.vm.findClass RX8 = some m.cls := findClass_of_methodNamed B.named
  have hlocks := B.notSynchronized
  have hS : va_S (fun _ : Nat => False) s.heap s.heap [] := va_S.rf
  have hl := lv_entry ([.ref mo, .int p1, .int p2]) (n := 3) (Nat.le_of_ble_eq_true rfl)
  rw [lg_entry_eq]
  generalize (lg_sl ([.ref mo, .int p1, .int p2]) ++ List.replicate (3 - (lg_sl ([.ref mo, .int p1, .int p2])).length) Slot.unset).toArray = ls at hl ⊢
  have hl : lv_has ls 3 [(0, .ref mo), (1, .int p1), (2, .int p2)] := hl
  refine lv_aload_n hx hb dX8_booked_0 rfl (lv_at hl 0 rfl) ?_
  refine lv_iload_n hx hb dX8_booked_1 rfl (lv_at hl 1 rfl) ?_
  refine lv_iload_n hx hb dX8_booked_2 rfl (lv_at hl 2 rfl) ?_
  have hPc := hP.sub (ws' := [(mo, .inr (8, [.int 0, .ref m1, .ref m2, .ref m3, .long 0, .long 1, .ref m6, .ref m7, .ref m8, .ref m9, .ref m10, .ref m11, .ref m12, .ref m13, .ref m14, .ref m15, .ref m16]))]) [0] rfl
  refine va_calli (va_runV (As := [.int p1, .int p2]) (rest := []) ⟨hx, hb, hml, hown, hts⟩ (mz_M_isRow l dC dI cI cJ cZ mo m1 m2 m3 m6 m7 m8 m9 m10 m11 m12 m13 m14 m15 m16 p1 p2 s.heap ) (cwV 2 hts gX8_booked_X8_isRow rfl rfl rfl (by decide +kernel) ⟨Nat.le_of_ble_eq_true rfl, Nat.le_of_ble_eq_true rfl⟩) ⟨fun a U g mk q => mz_blP q, va_recv hK hPc (ci := 8) (q0 := 0) rfl rfl, fun U hU hW => ⟨rfl, hU, hPc, va_K.moved hW.alike hK, mz_nw hW hN⟩⟩ rfl rfl hl.1 rfl (lv_room (Nat.le_of_ble_eq_true rfl)) dX8_booked_3 ⟨Nat.le_of_ble_eq_true rfl, Nat.le_of_ble_eq_true rfl⟩) hS (fun q _ h => h.elim) (fun q h => h.elim) (fun r u t H1 locs ht hvm hw hB hz1 hk1 hS => ?_)
  have hE : s.heap = H1 := hB.symm.trans ht
  subst hE
  obtain rfl : r = 0 := hw
  refine lv_if_eq (tgt := 24) hx hb dX8_booked_6 (by decide) (fun _ => ?_) (fun c_6 => absurd (by decide +kernel) c_6)
  refine lv_iconst (v := (-1)) hx hb dX8_booked_24 (by decide +kernel) ?_
  refine W.widen (k := 0) (n := 0) (Nat.le_of_ble_eq_true rfl) (Nat.le_of_ble_eq_true rfl) ?_
  exact W.iret (v := (-1)) hx hb hr (fun t ht hW => ⟨⟨(-1), (), rfl, rfl, ht⟩, hS.F ht⟩) hS.2.2 dX8_booked_25
set_option maxHeartbeats 1000000 in
set_option maxRecDepth 100000 in
theorem mz_M_told (l : Launch) (dC : Nat → ClassId) (dI : Nat → Nat → Nat) (cI cJ cZ : ClassId) (mo : Nat) (m1 : Nat) (m2 : Nat) (m3 : Nat) (m6 : Nat) (m7 : Nat) (m8 : Nat) (m9 : Nat) (m10 : Nat) (m11 : Nat) (m12 : Nat) (m13 : Nat) (m14 : Nat) (m15 : Nat) (m16 : Nat) (p1 : Int32) (p2 : Int32) (Hq : Heap)  : Met l yX8_told wsX8_told ({ frames := 1, cells := 0, slots := 0, locals := 21 }) (va_Pc [.ref mo, .int p1, .int p2] (fun U => U.heap = Hq ∧ va_P (dC, dI) vwCl [(mo, .inr (8, [.int 0, .ref m1, .ref m2, .ref m3, .long 0, .long 1, .ref m6, .ref m7, .ref m8, .ref m9, .ref m10, .ref m11, .ref m12, .ref m13, .ref m14, .ref m15, .ref m16]))] Hq ∧ va_K (dC, dI) vwCl [(cI, FieldType.int), (cJ, FieldType.long), (cZ, FieldType.boolean)] U ∧ mz_N U)) (va_Qi (fun (r : Int32) (_ : Unit) => r = (-1)) (fun _ t => t.heap = Hq) (fun _ : Nat => False)) 0 0 (fun _ : Nat => False) := by
  refine Met.ofW (cc := cX8_told) (maxL := 5) (ret := (some .int)) (by decide) rfl ?_
  intro p e s m args below meth c s₁ B hml hv
  obtain ⟨rfl, hH, hP, hK, hN⟩ := hv
  subst hH
  have hx := B.exec
  have hb := B.bytes
  have hr := B.returns
  have hts := atoms_spec (ws := wsX8_told) B.pre
  have hown : s.vm.findClass RX8 = some m.cls := findClass_of_methodNamed B.named
  have hlocks := B.notSynchronized
  have hS : va_S (fun _ : Nat => False) s.heap s.heap [] := va_S.rf
  have hl := lv_entry ([.ref mo, .int p1, .int p2]) (n := 5) (Nat.le_of_ble_eq_true rfl)
  rw [lg_entry_eq]
  generalize (lg_sl ([.ref mo, .int p1, .int p2]) ++ List.replicate (5 - (lg_sl ([.ref mo, .int p1, .int p2])).length) Slot.unset).toArray = ls at hl ⊢
  have hl : lv_has ls 5 [(0, .ref mo), (1, .int p1), (2, .int p2)] := hl
  refine lv_aload_n hx hb dX8_told_0 rfl (lv_at hl 0 rfl) ?_
  refine lv_iload_n hx hb dX8_told_1 rfl (lv_at hl 1 rfl) ?_
  have hPc := hP.sub (ws' := [(mo, .inr (8, [.int 0, .ref m1, .ref m2, .ref m3, .long 0, .long 1, .ref m6, .ref m7, .ref m8, .ref m9, .ref m10, .ref m11, .ref m12, .ref m13, .ref m14, .ref m15, .ref m16]))]) [0] rfl
  refine va_calli (va_runV (As := [.int p1]) (rest := []) ⟨hx, hb, hml, hown, hts⟩ (mz_M_isThing l dC dI cI cJ cZ mo m1 m2 m3 m6 m7 m8 m9 m10 m11 m12 m13 m14 m15 m16 p1 s.heap ) (cwV 1 hts gX8_told_X8_isThing rfl rfl rfl (by decide +kernel) ⟨Nat.le_of_ble_eq_true rfl, Nat.le_of_ble_eq_true rfl⟩) ⟨fun a U g mk q => mz_blP q, va_recv hK hPc (ci := 8) (q0 := 0) rfl rfl, fun U hU hW => ⟨rfl, hU, hPc, va_K.moved hW.alike hK, mz_nw hW hN⟩⟩ rfl rfl hl.1 rfl (lv_room (Nat.le_of_ble_eq_true rfl)) dX8_told_2 ⟨Nat.le_of_ble_eq_true rfl, Nat.le_of_ble_eq_true rfl⟩) hS (fun q _ h => h.elim) (fun q h => h.elim) (fun r u t H1 locs ht hvm hw hB hz1 hk1 hS => ?_)
  have hE : s.heap = H1 := hB.symm.trans ht
  subst hE
  obtain rfl : r = 0 := hw
  refine lv_if_ne (tgt := 10) hx hb dX8_told_5 (by decide) (fun c_5 => absurd (by decide +kernel) c_5) (fun _ => ?_)
  refine lv_iconst (v := (-1)) hx hb dX8_told_8 (by decide +kernel) ?_
  refine W.widen (k := 0) (n := 0) (Nat.le_of_ble_eq_true rfl) (Nat.le_of_ble_eq_true rfl) ?_
  exact W.iret (v := (-1)) hx hb hr (fun t ht hW => ⟨⟨(-1), (), rfl, rfl, ht⟩, hS.F ht⟩) hS.2.2 dX8_told_9
set_option maxHeartbeats 1000000 in
set_option maxRecDepth 100000 in
theorem mz_M_least (l : Launch) (dC : Nat → ClassId) (dI : Nat → Nat → Nat) (cI cJ cZ : ClassId) (mo : Nat) (m1 : Nat) (m2 : Nat) (m3 : Nat) (m6 : Nat) (m7 : Nat) (m8 : Nat) (m9 : Nat) (m10 : Nat) (m11 : Nat) (m12 : Nat) (m13 : Nat) (m14 : Nat) (m15 : Nat) (m16 : Nat) (p1 : Int32) (p2 : Int32) (Hq : Heap)  : Met l yX8_least wsX8_least ({ frames := 2, cells := 0, slots := 0, locals := 45 }) (va_Pc [.ref mo, .int p1, .int p2] (fun U => U.heap = Hq ∧ va_P (dC, dI) vwCl [(mo, .inr (8, [.int 0, .ref m1, .ref m2, .ref m3, .long 0, .long 1, .ref m6, .ref m7, .ref m8, .ref m9, .ref m10, .ref m11, .ref m12, .ref m13, .ref m14, .ref m15, .ref m16]))] Hq ∧ va_K (dC, dI) vwCl [(cI, FieldType.int), (cJ, FieldType.long), (cZ, FieldType.boolean)] U ∧ mz_N U)) (va_Qi (fun (r : Int32) (_ : Unit) => r = (-1)) (fun _ t => t.heap = Hq) (fun _ : Nat => False)) 0 0 (fun _ : Nat => False) := by
  refine Met.ofW (cc := cX8_least) (maxL := 5) (ret := (some .int)) (by decide) rfl ?_
  intro p e s m args below meth c s₁ B hml hv
  obtain ⟨rfl, hH, hP, hK, hN⟩ := hv
  subst hH
  have hx := B.exec
  have hb := B.bytes
  have hr := B.returns
  have hts := atoms_spec (ws := wsX8_least) B.pre
  have hown : s.vm.findClass RX8 = some m.cls := findClass_of_methodNamed B.named
  have hlocks := B.notSynchronized
  have hS : va_S (fun _ : Nat => False) s.heap s.heap [] := va_S.rf
  have hl := lv_entry ([.ref mo, .int p1, .int p2]) (n := 5) (Nat.le_of_ble_eq_true rfl)
  rw [lg_entry_eq]
  generalize (lg_sl ([.ref mo, .int p1, .int p2]) ++ List.replicate (5 - (lg_sl ([.ref mo, .int p1, .int p2])).length) Slot.unset).toArray = ls at hl ⊢
  have hl : lv_has ls 5 [(0, .ref mo), (1, .int p1), (2, .int p2)] := hl
  refine lv_aload_n hx hb dX8_least_0 rfl (lv_at hl 0 rfl) ?_
  refine lv_iload_n hx hb dX8_least_1 rfl (lv_at hl 1 rfl) ?_
  refine lv_iload_n hx hb dX8_least_2 rfl (lv_at hl 2 rfl) ?_
  have hPc := hP.sub (ws' := [(mo, .inr (8, [.int 0, .ref m1, .ref m2, .ref m3, .long 0, .long 1, .ref m6, .ref m7, .ref m8, .ref m9, .ref m10, .ref m11, .ref m12, .ref m13, .ref m14, .ref m15, .ref m16]))]) [0] rfl
  refine va_calli (va_runV (As := [.int p1, .int p2]) (rest := []) ⟨hx, hb, hml, hown, hts⟩ (mz_M_works l dC dI cI cJ cZ mo m1 m2 m3 m6 m7 m8 m9 m10 m11 m12 m13 m14 m15 m16 p1 p2 s.heap ) (cwV 2 hts gX8_least_X8_works rfl rfl rfl (by decide +kernel) ⟨Nat.le_of_ble_eq_true rfl, Nat.le_of_ble_eq_true rfl⟩) ⟨fun a U g mk q => mz_blP q, va_recv hK hPc (ci := 8) (q0 := 0) rfl rfl, fun U hU hW => ⟨rfl, hU, hPc, va_K.moved hW.alike hK, mz_nw hW hN⟩⟩ rfl rfl hl.1 rfl (lv_room (Nat.le_of_ble_eq_true rfl)) dX8_least_3 ⟨Nat.le_of_ble_eq_true rfl, Nat.le_of_ble_eq_true rfl⟩) hS (fun q _ h => h.elim) (fun q h => h.elim) (fun r u t H1 locs ht hvm hw hB hz1 hk1 hS => ?_)
  have hE : s.heap = H1 := hB.symm.trans ht
  subst hE
  obtain rfl : r = 0 := hw
  refine lv_if_ne (tgt := 11) hx hb dX8_least_6 (by decide) (fun c_6 => absurd (by decide +kernel) c_6) (fun _ => ?_)
  refine lv_iconst (v := (-1)) hx hb dX8_least_9 (by decide +kernel) ?_
  refine W.widen (k := 0) (n := 0) (Nat.le_of_ble_eq_true rfl) (Nat.le_of_ble_eq_true rfl) ?_
  exact W.iret (v := (-1)) hx hb hr (fun t ht hW => ⟨⟨(-1), (), rfl, rfl, ht⟩, hS.F ht⟩) hS.2.2 dX8_least_10
set_option maxHeartbeats 1000000 in
set_option maxRecDepth 100000 in
theorem mz_M_leastAt (l : Launch) (dC : Nat → ClassId) (dI : Nat → Nat → Nat) (cI cJ cZ : ClassId) (mo : Nat) (m1 : Nat) (m2 : Nat) (m3 : Nat) (m6 : Nat) (m7 : Nat) (m8 : Nat) (m9 : Nat) (m10 : Nat) (m11 : Nat) (m12 : Nat) (m13 : Nat) (m14 : Nat) (m15 : Nat) (m16 : Nat) (p1 : Int32) (p2 : Int32) (p3 : Int32) (Hq : Heap)  : Met l yX8_leastAt wsX8_leastAt ({ frames := 2, cells := 0, slots := 0, locals := 45 }) (va_Pc [.ref mo, .int p1, .int p2, .int p3] (fun U => U.heap = Hq ∧ va_P (dC, dI) vwCl [(mo, .inr (8, [.int 0, .ref m1, .ref m2, .ref m3, .long 0, .long 1, .ref m6, .ref m7, .ref m8, .ref m9, .ref m10, .ref m11, .ref m12, .ref m13, .ref m14, .ref m15, .ref m16]))] Hq ∧ va_K (dC, dI) vwCl [(cI, FieldType.int), (cJ, FieldType.long), (cZ, FieldType.boolean)] U ∧ mz_N U)) (va_Qi (fun (r : Int32) (_ : Unit) => r = (-1)) (fun _ t => t.heap = Hq) (fun _ : Nat => False)) 0 0 (fun _ : Nat => False) := by
  refine Met.ofW (cc := cX8_leastAt) (maxL := 6) (ret := (some .int)) (by decide) rfl ?_
  intro p e s m args below meth c s₁ B hml hv
  obtain ⟨rfl, hH, hP, hK, hN⟩ := hv
  subst hH
  have hx := B.exec
  have hb := B.bytes
  have hr := B.returns
  have hts := atoms_spec (ws := wsX8_leastAt) B.pre
  have hown : s.vm.findClass RX8 = some m.cls := findClass_of_methodNamed B.named
  have hlocks := B.notSynchronized
  have hS : va_S (fun _ : Nat => False) s.heap s.heap [] := va_S.rf
  have hl := lv_entry ([.ref mo, .int p1, .int p2, .int p3]) (n := 6) (Nat.le_of_ble_eq_true rfl)
  rw [lg_entry_eq]
  generalize (lg_sl ([.ref mo, .int p1, .int p2, .int p3]) ++ List.replicate (6 - (lg_sl ([.ref mo, .int p1, .int p2, .int p3])).length) Slot.unset).toArray = ls at hl ⊢
  have hl : lv_has ls 6 [(0, .ref mo), (1, .int p1), (2, .int p2), (3, .int p3)] := hl
  refine lv_iload_n hx hb dX8_leastAt_0 rfl (lv_at hl 3 rfl) ?_
  refine lv_if_lt (tgt := 13) hx hb dX8_leastAt_1 (by decide) (fun c_1 => ?_) (fun c_1 => ?_)
  · skip
    refine lv_iconst (v := (-1)) hx hb dX8_leastAt_13 (by decide +kernel) ?_
    refine W.widen (k := 0) (n := 0) (Nat.le_of_ble_eq_true rfl) (Nat.le_of_ble_eq_true rfl) ?_
    exact W.iret (v := (-1)) hx hb hr (fun t ht hW => ⟨⟨(-1), (), rfl, rfl, ht⟩, hS.F ht⟩) hS.2.2 dX8_leastAt_14
  · skip
    refine lv_aload_n hx hb dX8_leastAt_4 rfl (lv_at hl 0 rfl) ?_
    refine lv_iload_n hx hb dX8_leastAt_5 rfl (lv_at hl 1 rfl) ?_
    refine lv_iload_n hx hb dX8_leastAt_6 rfl (lv_at hl 2 rfl) ?_
    have hPc := hP.sub (ws' := [(mo, .inr (8, [.int 0, .ref m1, .ref m2, .ref m3, .long 0, .long 1, .ref m6, .ref m7, .ref m8, .ref m9, .ref m10, .ref m11, .ref m12, .ref m13, .ref m14, .ref m15, .ref m16]))]) [0] rfl
    refine va_calli (va_runV (As := [.int p1, .int p2]) (rest := []) ⟨hx, hb, hml, hown, hts⟩ (mz_M_works l dC dI cI cJ cZ mo m1 m2 m3 m6 m7 m8 m9 m10 m11 m12 m13 m14 m15 m16 p1 p2 s.heap ) (cwV 2 hts gX8_leastAt_X8_works rfl rfl rfl (by decide +kernel) ⟨Nat.le_of_ble_eq_true rfl, Nat.le_of_ble_eq_true rfl⟩) ⟨fun a U g mk q => mz_blP q, va_recv hK hPc (ci := 8) (q0 := 0) rfl rfl, fun U hU hW => ⟨rfl, hU, hPc, va_K.moved hW.alike hK, mz_nw hW hN⟩⟩ rfl rfl hl.1 rfl (lv_room (Nat.le_of_ble_eq_true rfl)) dX8_leastAt_7 ⟨Nat.le_of_ble_eq_true rfl, Nat.le_of_ble_eq_true rfl⟩) hS (fun q _ h => h.elim) (fun q h => h.elim) (fun r u t H1 locs ht hvm hw hB hz1 hk1 hS => ?_)
    have hE : s.heap = H1 := hB.symm.trans ht
    subst hE
    obtain rfl : r = 0 := hw
    refine lv_if_ne (tgt := 15) hx hb dX8_leastAt_10 (by decide) (fun c_10 => absurd (by decide +kernel) c_10) (fun _ => ?_)
    refine lv_iconst (v := (-1)) hx hb dX8_leastAt_13 (by decide +kernel) ?_
    refine W.widen (k := 0) (n := 0) (Nat.le_of_ble_eq_true rfl) (Nat.le_of_ble_eq_true rfl) ?_
    exact W.iret (v := (-1)) hx hb hr (fun t ht hW => ⟨⟨(-1), (), rfl, rfl, ht⟩, hS.F ht⟩) hS.2.2 dX8_leastAt_14
set_option maxHeartbeats 1000000 in
set_option maxRecDepth 100000 in
theorem mz_M_fit (l : Launch) (dC : Nat → ClassId) (dI : Nat → Nat → Nat) (cI cJ cZ : ClassId) (mo : Nat) (m1 : Nat) (m2 : Nat) (m3 : Nat) (m6 : Nat) (m7 : Nat) (m8 : Nat) (m9 : Nat) (m10 : Nat) (m11 : Nat) (m12 : Nat) (m13 : Nat) (m14 : Nat) (m15 : Nat) (m16 : Nat) (p1 : Int32) (p2 : Int32) (p3 : Int32) (Hq : Heap)  : Met l yX8_fit wsX8_fit ({ frames := 1, cells := 0, slots := 0, locals := 21 }) (va_Pc [.ref mo, .int p1, .int p2, .int p3] (fun U => U.heap = Hq ∧ va_P (dC, dI) vwCl [(mo, .inr (8, [.int 0, .ref m1, .ref m2, .ref m3, .long 0, .long 1, .ref m6, .ref m7, .ref m8, .ref m9, .ref m10, .ref m11, .ref m12, .ref m13, .ref m14, .ref m15, .ref m16]))] Hq ∧ va_K (dC, dI) vwCl [(cI, FieldType.int), (cJ, FieldType.long), (cZ, FieldType.boolean)] U ∧ mz_N U)) (va_Qi (fun (r : Int32) (_ : Unit) => r = 0) (fun _ t => t.heap = Hq) (fun _ : Nat => False)) 0 0 (fun _ : Nat => False) := by
  refine Met.ofW (cc := cX8_fit) (maxL := 7) (ret := (some .boolean)) (by decide) rfl ?_
  intro p e s m args below meth c s₁ B hml hv
  obtain ⟨rfl, hH, hP, hK, hN⟩ := hv
  subst hH
  have hx := B.exec
  have hb := B.bytes
  have hr := B.returns
  have hts := atoms_spec (ws := wsX8_fit) B.pre
  have hown : s.vm.findClass RX8 = some m.cls := findClass_of_methodNamed B.named
  have hlocks := B.notSynchronized
  have hS : va_S (fun _ : Nat => False) s.heap s.heap [] := va_S.rf
  have hl := lv_entry ([.ref mo, .int p1, .int p2, .int p3]) (n := 7) (Nat.le_of_ble_eq_true rfl)
  rw [lg_entry_eq]
  generalize (lg_sl ([.ref mo, .int p1, .int p2, .int p3]) ++ List.replicate (7 - (lg_sl ([.ref mo, .int p1, .int p2, .int p3])).length) Slot.unset).toArray = ls at hl ⊢
  have hl : lv_has ls 7 [(0, .ref mo), (1, .int p1), (2, .int p2), (3, .int p3)] := hl
  refine lv_aload_n hx hb dX8_fit_0 rfl (lv_at hl 0 rfl) ?_
  refine lv_iload_n hx hb dX8_fit_1 rfl (lv_at hl 1 rfl) ?_
  have hPc := hP.sub (ws' := [(mo, .inr (8, [.int 0, .ref m1, .ref m2, .ref m3, .long 0, .long 1, .ref m6, .ref m7, .ref m8, .ref m9, .ref m10, .ref m11, .ref m12, .ref m13, .ref m14, .ref m15, .ref m16]))]) [0] rfl
  refine va_calli (va_runV (As := [.int p1]) (rest := []) ⟨hx, hb, hml, hown, hts⟩ (mz_M_isThing l dC dI cI cJ cZ mo m1 m2 m3 m6 m7 m8 m9 m10 m11 m12 m13 m14 m15 m16 p1 s.heap ) (cwV 1 hts gX8_fit_X8_isThing rfl rfl rfl (by decide +kernel) ⟨Nat.le_of_ble_eq_true rfl, Nat.le_of_ble_eq_true rfl⟩) ⟨fun a U g mk q => mz_blP q, va_recv hK hPc (ci := 8) (q0 := 0) rfl rfl, fun U hU hW => ⟨rfl, hU, hPc, va_K.moved hW.alike hK, mz_nw hW hN⟩⟩ rfl rfl hl.1 rfl (lv_room (Nat.le_of_ble_eq_true rfl)) dX8_fit_2 ⟨Nat.le_of_ble_eq_true rfl, Nat.le_of_ble_eq_true rfl⟩) hS (fun q _ h => h.elim) (fun q h => h.elim) (fun r u t H1 locs ht hvm hw hB hz1 hk1 hS => ?_)
  have hE : s.heap = H1 := hB.symm.trans ht
  subst hE
  obtain rfl : r = 0 := hw
  refine lv_if_eq (tgt := 58) hx hb dX8_fit_5 (by decide) (fun _ => ?_) (fun c_5 => absurd (by decide +kernel) c_5)
  refine lv_iconst (v := 0) hx hb dX8_fit_58 (by decide +kernel) ?_
  refine W.widen (k := 0) (n := 0) (Nat.le_of_ble_eq_true rfl) (Nat.le_of_ble_eq_true rfl) ?_
  exact W.zret (v := 0) hx hb hr (mz_nz (by decide +kernel)) (fun t ht hW => ⟨⟨0, (), rfl, rfl, ht⟩, hS.F ht⟩) hS.2.2 dX8_fit_59
set_option maxHeartbeats 1000000 in
set_option maxRecDepth 100000 in
theorem mz_M_agrees (l : Launch) (dC : Nat → ClassId) (dI : Nat → Nat → Nat) (cI cJ cZ : ClassId) (mo : Nat) (m1 : Nat) (m2 : Nat) (m3 : Nat) (m6 : Nat) (m7 : Nat) (m8 : Nat) (m9 : Nat) (m10 : Nat) (m11 : Nat) (m12 : Nat) (m13 : Nat) (m14 : Nat) (m15 : Nat) (m16 : Nat) (p1 : Int32) (p2 : Int32) (p3 : Int32) (p4 : Int32) (p5 : Int32) (Hq : Heap)  : Met l yX8_agrees wsX8_agrees ({ frames := 1, cells := 0, slots := 0, locals := 21 }) (va_Pc [.ref mo, .int p1, .int p2, .int p3, .int p4, .int p5] (fun U => U.heap = Hq ∧ va_P (dC, dI) vwCl [(mo, .inr (8, [.int 0, .ref m1, .ref m2, .ref m3, .long 0, .long 1, .ref m6, .ref m7, .ref m8, .ref m9, .ref m10, .ref m11, .ref m12, .ref m13, .ref m14, .ref m15, .ref m16]))] Hq ∧ va_K (dC, dI) vwCl [(cI, FieldType.int), (cJ, FieldType.long), (cZ, FieldType.boolean)] U ∧ mz_N U)) (va_Qi (fun (r : Int32) (_ : Unit) => r = (-1)) (fun _ t => t.heap = Hq) (fun _ : Nat => False)) 0 0 (fun _ : Nat => False) := by
  refine Met.ofW (cc := cX8_agrees) (maxL := 24) (ret := (some .int)) (by decide) rfl ?_
  intro p e s m args below meth c s₁ B hml hv
  obtain ⟨rfl, hH, hP, hK, hN⟩ := hv
  subst hH
  have hx := B.exec
  have hb := B.bytes
  have hr := B.returns
  have hts := atoms_spec (ws := wsX8_agrees) B.pre
  have hown : s.vm.findClass RX8 = some m.cls := findClass_of_methodNamed B.named
  have hlocks := B.notSynchronized
  have hS : va_S (fun _ : Nat => False) s.heap s.heap [] := va_S.rf
  have hl := lv_entry ([.ref mo, .int p1, .int p2, .int p3, .int p4, .int p5]) (n := 24) (Nat.le_of_ble_eq_true rfl)
  rw [lg_entry_eq]
  generalize (lg_sl ([.ref mo, .int p1, .int p2, .int p3, .int p4, .int p5]) ++ List.replicate (24 - (lg_sl ([.ref mo, .int p1, .int p2, .int p3, .int p4, .int p5])).length) Slot.unset).toArray = ls at hl ⊢
  have hl : lv_has ls 24 [(0, .ref mo), (1, .int p1), (2, .int p2), (3, .int p3), (4, .int p4), (5, .int p5)] := hl
  refine lv_aload_n hx hb dX8_agrees_0 rfl (lv_at hl 0 rfl) ?_
  refine lv_iload_n hx hb dX8_agrees_1 rfl (lv_at hl 1 rfl) ?_
  have hPc := hP.sub (ws' := [(mo, .inr (8, [.int 0, .ref m1, .ref m2, .ref m3, .long 0, .long 1, .ref m6, .ref m7, .ref m8, .ref m9, .ref m10, .ref m11, .ref m12, .ref m13, .ref m14, .ref m15, .ref m16]))]) [0] rfl
  refine va_calli (va_runV (As := [.int p1]) (rest := []) ⟨hx, hb, hml, hown, hts⟩ (mz_M_isThing l dC dI cI cJ cZ mo m1 m2 m3 m6 m7 m8 m9 m10 m11 m12 m13 m14 m15 m16 p1 s.heap ) (cwV 1 hts gX8_agrees_X8_isThing rfl rfl rfl (by decide +kernel) ⟨Nat.le_of_ble_eq_true rfl, Nat.le_of_ble_eq_true rfl⟩) ⟨fun a U g mk q => mz_blP q, va_recv hK hPc (ci := 8) (q0 := 0) rfl rfl, fun U hU hW => ⟨rfl, hU, hPc, va_K.moved hW.alike hK, mz_nw hW hN⟩⟩ rfl rfl hl.1 rfl (lv_room (Nat.le_of_ble_eq_true rfl)) dX8_agrees_2 ⟨Nat.le_of_ble_eq_true rfl, Nat.le_of_ble_eq_true rfl⟩) hS (fun q _ h => h.elim) (fun q h => h.elim) (fun r u t H1 locs ht hvm hw hB hz1 hk1 hS => ?_)
  have hE : s.heap = H1 := hB.symm.trans ht
  subst hE
  obtain rfl : r = 0 := hw
  refine lv_if_eq (tgt := 69) hx hb dX8_agrees_5 (by decide) (fun _ => ?_) (fun c_5 => absurd (by decide +kernel) c_5)
  refine lv_iconst (v := (-1)) hx hb dX8_agrees_69 (by decide +kernel) ?_
  refine W.widen (k := 0) (n := 0) (Nat.le_of_ble_eq_true rfl) (Nat.le_of_ble_eq_true rfl) ?_
  exact W.iret (v := (-1)) hx hb hr (fun t ht hW => ⟨⟨(-1), (), rfl, rfl, ht⟩, hS.F ht⟩) hS.2.2 dX8_agrees_70
set_option maxHeartbeats 1000000 in
set_option maxRecDepth 100000 in
theorem mz_M_fixed (l : Launch) (dC : Nat → ClassId) (dI : Nat → Nat → Nat) (cI cJ cZ : ClassId) (mo : Nat) (m1 : Nat) (m2 : Nat) (m3 : Nat) (m6 : Nat) (m7 : Nat) (m8 : Nat) (m9 : Nat) (m10 : Nat) (m11 : Nat) (m12 : Nat) (m13 : Nat) (m14 : Nat) (m15 : Nat) (m16 : Nat) (p1 : Int32) (p2 : Int32) (Hq : Heap)  : Met l yX8_fixed wsX8_fixed ({ frames := 2, cells := 0, slots := 0, locals := 43 }) (va_Pc [.ref mo, .int p1, .int p2] (fun U => U.heap = Hq ∧ va_P (dC, dI) vwCl [(mo, .inr (8, [.int 0, .ref m1, .ref m2, .ref m3, .long 0, .long 1, .ref m6, .ref m7, .ref m8, .ref m9, .ref m10, .ref m11, .ref m12, .ref m13, .ref m14, .ref m15, .ref m16]))] Hq ∧ va_K (dC, dI) vwCl [(cI, FieldType.int), (cJ, FieldType.long), (cZ, FieldType.boolean)] U ∧ mz_N U)) (va_Qi (fun (r : Int32) (_ : Unit) => r = 0) (fun _ t => t.heap = Hq) (fun _ : Nat => False)) 0 0 (fun _ : Nat => False) := by
  refine Met.ofW (cc := cX8_fixed) (maxL := 3) (ret := (some .boolean)) (by decide) rfl ?_
  intro p e s m args below meth c s₁ B hml hv
  obtain ⟨rfl, hH, hP, hK, hN⟩ := hv
  subst hH
  have hx := B.exec
  have hb := B.bytes
  have hr := B.returns
  have hts := atoms_spec (ws := wsX8_fixed) B.pre
  have hown : s.vm.findClass RX8 = some m.cls := findClass_of_methodNamed B.named
  have hlocks := B.notSynchronized
  have hS : va_S (fun _ : Nat => False) s.heap s.heap [] := va_S.rf
  have hl := lv_entry ([.ref mo, .int p1, .int p2]) (n := 3) (Nat.le_of_ble_eq_true rfl)
  rw [lg_entry_eq]
  generalize (lg_sl ([.ref mo, .int p1, .int p2]) ++ List.replicate (3 - (lg_sl ([.ref mo, .int p1, .int p2])).length) Slot.unset).toArray = ls at hl ⊢
  have hl : lv_has ls 3 [(0, .ref mo), (1, .int p1), (2, .int p2)] := hl
  refine lv_aload_n hx hb dX8_fixed_0 rfl (lv_at hl 0 rfl) ?_
  refine lv_iload_n hx hb dX8_fixed_1 rfl (lv_at hl 1 rfl) ?_
  refine lv_iload_n hx hb dX8_fixed_2 rfl (lv_at hl 2 rfl) ?_
  have hPc := hP.sub (ws' := [(mo, .inr (8, [.int 0, .ref m1, .ref m2, .ref m3, .long 0, .long 1, .ref m6, .ref m7, .ref m8, .ref m9, .ref m10, .ref m11, .ref m12, .ref m13, .ref m14, .ref m15, .ref m16]))]) [0] rfl
  refine va_calli (va_runV (As := [.int p1, .int p2]) (rest := []) ⟨hx, hb, hml, hown, hts⟩ (mz_M_has l dC dI cI cJ cZ mo m1 m2 m3 m6 m7 m8 m9 m10 m11 m12 m13 m14 m15 m16 p1 p2 s.heap ) (cwV 2 hts gX8_fixed_X8_has rfl rfl rfl (by decide +kernel) ⟨Nat.le_of_ble_eq_true rfl, Nat.le_of_ble_eq_true rfl⟩) ⟨fun a U g mk q => mz_blP q, va_recv hK hPc (ci := 8) (q0 := 0) rfl rfl, fun U hU hW => ⟨rfl, hU, hPc, va_K.moved hW.alike hK, mz_nw hW hN⟩⟩ rfl rfl hl.1 rfl (lv_room (Nat.le_of_ble_eq_true rfl)) dX8_fixed_3 ⟨Nat.le_of_ble_eq_true rfl, Nat.le_of_ble_eq_true rfl⟩) hS (fun q _ h => h.elim) (fun q h => h.elim) (fun r u t H1 locs ht hvm hw hB hz1 hk1 hS => ?_)
  have hE : s.heap = H1 := hB.symm.trans ht
  subst hE
  obtain rfl : r = 0 := hw
  refine lv_if_ne (tgt := 11) hx hb dX8_fixed_6 (by decide) (fun c_6 => absurd (by decide +kernel) c_6) (fun _ => ?_)
  refine lv_iconst (v := 0) hx hb dX8_fixed_9 (by decide +kernel) ?_
  refine W.widen (k := 0) (n := 0) (Nat.le_of_ble_eq_true rfl) (Nat.le_of_ble_eq_true rfl) ?_
  exact W.zret (v := 0) hx hb hr (mz_nz (by decide +kernel)) (fun t ht hW => ⟨⟨0, (), rfl, rfl, ht⟩, hS.F ht⟩) hS.2.2 dX8_fixed_10
set_option maxHeartbeats 1000000 in
set_option maxRecDepth 100000 in
theorem mz_M_otherwise (l : Launch) (dC : Nat → ClassId) (dI : Nat → Nat → Nat) (cI cJ cZ : ClassId) (mo : Nat) (m1 : Nat) (m2 : Nat) (m3 : Nat) (m6 : Nat) (m7 : Nat) (m8 : Nat) (m9 : Nat) (m10 : Nat) (m11 : Nat) (m12 : Nat) (m13 : Nat) (m14 : Nat) (m15 : Nat) (m16 : Nat) (p1 : Int32) (p2 : Int32) (p3 : Int32) (Hq : Heap)  : Met l yX8_otherwise wsX8_otherwise ({ frames := 1, cells := 0, slots := 0, locals := 21 }) (va_Pc [.ref mo, .int p1, .int p2, .int p3] (fun U => U.heap = Hq ∧ va_P (dC, dI) vwCl [(mo, .inr (8, [.int 0, .ref m1, .ref m2, .ref m3, .long 0, .long 1, .ref m6, .ref m7, .ref m8, .ref m9, .ref m10, .ref m11, .ref m12, .ref m13, .ref m14, .ref m15, .ref m16]))] Hq ∧ va_K (dC, dI) vwCl [(cI, FieldType.int), (cJ, FieldType.long), (cZ, FieldType.boolean)] U ∧ mz_N U)) (va_Ql (fun (r : Int64) (_ : Unit) => r = (-1)) (fun _ t => t.heap = Hq) (fun _ : Nat => False)) 0 0 (fun _ : Nat => False) := by
  refine Met.ofW (cc := cX8_otherwise) (maxL := 20) (ret := (some .long)) (by decide) rfl ?_
  intro p e s m args below meth c s₁ B hml hv
  obtain ⟨rfl, hH, hP, hK, hN⟩ := hv
  subst hH
  have hx := B.exec
  have hb := B.bytes
  have hr := B.returns
  have hts := atoms_spec (ws := wsX8_otherwise) B.pre
  have hown : s.vm.findClass RX8 = some m.cls := findClass_of_methodNamed B.named
  have hlocks := B.notSynchronized
  have hS : va_S (fun _ : Nat => False) s.heap s.heap [] := va_S.rf
  have hl := lv_entry ([.ref mo, .int p1, .int p2, .int p3]) (n := 20) (Nat.le_of_ble_eq_true rfl)
  rw [lg_entry_eq]
  generalize (lg_sl ([.ref mo, .int p1, .int p2, .int p3]) ++ List.replicate (20 - (lg_sl ([.ref mo, .int p1, .int p2, .int p3])).length) Slot.unset).toArray = ls at hl ⊢
  have hl : lv_has ls 20 [(0, .ref mo), (1, .int p1), (2, .int p2), (3, .int p3)] := hl
  refine lv_aload_n hx hb dX8_otherwise_0 rfl (lv_at hl 0 rfl) ?_
  refine lv_iload_n hx hb dX8_otherwise_1 rfl (lv_at hl 1 rfl) ?_
  have hPc := hP.sub (ws' := [(mo, .inr (8, [.int 0, .ref m1, .ref m2, .ref m3, .long 0, .long 1, .ref m6, .ref m7, .ref m8, .ref m9, .ref m10, .ref m11, .ref m12, .ref m13, .ref m14, .ref m15, .ref m16]))]) [0] rfl
  refine va_calli (va_runV (As := [.int p1]) (rest := []) ⟨hx, hb, hml, hown, hts⟩ (mz_M_isThing l dC dI cI cJ cZ mo m1 m2 m3 m6 m7 m8 m9 m10 m11 m12 m13 m14 m15 m16 p1 s.heap ) (cwV 1 hts gX8_otherwise_X8_isThing rfl rfl rfl (by decide +kernel) ⟨Nat.le_of_ble_eq_true rfl, Nat.le_of_ble_eq_true rfl⟩) ⟨fun a U g mk q => mz_blP q, va_recv hK hPc (ci := 8) (q0 := 0) rfl rfl, fun U hU hW => ⟨rfl, hU, hPc, va_K.moved hW.alike hK, mz_nw hW hN⟩⟩ rfl rfl hl.1 rfl (lv_room (Nat.le_of_ble_eq_true rfl)) dX8_otherwise_2 ⟨Nat.le_of_ble_eq_true rfl, Nat.le_of_ble_eq_true rfl⟩) hS (fun q _ h => h.elim) (fun q h => h.elim) (fun r u t H1 locs ht hvm hw hB hz1 hk1 hS => ?_)
  have hE : s.heap = H1 := hB.symm.trans ht
  subst hE
  obtain rfl : r = 0 := hw
  refine lv_if_eq (tgt := 30) hx hb dX8_otherwise_5 (by decide) (fun _ => ?_) (fun c_5 => absurd (by decide +kernel) c_5)
  refine lv_ldc2 hx hb hown (hts (.constantLong RX8 108 (-1)) (by decide +kernel)) dX8_otherwise_30 ?_
  refine W.widen (k := 0) (n := 0) (Nat.le_of_ble_eq_true rfl) (Nat.le_of_ble_eq_true rfl) ?_
  exact W.lret (v := (-1)) hx hb hr (fun t ht hW => ⟨⟨(-1), (), rfl, rfl, ht⟩, hS.F ht⟩) hS.2.2 dX8_otherwise_33
set_option maxHeartbeats 1000000 in
set_option maxRecDepth 100000 in
theorem mz_M_above (l : Launch) (dC : Nat → ClassId) (dI : Nat → Nat → Nat) (cI cJ cZ : ClassId) (mo : Nat) (m1 : Nat) (m2 : Nat) (m3 : Nat) (m6 : Nat) (m7 : Nat) (m8 : Nat) (m9 : Nat) (m10 : Nat) (m11 : Nat) (m12 : Nat) (m13 : Nat) (m14 : Nat) (m15 : Nat) (m16 : Nat) (Hq : Heap)  : Met l yX8_above wsX8_above ({ frames := 0, cells := 0, slots := 0, locals := 0 }) (va_Pc [.ref mo] (fun U => U.heap = Hq ∧ va_P (dC, dI) vwCl [(mo, .inr (8, [.int 0, .ref m1, .ref m2, .ref m3, .long 0, .long 1, .ref m6, .ref m7, .ref m8, .ref m9, .ref m10, .ref m11, .ref m12, .ref m13, .ref m14, .ref m15, .ref m16]))] Hq ∧ va_K (dC, dI) vwCl [(cI, FieldType.int), (cJ, FieldType.long), (cZ, FieldType.boolean)] U ∧ mz_N U)) (va_Ql (fun (r : Int64) (_ : Unit) => r = 0) (fun _ t => t.heap = Hq) (fun _ : Nat => False)) 0 0 (fun _ : Nat => False) := by
  refine Met.ofW (cc := cX8_above) (maxL := 1) (ret := (some .long)) (by decide) rfl ?_
  intro p e s m args below meth c s₁ B hml hv
  obtain ⟨rfl, hH, hP, hK, hN⟩ := hv
  subst hH
  have hx := B.exec
  have hb := B.bytes
  have hr := B.returns
  have hts := atoms_spec (ws := wsX8_above) B.pre
  have hown : s.vm.findClass RX8 = some m.cls := findClass_of_methodNamed B.named
  have hlocks := B.notSynchronized
  have hS : va_S (fun _ : Nat => False) s.heap s.heap [] := va_S.rf
  have hiX8 : ∀ w ∈ u_ws RX8 TX8 17, w ∈ wsX8_above := by decide +kernel
  have hl := lv_entry ([.ref mo]) (n := 1) (Nat.le_of_ble_eq_true rfl)
  rw [lg_entry_eq]
  generalize (lg_sl ([.ref mo]) ++ List.replicate (1 - (lg_sl ([.ref mo])).length) Slot.unset).toArray = ls at hl ⊢
  have hl : lv_has ls 1 [(0, .ref mo)] := hl
  refine lv_aload_n hx hb dX8_above_0 rfl (lv_at hl 0 rfl) ?_
  refine va_get (D := (dC, dI)) (ci := 8) (v := .long 0) (C := RX8) (T := TX8) (N := 17) hx hb hts hiX8 hown hK hP 0 rfl rfl 4 (by decide) (hts (.fieldLink RX8 110 "MadeItSoModel" "above" "J") (by decide +kernel)) (fun _ h9 => h9) rfl dX8_above_1 ?_
  refine W.widen (k := 0) (n := 0) (Nat.le_of_ble_eq_true rfl) (Nat.le_of_ble_eq_true rfl) ?_
  exact W.lret (v := 0) hx hb hr (fun t ht hW => ⟨⟨0, (), rfl, rfl, ht⟩, hS.F ht⟩) hS.2.2 dX8_above_4
set_option maxHeartbeats 1000000 in
set_option maxRecDepth 100000 in
theorem mz_M_below (l : Launch) (dC : Nat → ClassId) (dI : Nat → Nat → Nat) (cI cJ cZ : ClassId) (mo : Nat) (m1 : Nat) (m2 : Nat) (m3 : Nat) (m6 : Nat) (m7 : Nat) (m8 : Nat) (m9 : Nat) (m10 : Nat) (m11 : Nat) (m12 : Nat) (m13 : Nat) (m14 : Nat) (m15 : Nat) (m16 : Nat) (Hq : Heap)  : Met l yX8_below wsX8_below ({ frames := 0, cells := 0, slots := 0, locals := 0 }) (va_Pc [.ref mo] (fun U => U.heap = Hq ∧ va_P (dC, dI) vwCl [(mo, .inr (8, [.int 0, .ref m1, .ref m2, .ref m3, .long 0, .long 1, .ref m6, .ref m7, .ref m8, .ref m9, .ref m10, .ref m11, .ref m12, .ref m13, .ref m14, .ref m15, .ref m16]))] Hq ∧ va_K (dC, dI) vwCl [(cI, FieldType.int), (cJ, FieldType.long), (cZ, FieldType.boolean)] U ∧ mz_N U)) (va_Ql (fun (r : Int64) (_ : Unit) => r = 1) (fun _ t => t.heap = Hq) (fun _ : Nat => False)) 0 0 (fun _ : Nat => False) := by
  refine Met.ofW (cc := cX8_below) (maxL := 1) (ret := (some .long)) (by decide) rfl ?_
  intro p e s m args below meth c s₁ B hml hv
  obtain ⟨rfl, hH, hP, hK, hN⟩ := hv
  subst hH
  have hx := B.exec
  have hb := B.bytes
  have hr := B.returns
  have hts := atoms_spec (ws := wsX8_below) B.pre
  have hown : s.vm.findClass RX8 = some m.cls := findClass_of_methodNamed B.named
  have hlocks := B.notSynchronized
  have hS : va_S (fun _ : Nat => False) s.heap s.heap [] := va_S.rf
  have hiX8 : ∀ w ∈ u_ws RX8 TX8 17, w ∈ wsX8_below := by decide +kernel
  have hl := lv_entry ([.ref mo]) (n := 1) (Nat.le_of_ble_eq_true rfl)
  rw [lg_entry_eq]
  generalize (lg_sl ([.ref mo]) ++ List.replicate (1 - (lg_sl ([.ref mo])).length) Slot.unset).toArray = ls at hl ⊢
  have hl : lv_has ls 1 [(0, .ref mo)] := hl
  refine lv_aload_n hx hb dX8_below_0 rfl (lv_at hl 0 rfl) ?_
  refine va_get (D := (dC, dI)) (ci := 8) (v := .long 1) (C := RX8) (T := TX8) (N := 17) hx hb hts hiX8 hown hK hP 0 rfl rfl 5 (by decide) (hts (.fieldLink RX8 20 "MadeItSoModel" "below" "J") (by decide +kernel)) (fun _ h9 => h9) rfl dX8_below_1 ?_
  refine W.widen (k := 0) (n := 0) (Nat.le_of_ble_eq_true rfl) (Nat.le_of_ble_eq_true rfl) ?_
  exact W.lret (v := 1) hx hb hr (fun t ht hW => ⟨⟨1, (), rfl, rfl, ht⟩, hS.F ht⟩) hS.2.2 dX8_below_4
set_option maxHeartbeats 1000000 in
set_option maxRecDepth 100000 in
theorem mz_M_draw (l : Launch) (dC : Nat → ClassId) (dI : Nat → Nat → Nat) (cI cJ cZ : ClassId) (mo : Nat) (m1 : Nat) (m2 : Nat) (m3 : Nat) (m6 : Nat) (m7 : Nat) (m8 : Nat) (m9 : Nat) (m10 : Nat) (m11 : Nat) (m12 : Nat) (m13 : Nat) (m14 : Nat) (m15 : Nat) (m16 : Nat) (p1 : Int32) (p2 : Int32) (Hq : Heap)  : Met l yX8_draw wsX8_draw ({ frames := 2, cells := 0, slots := 0, locals := 42 }) (va_Pc [.ref mo, .int p1, .int p2] (fun U => U.heap = Hq ∧ va_P (dC, dI) vwCl [(mo, .inr (8, [.int 0, .ref m1, .ref m2, .ref m3, .long 0, .long 1, .ref m6, .ref m7, .ref m8, .ref m9, .ref m10, .ref m11, .ref m12, .ref m13, .ref m14, .ref m15, .ref m16]))] Hq ∧ va_K (dC, dI) vwCl [(cI, FieldType.int), (cJ, FieldType.long), (cZ, FieldType.boolean)] U ∧ mz_N U)) (va_Qi (fun (r : Int32) (_ : Unit) => r = (if p2 = 0 then 0 else (-1))) (fun _ t => t.heap = Hq) (fun _ : Nat => False)) 0 0 (fun _ : Nat => False) := by
  refine Met.ofW (cc := cX8_draw) (maxL := 9) (ret := (some .int)) (by decide) rfl ?_
  intro p e s m args below meth c s₁ B hml hv
  obtain ⟨rfl, hH, hP, hK, hN⟩ := hv
  subst hH
  have hx := B.exec
  have hb := B.bytes
  have hr := B.returns
  have hts := atoms_spec (ws := wsX8_draw) B.pre
  have hown : s.vm.findClass RX8 = some m.cls := findClass_of_methodNamed B.named
  have hlocks := B.notSynchronized
  have hS : va_S (fun _ : Nat => False) s.heap s.heap [] := va_S.rf
  have hiX8 : ∀ w ∈ u_ws RX8 TX8 17, w ∈ wsX8_draw := by decide +kernel
  have hl := lv_entry ([.ref mo, .int p1, .int p2]) (n := 9) (Nat.le_of_ble_eq_true rfl)
  rw [lg_entry_eq]
  generalize (lg_sl ([.ref mo, .int p1, .int p2]) ++ List.replicate (9 - (lg_sl ([.ref mo, .int p1, .int p2])).length) Slot.unset).toArray = ls at hl ⊢
  have hl : lv_has ls 9 [(0, .ref mo), (1, .int p1), (2, .int p2)] := hl
  refine lv_aload_n hx hb dX8_draw_0 rfl (lv_at hl 0 rfl) ?_
  refine lv_iload_n hx hb dX8_draw_1 rfl (lv_at hl 2 rfl) ?_
  by_cases hz_2 : p2 = 0
  · subst hz_2
    have hPc := hP.sub (ws' := [(mo, .inr (8, [.int 0, .ref m1, .ref m2, .ref m3, .long 0, .long 1, .ref m6, .ref m7, .ref m8, .ref m9, .ref m10, .ref m11, .ref m12, .ref m13, .ref m14, .ref m15, .ref m16]))]) [0] rfl
    refine va_calli (va_runV (As := [.int 0]) (rest := []) ⟨hx, hb, hml, hown, hts⟩ (mz_M_isSetting_0 l dC dI cI cJ cZ mo m1 m2 m3 m6 m7 m8 m9 m10 m11 m12 m13 m14 m15 m16 0 1 s.heap ) (cwV 1 hts gX8_draw_X8_isSetting rfl rfl rfl (by decide +kernel) ⟨Nat.le_of_ble_eq_true rfl, Nat.le_of_ble_eq_true rfl⟩) ⟨fun a U g mk q => mz_blP q, va_recv hK hPc (ci := 8) (q0 := 0) rfl rfl, fun U hU hW => ⟨rfl, hU, hPc, va_K.moved hW.alike hK, mz_nw hW hN⟩⟩ rfl rfl hl.1 rfl (lv_room (Nat.le_of_ble_eq_true rfl)) dX8_draw_2 ⟨Nat.le_of_ble_eq_true rfl, Nat.le_of_ble_eq_true rfl⟩) hS (fun q _ h => h.elim) (fun q h => h.elim) (fun r u t H1 locs ht hvm hw hB hz1 hk1 hS => ?_)
    have hE : s.heap = H1 := hB.symm.trans ht
    subst hE
    obtain rfl : r = 1 := hw
    refine lv_if_ne (tgt := 10) hx hb dX8_draw_5 (by decide) (fun _ => ?_) (fun c_5 => absurd c_5 (by decide +kernel))
    refine lv_iload_n hx hb dX8_draw_10 rfl (lv_at hl 1 rfl) ?_
    refine lv_istore_n (lv' := [(3, .int p1), (0, .ref mo), (1, .int p1), (2, .int 0)]) hx hb dX8_draw_11 rfl hl (by decide) rfl (fun ls hl => ?_)
    refine lv_iconst (v := 0) hx hb dX8_draw_12 (by decide +kernel) ?_
    refine lv_istore (lv' := [(4, .int 0), (3, .int p1), (0, .ref mo), (1, .int p1), (2, .int 0)]) hx hb dX8_draw_13 hl (by decide) rfl (fun ls hl => ?_)
    refine lv_iconst (v := 0) hx hb dX8_draw_15 (by decide +kernel) ?_
    refine lv_istore (lv' := [(5, .int 0), (4, .int 0), (3, .int p1), (0, .ref mo), (1, .int p1), (2, .int 0)]) hx hb dX8_draw_16 hl (by decide) rfl (fun ls hl => ?_)
    refine lv_iconst (v := 0) hx hb dX8_draw_18 (by decide +kernel) ?_
    refine lv_istore (lv' := [(6, .int 0), (5, .int 0), (4, .int 0), (3, .int p1), (0, .ref mo), (1, .int p1), (2, .int 0)]) hx hb dX8_draw_19 hl (by decide) rfl (fun ls hl => ?_)
    refine lv_iload hx hb dX8_draw_21 (lv_at hl 0 rfl) ?_
    refine lv_aload_n hx hb dX8_draw_23 rfl (lv_at hl 4 rfl) ?_
    refine va_get (D := (dC, dI)) (ci := 8) (v := .int 0) (C := RX8) (T := TX8) (N := 17) hx hb hts hiX8 hown hK hP 0 rfl rfl 0 (by decide) (hts (.fieldLink RX8 58 "MadeItSoModel" "many" "I") (by decide +kernel)) (fun _ h9 => h9) rfl dX8_draw_24 ?_
    refine lv_icmp_ge (tgt := 162) hx hb dX8_draw_27 (by decide) (fun _ => ?_) (fun c_27 => absurd (by decide +kernel) c_27)
    refine lv_iload hx hb dX8_draw_162 (lv_at hl 1 rfl) ?_
    refine W.widen (k := 0) (n := 0) (Nat.le_of_ble_eq_true rfl) (Nat.le_of_ble_eq_true rfl) ?_
    exact W.iret (v := 0) hx hb hr (fun t ht hW => ⟨⟨0, (), rfl, by simp [*], ht⟩, hS.F ht⟩) hS.2.2 dX8_draw_164
  · skip
    have hPc := hP.sub (ws' := [(mo, .inr (8, [.int 0, .ref m1, .ref m2, .ref m3, .long 0, .long 1, .ref m6, .ref m7, .ref m8, .ref m9, .ref m10, .ref m11, .ref m12, .ref m13, .ref m14, .ref m15, .ref m16]))]) [0] rfl
    refine va_calli (va_runV (As := [.int p2]) (rest := []) ⟨hx, hb, hml, hown, hts⟩ (mz_M_isSetting_n l dC dI cI cJ cZ mo m1 m2 m3 m6 m7 m8 m9 m10 m11 m12 m13 m14 m15 m16 0 1 p2 s.heap hz_2) (cwV 1 hts gX8_draw_X8_isSetting rfl rfl rfl (by decide +kernel) ⟨Nat.le_of_ble_eq_true rfl, Nat.le_of_ble_eq_true rfl⟩) ⟨fun a U g mk q => mz_blP q, va_recv hK hPc (ci := 8) (q0 := 0) rfl rfl, fun U hU hW => ⟨rfl, hU, hPc, va_K.moved hW.alike hK, mz_nw hW hN⟩⟩ rfl rfl hl.1 rfl (lv_room (Nat.le_of_ble_eq_true rfl)) dX8_draw_2 ⟨Nat.le_of_ble_eq_true rfl, Nat.le_of_ble_eq_true rfl⟩) hS (fun q _ h => h.elim) (fun q h => h.elim) (fun r u t H1 locs ht hvm hw hB hz1 hk1 hS => ?_)
    have hE : s.heap = H1 := hB.symm.trans ht
    subst hE
    obtain rfl : r = 0 := hw
    refine lv_if_ne (tgt := 10) hx hb dX8_draw_5 (by decide) (fun c_5 => absurd (by decide +kernel) c_5) (fun _ => ?_)
    refine lv_iconst (v := (-1)) hx hb dX8_draw_8 (by decide +kernel) ?_
    refine W.widen (k := 0) (n := 0) (Nat.le_of_ble_eq_true rfl) (Nat.le_of_ble_eq_true rfl) ?_
    exact W.iret (v := (-1)) hx hb hr (fun t ht hW => ⟨⟨(-1), (), rfl, by simp [*], ht⟩, hS.F ht⟩) hS.2.2 dX8_draw_9
set_option maxHeartbeats 1000000 in
set_option maxRecDepth 100000 in
theorem mz_M_count (l : Launch) (dC : Nat → ClassId) (dI : Nat → Nat → Nat) (cI cJ cZ : ClassId) (mo : Nat) (m1 : Nat) (m2 : Nat) (m3 : Nat) (m6 : Nat) (m7 : Nat) (m8 : Nat) (m9 : Nat) (m10 : Nat) (m11 : Nat) (m12 : Nat) (m13 : Nat) (m14 : Nat) (m15 : Nat) (m16 : Nat) (p1 : Int32) (Hq : Heap)  : Met l yX8_count wsX8_count ({ frames := 1, cells := 0, slots := 0, locals := 22 }) (va_Pc [.ref mo, .int p1] (fun U => U.heap = Hq ∧ va_P (dC, dI) vwCl [(mo, .inr (8, [.int 0, .ref m1, .ref m2, .ref m3, .long 0, .long 1, .ref m6, .ref m7, .ref m8, .ref m9, .ref m10, .ref m11, .ref m12, .ref m13, .ref m14, .ref m15, .ref m16]))] Hq ∧ va_K (dC, dI) vwCl [(cI, FieldType.int), (cJ, FieldType.long), (cZ, FieldType.boolean)] U ∧ mz_N U)) (va_Qi (fun (r : Int32) (_ : Unit) => r = (if p1 = 0 then 0 else if p1 = 1 then 0 else if p1 = 2 then 0 else (-1))) (fun _ t => t.heap = Hq) (fun _ : Nat => False)) 0 0 (fun _ : Nat => False) := by
  refine Met.ofW (cc := cX8_count) (maxL := 4) (ret := (some .int)) (by decide) rfl ?_
  intro p e s m args below meth c s₁ B hml hv
  obtain ⟨rfl, hH, hP, hK, hN⟩ := hv
  subst hH
  have hx := B.exec
  have hb := B.bytes
  have hr := B.returns
  have hts := atoms_spec (ws := wsX8_count) B.pre
  have hown : s.vm.findClass RX8 = some m.cls := findClass_of_methodNamed B.named
  have hlocks := B.notSynchronized
  have hS : va_S (fun _ : Nat => False) s.heap s.heap [] := va_S.rf
  have hiX8 : ∀ w ∈ u_ws RX8 TX8 17, w ∈ wsX8_count := by decide +kernel
  have hl := lv_entry ([.ref mo, .int p1]) (n := 4) (Nat.le_of_ble_eq_true rfl)
  rw [lg_entry_eq]
  generalize (lg_sl ([.ref mo, .int p1]) ++ List.replicate (4 - (lg_sl ([.ref mo, .int p1])).length) Slot.unset).toArray = ls at hl ⊢
  have hl : lv_has ls 4 [(0, .ref mo), (1, .int p1)] := hl
  refine lv_iconst (v := 0) hx hb dX8_count_0 (by decide +kernel) ?_
  refine lv_istore_n (lv' := [(2, .int 0), (0, .ref mo), (1, .int p1)]) hx hb dX8_count_1 rfl hl (by decide) rfl (fun ls hl => ?_)
  refine lv_iload_n hx hb dX8_count_2 rfl (lv_at hl 2 rfl) ?_
  by_cases hs_0 : p1 = 0
  · subst hs_0
    refine lv_tableIn (tgt := 28) (off := 25) hx hb dX8_count_3 (by decide +kernel) (by decide +kernel) (by decide +kernel) (by decide) ?_
    refine lv_aload_n hx hb dX8_count_28 rfl (lv_at hl 1 rfl) ?_
    refine va_get (D := (dC, dI)) (ci := 8) (v := .int 0) (C := RX8) (T := TX8) (N := 17) hx hb hts hiX8 hown hK hP 0 rfl rfl 0 (by decide) (hts (.fieldLink RX8 58 "MadeItSoModel" "many" "I") (by decide +kernel)) (fun _ h9 => h9) rfl dX8_count_29 ?_
    refine W.widen (k := 0) (n := 0) (Nat.le_of_ble_eq_true rfl) (Nat.le_of_ble_eq_true rfl) ?_
    exact W.iret (v := 0) hx hb hr (fun t ht hW => ⟨⟨0, (), rfl, by simp [*], ht⟩, hS.F ht⟩) hS.2.2 dX8_count_32
  by_cases hs_1 : p1 = 1
  · subst hs_1
    refine lv_tableIn (tgt := 33) (off := 30) hx hb dX8_count_3 (by decide +kernel) (by decide +kernel) (by decide +kernel) (by decide) ?_
    refine lv_iconst (v := 0) hx hb dX8_count_33 (by decide +kernel) ?_
    refine lv_istore_n (lv' := [(3, .int 0), (2, .int 0), (0, .ref mo), (1, .int 1)]) hx hb dX8_count_34 rfl hl (by decide) rfl (fun ls hl => ?_)
    refine lv_iload_n hx hb dX8_count_35 rfl (lv_at hl 0 rfl) ?_
    refine lv_aload_n hx hb dX8_count_36 rfl (lv_at hl 2 rfl) ?_
    refine va_get (D := (dC, dI)) (ci := 8) (v := .int 0) (C := RX8) (T := TX8) (N := 17) hx hb hts hiX8 hown hK hP 0 rfl rfl 0 (by decide) (hts (.fieldLink RX8 58 "MadeItSoModel" "many" "I") (by decide +kernel)) (fun _ h9 => h9) rfl dX8_count_37 ?_
    refine lv_icmp_ge (tgt := 61) hx hb dX8_count_40 (by decide) (fun _ => ?_) (fun c_40 => absurd (by decide +kernel) c_40)
    refine lv_iload_n hx hb dX8_count_61 rfl (lv_at hl 1 rfl) ?_
    refine W.widen (k := 0) (n := 0) (Nat.le_of_ble_eq_true rfl) (Nat.le_of_ble_eq_true rfl) ?_
    exact W.iret (v := 0) hx hb hr (fun t ht hW => ⟨⟨0, (), rfl, by simp [*], ht⟩, hS.F ht⟩) hS.2.2 dX8_count_62
  by_cases hs_2 : p1 = 2
  · subst hs_2
    refine lv_tableIn (tgt := 63) (off := 60) hx hb dX8_count_3 (by decide +kernel) (by decide +kernel) (by decide +kernel) (by decide) ?_
    refine lv_aload_n hx hb dX8_count_63 rfl (lv_at hl 1 rfl) ?_
    have hPc := hP.sub (ws' := [(mo, .inr (8, [.int 0, .ref m1, .ref m2, .ref m3, .long 0, .long 1, .ref m6, .ref m7, .ref m8, .ref m9, .ref m10, .ref m11, .ref m12, .ref m13, .ref m14, .ref m15, .ref m16]))]) [0] rfl
    refine va_calli (va_runV (As := []) (rest := []) ⟨hx, hb, hml, hown, hts⟩ (mz_M_seen l dC dI cI cJ cZ mo m1 m2 m3 m6 m7 m8 m9 m10 m11 m12 m13 m14 m15 m16 s.heap ) (cwV 0 hts gX8_count_X8_seen rfl rfl rfl (by decide +kernel) ⟨Nat.le_of_ble_eq_true rfl, Nat.le_of_ble_eq_true rfl⟩) ⟨fun a U g mk q => mz_blP q, va_recv hK hPc (ci := 8) (q0 := 0) rfl rfl, fun U hU hW => ⟨rfl, hU, hPc, va_K.moved hW.alike hK, mz_nw hW hN⟩⟩ rfl rfl hl.1 rfl (lv_room (Nat.le_of_ble_eq_true rfl)) dX8_count_64 ⟨Nat.le_of_ble_eq_true rfl, Nat.le_of_ble_eq_true rfl⟩) hS (fun q _ h => h.elim) (fun q h => h.elim) (fun r u t H1 locs ht hvm hw hB hz1 hk1 hS => ?_)
    have hE : s.heap = H1 := hB.symm.trans ht
    subst hE
    obtain rfl : r = 0 := hw
    refine W.widen (k := 0) (n := 0) (Nat.le_of_ble_eq_true rfl) (Nat.le_of_ble_eq_true rfl) ?_
    exact W.iret (v := 0) hx hb hr (fun t ht hW => ⟨⟨0, (), rfl, by simp [*], ht⟩, hS.F ht⟩) hS.2.2 dX8_count_67
  refine lv_tableOut (tgt := 68) hx hb dX8_count_3 (mz_sw hs_0 hs_1 hs_2) (by decide) ?_
  refine lv_iconst (v := (-1)) hx hb dX8_count_68 (by decide +kernel) ?_
  refine W.widen (k := 0) (n := 0) (Nat.le_of_ble_eq_true rfl) (Nat.le_of_ble_eq_true rfl) ?_
  exact W.iret (v := (-1)) hx hb hr (fun t ht hW => ⟨⟨(-1), (), rfl, by simp [*], ht⟩, hS.F ht⟩) hS.2.2 dX8_count_69
set_option maxHeartbeats 1000000 in
set_option maxRecDepth 100000 in
theorem mz_M_bars (l : Launch) (dC : Nat → ClassId) (dI : Nat → Nat → Nat) (cI cJ cZ : ClassId) (mo : Nat) (m1 : Nat) (m2 : Nat) (m3 : Nat) (m6 : Nat) (m7 : Nat) (m8 : Nat) (m9 : Nat) (m10 : Nat) (m11 : Nat) (m12 : Nat) (m13 : Nat) (m14 : Nat) (m15 : Nat) (m16 : Nat) (p1 : Int32) (p2 : Int32) (p3 : Int32) (Hq : Heap)  : Met l yX8_bars wsX8_bars ({ frames := 1, cells := 0, slots := 0, locals := 27 }) (va_Pc [.ref mo, .int p1, .int p2, .int p3] (fun U => U.heap = Hq ∧ va_P (dC, dI) vwCl [(mo, .inr (8, [.int 0, .ref m1, .ref m2, .ref m3, .long 0, .long 1, .ref m6, .ref m7, .ref m8, .ref m9, .ref m10, .ref m11, .ref m12, .ref m13, .ref m14, .ref m15, .ref m16]))] Hq ∧ va_K (dC, dI) vwCl [(cI, FieldType.int), (cJ, FieldType.long), (cZ, FieldType.boolean)] U ∧ mz_N U)) (va_Qi (fun (r : Int32) (_ : Unit) => r = (if p1 = 0 ∧ p2 = 0 ∧ p3 = 0 then 1 else 0)) (fun _ t => t.heap = Hq) (fun _ : Nat => False)) 0 0 (fun _ : Nat => False) := by
  refine Met.ofW (cc := cX8_bars) (maxL := 4) (ret := (some .boolean)) (by decide) rfl ?_
  intro p e s m args below meth c s₁ B hml hv
  obtain ⟨rfl, hH, hP, hK, hN⟩ := hv
  subst hH
  have hx := B.exec
  have hb := B.bytes
  have hr := B.returns
  have hts := atoms_spec (ws := wsX8_bars) B.pre
  have hown : s.vm.findClass RX8 = some m.cls := findClass_of_methodNamed B.named
  have hlocks := B.notSynchronized
  have hS : va_S (fun _ : Nat => False) s.heap s.heap [] := va_S.rf
  have hl := lv_entry ([.ref mo, .int p1, .int p2, .int p3]) (n := 4) (Nat.le_of_ble_eq_true rfl)
  rw [lg_entry_eq]
  generalize (lg_sl ([.ref mo, .int p1, .int p2, .int p3]) ++ List.replicate (4 - (lg_sl ([.ref mo, .int p1, .int p2, .int p3])).length) Slot.unset).toArray = ls at hl ⊢
  have hl : lv_has ls 4 [(0, .ref mo), (1, .int p1), (2, .int p2), (3, .int p3)] := hl
  refine lv_aload_n hx hb dX8_bars_0 rfl (lv_at hl 0 rfl) ?_
  refine lv_iload_n hx hb dX8_bars_1 rfl (lv_at hl 1 rfl) ?_
  by_cases hz_2 : p1 = 0
  · subst hz_2
    have hPc := hP.sub (ws' := [(mo, .inr (8, [.int 0, .ref m1, .ref m2, .ref m3, .long 0, .long 1, .ref m6, .ref m7, .ref m8, .ref m9, .ref m10, .ref m11, .ref m12, .ref m13, .ref m14, .ref m15, .ref m16]))]) [0] rfl
    refine va_calli (va_runV (As := [.int 0]) (rest := []) ⟨hx, hb, hml, hown, hts⟩ (mz_M_isHeap_0 l dC dI cI cJ cZ mo m1 m2 m3 m6 m7 m8 m9 m10 m11 m12 m13 m14 m15 m16 0 1 s.heap ) (cwV 1 hts gX8_bars_X8_isHeap rfl rfl rfl (by decide +kernel) ⟨Nat.le_of_ble_eq_true rfl, Nat.le_of_ble_eq_true rfl⟩) ⟨fun a U g mk q => mz_blP q, va_recv hK hPc (ci := 8) (q0 := 0) rfl rfl, fun U hU hW => ⟨rfl, hU, hPc, va_K.moved hW.alike hK, mz_nw hW hN⟩⟩ rfl rfl hl.1 rfl (lv_room (Nat.le_of_ble_eq_true rfl)) dX8_bars_2 ⟨Nat.le_of_ble_eq_true rfl, Nat.le_of_ble_eq_true rfl⟩) hS (fun q _ h => h.elim) (fun q h => h.elim) (fun r u t H1 locs ht hvm hw hB hz1 hk1 hS => ?_)
    have hE : s.heap = H1 := hB.symm.trans ht
    subst hE
    obtain rfl : r = 1 := hw
    refine lv_if_eq (tgt := 42) hx hb dX8_bars_5 (by decide) (fun c_5 => absurd c_5 (by decide +kernel)) (fun _ => ?_)
    refine lv_aload_n hx hb dX8_bars_8 rfl (lv_at hl 0 rfl) ?_
    refine lv_iload_n hx hb dX8_bars_9 rfl (lv_at hl 2 rfl) ?_
    by_cases hz_10 : p2 = 0
    · subst hz_10
      have hPc := hP.sub (ws' := [(mo, .inr (8, [.int 0, .ref m1, .ref m2, .ref m3, .long 0, .long 1, .ref m6, .ref m7, .ref m8, .ref m9, .ref m10, .ref m11, .ref m12, .ref m13, .ref m14, .ref m15, .ref m16]))]) [0] rfl
      refine va_calli (va_runV (As := [.int 0]) (rest := []) ⟨hx, hb, hml, hown, hts⟩ (mz_M_isHeap_0 l dC dI cI cJ cZ mo m1 m2 m3 m6 m7 m8 m9 m10 m11 m12 m13 m14 m15 m16 0 1 s.heap ) (cwV 1 hts gX8_bars_X8_isHeap rfl rfl rfl (by decide +kernel) ⟨Nat.le_of_ble_eq_true rfl, Nat.le_of_ble_eq_true rfl⟩) ⟨fun a U g mk q => mz_blP q, va_recv hK hPc (ci := 8) (q0 := 0) rfl rfl, fun U hU hW => ⟨rfl, hU, hPc, va_K.moved hW.alike hK, mz_nw hW hN⟩⟩ rfl rfl hl.1 rfl (lv_room (Nat.le_of_ble_eq_true rfl)) dX8_bars_10 ⟨Nat.le_of_ble_eq_true rfl, Nat.le_of_ble_eq_true rfl⟩) hS (fun q _ h => h.elim) (fun q h => h.elim) (fun r u t H1 locs ht hvm hw hB hz1 hk1 hS => ?_)
      have hE : s.heap = H1 := hB.symm.trans ht
      subst hE
      obtain rfl : r = 1 := hw
      refine lv_if_eq (tgt := 42) hx hb dX8_bars_13 (by decide) (fun c_13 => absurd c_13 (by decide +kernel)) (fun _ => ?_)
      refine lv_aload_n hx hb dX8_bars_16 rfl (lv_at hl 0 rfl) ?_
      refine lv_iload_n hx hb dX8_bars_17 rfl (lv_at hl 3 rfl) ?_
      by_cases hz_18 : p3 = 0
      · subst hz_18
        have hPc := hP.sub (ws' := [(mo, .inr (8, [.int 0, .ref m1, .ref m2, .ref m3, .long 0, .long 1, .ref m6, .ref m7, .ref m8, .ref m9, .ref m10, .ref m11, .ref m12, .ref m13, .ref m14, .ref m15, .ref m16]))]) [0] rfl
        refine va_calli (va_runV (As := [.int 0]) (rest := []) ⟨hx, hb, hml, hown, hts⟩ (mz_M_isHeap_0 l dC dI cI cJ cZ mo m1 m2 m3 m6 m7 m8 m9 m10 m11 m12 m13 m14 m15 m16 0 1 s.heap ) (cwV 1 hts gX8_bars_X8_isHeap rfl rfl rfl (by decide +kernel) ⟨Nat.le_of_ble_eq_true rfl, Nat.le_of_ble_eq_true rfl⟩) ⟨fun a U g mk q => mz_blP q, va_recv hK hPc (ci := 8) (q0 := 0) rfl rfl, fun U hU hW => ⟨rfl, hU, hPc, va_K.moved hW.alike hK, mz_nw hW hN⟩⟩ rfl rfl hl.1 rfl (lv_room (Nat.le_of_ble_eq_true rfl)) dX8_bars_18 ⟨Nat.le_of_ble_eq_true rfl, Nat.le_of_ble_eq_true rfl⟩) hS (fun q _ h => h.elim) (fun q h => h.elim) (fun r u t H1 locs ht hvm hw hB hz1 hk1 hS => ?_)
        have hE : s.heap = H1 := hB.symm.trans ht
        subst hE
        obtain rfl : r = 1 := hw
        refine lv_if_eq (tgt := 42) hx hb dX8_bars_21 (by decide) (fun c_21 => absurd c_21 (by decide +kernel)) (fun _ => ?_)
        refine lv_iload_n hx hb dX8_bars_24 rfl (lv_at hl 1 rfl) ?_
        refine lv_iload_n hx hb dX8_bars_25 rfl (lv_at hl 2 rfl) ?_
        refine lv_iand hx hb dX8_bars_26 ?_
        refine mz_ti (y := 0) (by decide +kernel) ?_
        refine lv_if_ne (tgt := 42) hx hb dX8_bars_27 (by decide) (fun c_27 => absurd (by decide +kernel) c_27) (fun _ => ?_)
        refine lv_iload_n hx hb dX8_bars_30 rfl (lv_at hl 1 rfl) ?_
        refine lv_iload_n hx hb dX8_bars_31 rfl (lv_at hl 3 rfl) ?_
        refine lv_iand hx hb dX8_bars_32 ?_
        refine mz_ti (y := 0) (by decide +kernel) ?_
        refine lv_if_ne (tgt := 42) hx hb dX8_bars_33 (by decide) (fun c_33 => absurd (by decide +kernel) c_33) (fun _ => ?_)
        refine lv_iload_n hx hb dX8_bars_36 rfl (lv_at hl 2 rfl) ?_
        refine lv_iload_n hx hb dX8_bars_37 rfl (lv_at hl 3 rfl) ?_
        refine lv_iand hx hb dX8_bars_38 ?_
        refine mz_ti (y := 0) (by decide +kernel) ?_
        refine lv_if_eq (tgt := 44) hx hb dX8_bars_39 (by decide) (fun _ => ?_) (fun c_39 => absurd (by decide +kernel) c_39)
        refine lv_aload_n hx hb dX8_bars_44 rfl (lv_at hl 0 rfl) ?_
        refine lv_iload_n hx hb dX8_bars_45 rfl (lv_at hl 1 rfl) ?_
        refine lv_iload_n hx hb dX8_bars_46 rfl (lv_at hl 2 rfl) ?_
        refine lv_iload_n hx hb dX8_bars_47 rfl (lv_at hl 3 rfl) ?_
        refine lv_iconst (v := 0) hx hb dX8_bars_48 (by decide +kernel) ?_
        refine lv_iconst (v := 0) hx hb dX8_bars_49 (by decide +kernel) ?_
        have hPc := hP.sub (ws' := [(mo, .inr (8, [.int 0, .ref m1, .ref m2, .ref m3, .long 0, .long 1, .ref m6, .ref m7, .ref m8, .ref m9, .ref m10, .ref m11, .ref m12, .ref m13, .ref m14, .ref m15, .ref m16]))]) [0] rfl
        refine va_calli (va_runV (As := [.int 0, .int 0, .int 0, .int 0, .int 0]) (rest := []) ⟨hx, hb, hml, hown, hts⟩ (mz_M_barred0 l dC dI cI cJ cZ mo m1 m2 m3 m6 m7 m8 m9 m10 m11 m12 m13 m14 m15 m16 s.heap ) (cwV 5 hts gX8_bars_X8_barred rfl rfl rfl (by decide +kernel) ⟨Nat.le_of_ble_eq_true rfl, Nat.le_of_ble_eq_true rfl⟩) ⟨fun a U g mk q => mz_blP q, va_recv hK hPc (ci := 8) (q0 := 0) rfl rfl, fun U hU hW => ⟨rfl, hU, hPc, va_K.moved hW.alike hK, mz_nw hW hN⟩⟩ rfl rfl hl.1 rfl (lv_room (Nat.le_of_ble_eq_true rfl)) dX8_bars_50 ⟨Nat.le_of_ble_eq_true rfl, Nat.le_of_ble_eq_true rfl⟩) hS (fun q _ h => h.elim) (fun q h => h.elim) (fun r u t H1 locs ht hvm hw hB hz1 hk1 hS => ?_)
        have hE : s.heap = H1 := hB.symm.trans ht
        subst hE
        obtain rfl : r = 1 := hw
        refine W.widen (k := 0) (n := 0) (Nat.le_of_ble_eq_true rfl) (Nat.le_of_ble_eq_true rfl) ?_
        exact W.zret (v := 1) hx hb hr (mz_nz (by decide +kernel)) (fun t ht hW => ⟨⟨1, (), rfl, by simp [*], ht⟩, hS.F ht⟩) hS.2.2 dX8_bars_53
      · skip
        have hPc := hP.sub (ws' := [(mo, .inr (8, [.int 0, .ref m1, .ref m2, .ref m3, .long 0, .long 1, .ref m6, .ref m7, .ref m8, .ref m9, .ref m10, .ref m11, .ref m12, .ref m13, .ref m14, .ref m15, .ref m16]))]) [0] rfl
        refine va_calli (va_runV (As := [.int p3]) (rest := []) ⟨hx, hb, hml, hown, hts⟩ (mz_M_isHeap_n l dC dI cI cJ cZ mo m1 m2 m3 m6 m7 m8 m9 m10 m11 m12 m13 m14 m15 m16 0 1 p3 s.heap hz_18) (cwV 1 hts gX8_bars_X8_isHeap rfl rfl rfl (by decide +kernel) ⟨Nat.le_of_ble_eq_true rfl, Nat.le_of_ble_eq_true rfl⟩) ⟨fun a U g mk q => mz_blP q, va_recv hK hPc (ci := 8) (q0 := 0) rfl rfl, fun U hU hW => ⟨rfl, hU, hPc, va_K.moved hW.alike hK, mz_nw hW hN⟩⟩ rfl rfl hl.1 rfl (lv_room (Nat.le_of_ble_eq_true rfl)) dX8_bars_18 ⟨Nat.le_of_ble_eq_true rfl, Nat.le_of_ble_eq_true rfl⟩) hS (fun q _ h => h.elim) (fun q h => h.elim) (fun r u t H1 locs ht hvm hw hB hz1 hk1 hS => ?_)
        have hE : s.heap = H1 := hB.symm.trans ht
        subst hE
        obtain rfl : r = 0 := hw
        refine lv_if_eq (tgt := 42) hx hb dX8_bars_21 (by decide) (fun _ => ?_) (fun c_21 => absurd (by decide +kernel) c_21)
        refine lv_iconst (v := 0) hx hb dX8_bars_42 (by decide +kernel) ?_
        refine W.widen (k := 0) (n := 0) (Nat.le_of_ble_eq_true rfl) (Nat.le_of_ble_eq_true rfl) ?_
        exact W.zret (v := 0) hx hb hr (mz_nz (by decide +kernel)) (fun t ht hW => ⟨⟨0, (), rfl, by simp [*], ht⟩, hS.F ht⟩) hS.2.2 dX8_bars_43
    · skip
      have hPc := hP.sub (ws' := [(mo, .inr (8, [.int 0, .ref m1, .ref m2, .ref m3, .long 0, .long 1, .ref m6, .ref m7, .ref m8, .ref m9, .ref m10, .ref m11, .ref m12, .ref m13, .ref m14, .ref m15, .ref m16]))]) [0] rfl
      refine va_calli (va_runV (As := [.int p2]) (rest := []) ⟨hx, hb, hml, hown, hts⟩ (mz_M_isHeap_n l dC dI cI cJ cZ mo m1 m2 m3 m6 m7 m8 m9 m10 m11 m12 m13 m14 m15 m16 0 1 p2 s.heap hz_10) (cwV 1 hts gX8_bars_X8_isHeap rfl rfl rfl (by decide +kernel) ⟨Nat.le_of_ble_eq_true rfl, Nat.le_of_ble_eq_true rfl⟩) ⟨fun a U g mk q => mz_blP q, va_recv hK hPc (ci := 8) (q0 := 0) rfl rfl, fun U hU hW => ⟨rfl, hU, hPc, va_K.moved hW.alike hK, mz_nw hW hN⟩⟩ rfl rfl hl.1 rfl (lv_room (Nat.le_of_ble_eq_true rfl)) dX8_bars_10 ⟨Nat.le_of_ble_eq_true rfl, Nat.le_of_ble_eq_true rfl⟩) hS (fun q _ h => h.elim) (fun q h => h.elim) (fun r u t H1 locs ht hvm hw hB hz1 hk1 hS => ?_)
      have hE : s.heap = H1 := hB.symm.trans ht
      subst hE
      obtain rfl : r = 0 := hw
      refine lv_if_eq (tgt := 42) hx hb dX8_bars_13 (by decide) (fun _ => ?_) (fun c_13 => absurd (by decide +kernel) c_13)
      refine lv_iconst (v := 0) hx hb dX8_bars_42 (by decide +kernel) ?_
      refine W.widen (k := 0) (n := 0) (Nat.le_of_ble_eq_true rfl) (Nat.le_of_ble_eq_true rfl) ?_
      exact W.zret (v := 0) hx hb hr (mz_nz (by decide +kernel)) (fun t ht hW => ⟨⟨0, (), rfl, by simp [*], ht⟩, hS.F ht⟩) hS.2.2 dX8_bars_43
  · skip
    have hPc := hP.sub (ws' := [(mo, .inr (8, [.int 0, .ref m1, .ref m2, .ref m3, .long 0, .long 1, .ref m6, .ref m7, .ref m8, .ref m9, .ref m10, .ref m11, .ref m12, .ref m13, .ref m14, .ref m15, .ref m16]))]) [0] rfl
    refine va_calli (va_runV (As := [.int p1]) (rest := []) ⟨hx, hb, hml, hown, hts⟩ (mz_M_isHeap_n l dC dI cI cJ cZ mo m1 m2 m3 m6 m7 m8 m9 m10 m11 m12 m13 m14 m15 m16 0 1 p1 s.heap hz_2) (cwV 1 hts gX8_bars_X8_isHeap rfl rfl rfl (by decide +kernel) ⟨Nat.le_of_ble_eq_true rfl, Nat.le_of_ble_eq_true rfl⟩) ⟨fun a U g mk q => mz_blP q, va_recv hK hPc (ci := 8) (q0 := 0) rfl rfl, fun U hU hW => ⟨rfl, hU, hPc, va_K.moved hW.alike hK, mz_nw hW hN⟩⟩ rfl rfl hl.1 rfl (lv_room (Nat.le_of_ble_eq_true rfl)) dX8_bars_2 ⟨Nat.le_of_ble_eq_true rfl, Nat.le_of_ble_eq_true rfl⟩) hS (fun q _ h => h.elim) (fun q h => h.elim) (fun r u t H1 locs ht hvm hw hB hz1 hk1 hS => ?_)
    have hE : s.heap = H1 := hB.symm.trans ht
    subst hE
    obtain rfl : r = 0 := hw
    refine lv_if_eq (tgt := 42) hx hb dX8_bars_5 (by decide) (fun _ => ?_) (fun c_5 => absurd (by decide +kernel) c_5)
    refine lv_iconst (v := 0) hx hb dX8_bars_42 (by decide +kernel) ?_
    refine W.widen (k := 0) (n := 0) (Nat.le_of_ble_eq_true rfl) (Nat.le_of_ble_eq_true rfl) ?_
    exact W.zret (v := 0) hx hb hr (mz_nz (by decide +kernel)) (fun t ht hW => ⟨⟨0, (), rfl, by simp [*], ht⟩, hS.F ht⟩) hS.2.2 dX8_bars_43
set_option maxHeartbeats 1000000 in
set_option maxRecDepth 100000 in
theorem mz_M_weight (l : Launch) (dC : Nat → ClassId) (dI : Nat → Nat → Nat) (cI cJ cZ : ClassId) (mo : Nat) (m1 : Nat) (m2 : Nat) (m3 : Nat) (m6 : Nat) (m7 : Nat) (m8 : Nat) (m9 : Nat) (m10 : Nat) (m11 : Nat) (m12 : Nat) (m13 : Nat) (m14 : Nat) (m15 : Nat) (m16 : Nat) (p1 : Int32) (p2 : Int32) (Hq : Heap)  : Met l yX8_weight wsX8_weight ({ frames := 2, cells := 0, slots := 0, locals := 51 }) (va_Pc [.ref mo, .int p1, .int p2] (fun U => U.heap = Hq ∧ va_P (dC, dI) vwCl [(mo, .inr (8, [.int 0, .ref m1, .ref m2, .ref m3, .long 0, .long 1, .ref m6, .ref m7, .ref m8, .ref m9, .ref m10, .ref m11, .ref m12, .ref m13, .ref m14, .ref m15, .ref m16]))] Hq ∧ va_K (dC, dI) vwCl [(cI, FieldType.int), (cJ, FieldType.long), (cZ, FieldType.boolean)] U ∧ mz_N U)) (va_Ql (fun (r : Int64) (_ : Unit) => r = (if p1 = 0 ∧ p2 = 0 then 1 else (-1))) (fun _ t => t.heap = Hq) (fun _ : Nat => False)) 0 0 (fun _ : Nat => False) := by
  refine Met.ofW (cc := cX8_weight) (maxL := 3) (ret := (some .long)) (by decide) rfl ?_
  intro p e s m args below meth c s₁ B hml hv
  obtain ⟨rfl, hH, hP, hK, hN⟩ := hv
  subst hH
  have hx := B.exec
  have hb := B.bytes
  have hr := B.returns
  have hts := atoms_spec (ws := wsX8_weight) B.pre
  have hown : s.vm.findClass RX8 = some m.cls := findClass_of_methodNamed B.named
  have hlocks := B.notSynchronized
  have hS : va_S (fun _ : Nat => False) s.heap s.heap [] := va_S.rf
  have hl := lv_entry ([.ref mo, .int p1, .int p2]) (n := 3) (Nat.le_of_ble_eq_true rfl)
  rw [lg_entry_eq]
  generalize (lg_sl ([.ref mo, .int p1, .int p2]) ++ List.replicate (3 - (lg_sl ([.ref mo, .int p1, .int p2])).length) Slot.unset).toArray = ls at hl ⊢
  have hl : lv_has ls 3 [(0, .ref mo), (1, .int p1), (2, .int p2)] := hl
  refine lv_aload_n hx hb dX8_weight_0 rfl (lv_at hl 0 rfl) ?_
  refine lv_iload_n hx hb dX8_weight_1 rfl (lv_at hl 1 rfl) ?_
  by_cases hz_2 : p1 = 0
  · subst hz_2
    have hPc := hP.sub (ws' := [(mo, .inr (8, [.int 0, .ref m1, .ref m2, .ref m3, .long 0, .long 1, .ref m6, .ref m7, .ref m8, .ref m9, .ref m10, .ref m11, .ref m12, .ref m13, .ref m14, .ref m15, .ref m16]))]) [0] rfl
    refine va_calli (va_runV (As := [.int 0]) (rest := []) ⟨hx, hb, hml, hown, hts⟩ (mz_M_isSetting_0 l dC dI cI cJ cZ mo m1 m2 m3 m6 m7 m8 m9 m10 m11 m12 m13 m14 m15 m16 0 1 s.heap ) (cwV 1 hts gX8_weight_X8_isSetting rfl rfl rfl (by decide +kernel) ⟨Nat.le_of_ble_eq_true rfl, Nat.le_of_ble_eq_true rfl⟩) ⟨fun a U g mk q => mz_blP q, va_recv hK hPc (ci := 8) (q0 := 0) rfl rfl, fun U hU hW => ⟨rfl, hU, hPc, va_K.moved hW.alike hK, mz_nw hW hN⟩⟩ rfl rfl hl.1 rfl (lv_room (Nat.le_of_ble_eq_true rfl)) dX8_weight_2 ⟨Nat.le_of_ble_eq_true rfl, Nat.le_of_ble_eq_true rfl⟩) hS (fun q _ h => h.elim) (fun q h => h.elim) (fun r u t H1 locs ht hvm hw hB hz1 hk1 hS => ?_)
    have hE : s.heap = H1 := hB.symm.trans ht
    subst hE
    obtain rfl : r = 1 := hw
    refine lv_if_eq (tgt := 25) hx hb dX8_weight_5 (by decide) (fun c_5 => absurd c_5 (by decide +kernel)) (fun _ => ?_)
    refine lv_aload_n hx hb dX8_weight_8 rfl (lv_at hl 0 rfl) ?_
    refine lv_iload_n hx hb dX8_weight_9 rfl (lv_at hl 2 rfl) ?_
    by_cases hz_10 : p2 = 0
    · subst hz_10
      have hPc := hP.sub (ws' := [(mo, .inr (8, [.int 0, .ref m1, .ref m2, .ref m3, .long 0, .long 1, .ref m6, .ref m7, .ref m8, .ref m9, .ref m10, .ref m11, .ref m12, .ref m13, .ref m14, .ref m15, .ref m16]))]) [0] rfl
      refine va_calli (va_runV (As := [.int 0]) (rest := []) ⟨hx, hb, hml, hown, hts⟩ (mz_M_isSetting_0 l dC dI cI cJ cZ mo m1 m2 m3 m6 m7 m8 m9 m10 m11 m12 m13 m14 m15 m16 0 1 s.heap ) (cwV 1 hts gX8_weight_X8_isSetting rfl rfl rfl (by decide +kernel) ⟨Nat.le_of_ble_eq_true rfl, Nat.le_of_ble_eq_true rfl⟩) ⟨fun a U g mk q => mz_blP q, va_recv hK hPc (ci := 8) (q0 := 0) rfl rfl, fun U hU hW => ⟨rfl, hU, hPc, va_K.moved hW.alike hK, mz_nw hW hN⟩⟩ rfl rfl hl.1 rfl (lv_room (Nat.le_of_ble_eq_true rfl)) dX8_weight_10 ⟨Nat.le_of_ble_eq_true rfl, Nat.le_of_ble_eq_true rfl⟩) hS (fun q _ h => h.elim) (fun q h => h.elim) (fun r u t H1 locs ht hvm hw hB hz1 hk1 hS => ?_)
      have hE : s.heap = H1 := hB.symm.trans ht
      subst hE
      obtain rfl : r = 1 := hw
      refine lv_if_eq (tgt := 25) hx hb dX8_weight_13 (by decide) (fun c_13 => absurd c_13 (by decide +kernel)) (fun _ => ?_)
      refine lv_aload_n hx hb dX8_weight_16 rfl (lv_at hl 0 rfl) ?_
      refine lv_iload_n hx hb dX8_weight_17 rfl (lv_at hl 1 rfl) ?_
      refine lv_iload_n hx hb dX8_weight_18 rfl (lv_at hl 2 rfl) ?_
      have hPc := hP.sub (ws' := [(mo, .inr (8, [.int 0, .ref m1, .ref m2, .ref m3, .long 0, .long 1, .ref m6, .ref m7, .ref m8, .ref m9, .ref m10, .ref m11, .ref m12, .ref m13, .ref m14, .ref m15, .ref m16]))]) [0] rfl
      refine va_calll (va_runV (As := [.int 0, .int 0]) (rest := []) ⟨hx, hb, hml, hown, hts⟩ (mz_M_sum0 l dC dI cI cJ cZ mo m1 m2 m3 m6 m7 m8 m9 m10 m11 m12 m13 m14 m15 m16 0 1 s.heap ) (cwV 2 hts gX8_weight_X8_sum rfl rfl rfl (by decide +kernel) ⟨Nat.le_of_ble_eq_true rfl, Nat.le_of_ble_eq_true rfl⟩) ⟨fun a U g mk q => mz_blP q, va_recv hK hPc (ci := 8) (q0 := 0) rfl rfl, fun U hU hW => ⟨rfl, hU, hPc, va_K.moved hW.alike hK, mz_nw hW hN⟩⟩ rfl rfl hl.1 rfl (lv_room (Nat.le_of_ble_eq_true rfl)) dX8_weight_19 ⟨Nat.le_of_ble_eq_true rfl, Nat.le_of_ble_eq_true rfl⟩) hS (fun q _ h => h.elim) (fun q h => h.elim) (fun r u t H1 locs ht hvm hw hB hz1 hk1 hS => ?_)
      have hE : s.heap = H1 := hB.symm.trans ht
      subst hE
      obtain rfl : r = 1 := hw
      refine lv_goto (tgt := 28) hx hb dX8_weight_22 (by decide) ?_
      refine W.widen (k := 0) (n := 0) (Nat.le_of_ble_eq_true rfl) (Nat.le_of_ble_eq_true rfl) ?_
      exact W.lret (v := 1) hx hb hr (fun t ht hW => ⟨⟨1, (), rfl, by simp [*], ht⟩, hS.F ht⟩) hS.2.2 dX8_weight_28
    · skip
      have hPc := hP.sub (ws' := [(mo, .inr (8, [.int 0, .ref m1, .ref m2, .ref m3, .long 0, .long 1, .ref m6, .ref m7, .ref m8, .ref m9, .ref m10, .ref m11, .ref m12, .ref m13, .ref m14, .ref m15, .ref m16]))]) [0] rfl
      refine va_calli (va_runV (As := [.int p2]) (rest := []) ⟨hx, hb, hml, hown, hts⟩ (mz_M_isSetting_n l dC dI cI cJ cZ mo m1 m2 m3 m6 m7 m8 m9 m10 m11 m12 m13 m14 m15 m16 0 1 p2 s.heap hz_10) (cwV 1 hts gX8_weight_X8_isSetting rfl rfl rfl (by decide +kernel) ⟨Nat.le_of_ble_eq_true rfl, Nat.le_of_ble_eq_true rfl⟩) ⟨fun a U g mk q => mz_blP q, va_recv hK hPc (ci := 8) (q0 := 0) rfl rfl, fun U hU hW => ⟨rfl, hU, hPc, va_K.moved hW.alike hK, mz_nw hW hN⟩⟩ rfl rfl hl.1 rfl (lv_room (Nat.le_of_ble_eq_true rfl)) dX8_weight_10 ⟨Nat.le_of_ble_eq_true rfl, Nat.le_of_ble_eq_true rfl⟩) hS (fun q _ h => h.elim) (fun q h => h.elim) (fun r u t H1 locs ht hvm hw hB hz1 hk1 hS => ?_)
      have hE : s.heap = H1 := hB.symm.trans ht
      subst hE
      obtain rfl : r = 0 := hw
      refine lv_if_eq (tgt := 25) hx hb dX8_weight_13 (by decide) (fun _ => ?_) (fun c_13 => absurd (by decide +kernel) c_13)
      refine lv_ldc2 hx hb hown (hts (.constantLong RX8 108 (-1)) (by decide +kernel)) dX8_weight_25 ?_
      refine W.widen (k := 0) (n := 0) (Nat.le_of_ble_eq_true rfl) (Nat.le_of_ble_eq_true rfl) ?_
      exact W.lret (v := (-1)) hx hb hr (fun t ht hW => ⟨⟨(-1), (), rfl, by simp [*], ht⟩, hS.F ht⟩) hS.2.2 dX8_weight_28
  · skip
    have hPc := hP.sub (ws' := [(mo, .inr (8, [.int 0, .ref m1, .ref m2, .ref m3, .long 0, .long 1, .ref m6, .ref m7, .ref m8, .ref m9, .ref m10, .ref m11, .ref m12, .ref m13, .ref m14, .ref m15, .ref m16]))]) [0] rfl
    refine va_calli (va_runV (As := [.int p1]) (rest := []) ⟨hx, hb, hml, hown, hts⟩ (mz_M_isSetting_n l dC dI cI cJ cZ mo m1 m2 m3 m6 m7 m8 m9 m10 m11 m12 m13 m14 m15 m16 0 1 p1 s.heap hz_2) (cwV 1 hts gX8_weight_X8_isSetting rfl rfl rfl (by decide +kernel) ⟨Nat.le_of_ble_eq_true rfl, Nat.le_of_ble_eq_true rfl⟩) ⟨fun a U g mk q => mz_blP q, va_recv hK hPc (ci := 8) (q0 := 0) rfl rfl, fun U hU hW => ⟨rfl, hU, hPc, va_K.moved hW.alike hK, mz_nw hW hN⟩⟩ rfl rfl hl.1 rfl (lv_room (Nat.le_of_ble_eq_true rfl)) dX8_weight_2 ⟨Nat.le_of_ble_eq_true rfl, Nat.le_of_ble_eq_true rfl⟩) hS (fun q _ h => h.elim) (fun q h => h.elim) (fun r u t H1 locs ht hvm hw hB hz1 hk1 hS => ?_)
    have hE : s.heap = H1 := hB.symm.trans ht
    subst hE
    obtain rfl : r = 0 := hw
    refine lv_if_eq (tgt := 25) hx hb dX8_weight_5 (by decide) (fun _ => ?_) (fun c_5 => absurd (by decide +kernel) c_5)
    refine lv_ldc2 hx hb hown (hts (.constantLong RX8 108 (-1)) (by decide +kernel)) dX8_weight_25 ?_
    refine W.widen (k := 0) (n := 0) (Nat.le_of_ble_eq_true rfl) (Nat.le_of_ble_eq_true rfl) ?_
    exact W.lret (v := (-1)) hx hb hr (fun t ht hW => ⟨⟨(-1), (), rfl, by simp [*], ht⟩, hS.F ht⟩) hS.2.2 dX8_weight_28
set_option maxHeartbeats 1000000 in
set_option maxRecDepth 100000 in
theorem mz_M_fresh0 (l : Launch) (dC : Nat → ClassId) (dI : Nat → Nat → Nat) (cI cJ cZ : ClassId) (mo : Nat) (m1 : Nat) (m2 : Nat) (m3 : Nat) (m6 : Nat) (m7 : Nat) (m8 : Nat) (m9 : Nat) (m10 : Nat) (m11 : Nat) (m12 : Nat) (m13 : Nat) (m14 : Nat) (m15 : Nat) (m16 : Nat) (fb : Nat → Int32) (sz : Nat)  : Met l yX8_fresh wsX8_fresh ({ frames := 0, cells := 0, slots := 0, locals := 0 }) (va_Pc [.ref mo, .int 0] (fun U => U.heap.size = sz ∧ va_P (dC, dI) vwCl [(mo, .inr (8, [.int 0, .ref m1, .ref m2, .ref m3, .long 0, .long 1, .ref m6, .ref m7, .ref m8, .ref m9, .ref m10, .ref m11, .ref m12, .ref m13, .ref m14, .ref m15, .ref m16])), (m3, .inl (cI, 1024, .inl fb))] U.heap ∧ va_K (dC, dI) vwCl [(cI, FieldType.int), (cJ, FieldType.long), (cZ, FieldType.boolean)] U ∧ va_D (fun _ => True) [(mo, .inr (8, [.int 0, .ref m1, .ref m2, .ref m3, .long 0, .long 1, .ref m6, .ref m7, .ref m8, .ref m9, .ref m10, .ref m11, .ref m12, .ref m13, .ref m14, .ref m15, .ref m16])), (m3, .inl (cI, 1024, .inl fb))] ∧ mz_N U)) (va_Qv (fun (_ : Unit) => True) (fun _ t => ∃ (fx : Nat → Int32), va_P (dC, dI) vwCl [(mo, .inr (8, [.int 0, .ref m1, .ref m2, .ref m3, .long 0, .long 1, .ref m6, .ref m7, .ref m8, .ref m9, .ref m10, .ref m11, .ref m12, .ref m13, .ref m14, .ref m15, .ref m16])), (m3, .inl (cI, 1024, .inl fx))] t.heap ∧ va_D (va_A [(mo, .inr (8, [.int 0, .ref m1, .ref m2, .ref m3, .long 0, .long 1, .ref m6, .ref m7, .ref m8, .ref m9, .ref m10, .ref m11, .ref m12, .ref m13, .ref m14, .ref m15, .ref m16])), (m3, .inl (cI, 1024, .inl fb))] sz) [(mo, .inr (8, [.int 0, .ref m1, .ref m2, .ref m3, .long 0, .long 1, .ref m6, .ref m7, .ref m8, .ref m9, .ref m10, .ref m11, .ref m12, .ref m13, .ref m14, .ref m15, .ref m16])), (m3, .inl (cI, 1024, .inl fx))]) (va_A [(mo, .inr (8, [.int 0, .ref m1, .ref m2, .ref m3, .long 0, .long 1, .ref m6, .ref m7, .ref m8, .ref m9, .ref m10, .ref m11, .ref m12, .ref m13, .ref m14, .ref m15, .ref m16])), (m3, .inl (cI, 1024, .inl fb))] sz)) 0 0 (va_A [(mo, .inr (8, [.int 0, .ref m1, .ref m2, .ref m3, .long 0, .long 1, .ref m6, .ref m7, .ref m8, .ref m9, .ref m10, .ref m11, .ref m12, .ref m13, .ref m14, .ref m15, .ref m16])), (m3, .inl (cI, 1024, .inl fb))] sz) := by
  refine Met.ofW (cc := cX8_fresh) (maxL := 3) (ret := none) (by decide) rfl ?_
  intro p e s m args below meth c s₁ B hml hv
  obtain ⟨rfl, hsz, hP, hK, hD0, hN⟩ := hv
  subst hsz
  have hx := B.exec
  have hb := B.bytes
  have hr := B.returns
  have hts := atoms_spec (ws := wsX8_fresh) B.pre
  have hown : s.vm.findClass RX8 = some m.cls := findClass_of_methodNamed B.named
  have hlocks := B.notSynchronized
  have hD := hD0.self (sz := s.heap.size)
  generalize hAe : va_A [(mo, .inr (8, [.int 0, .ref m1, .ref m2, .ref m3, .long 0, .long 1, .ref m6, .ref m7, .ref m8, .ref m9, .ref m10, .ref m11, .ref m12, .ref m13, .ref m14, .ref m15, .ref m16])), (m3, .inl (cI, 1024, .inl fb))] s.heap.size = A at hD ⊢
  have hA : ∀ q : Nat, s.heap.size ≤ q → A q := fun q h => by rw [← hAe]; exact Or.inr h
  have hS : va_S A s.heap s.heap [] := va_S.rf
  have hiX8 : ∀ w ∈ u_ws RX8 TX8 17, w ∈ wsX8_fresh := by decide +kernel
  have hl := lv_entry ([.ref mo, .int 0]) (n := 3) (Nat.le_of_ble_eq_true rfl)
  rw [lg_entry_eq]
  generalize (lg_sl ([.ref mo, .int 0]) ++ List.replicate (3 - (lg_sl ([.ref mo, .int 0])).length) Slot.unset).toArray = ls at hl ⊢
  have hl : lv_has ls 3 [(0, .ref mo), (1, .int 0)] := hl
  refine lv_iconst (v := 0) hx hb dX8_fresh_0 (by decide +kernel) ?_
  refine lv_istore_n (lv' := [(2, .int 0), (0, .ref mo), (1, .int 0)]) hx hb dX8_fresh_1 rfl hl (by decide) rfl (fun ls hl => ?_)
  refine mz_loop 128 (fun i H locs ls => ∃ f : Nat → Int32, va_P (dC, dI) vwCl [(mo, .inr (8, [.int 0, .ref m1, .ref m2, .ref m3, .long 0, .long 1, .ref m6, .ref m7, .ref m8, .ref m9, .ref m10, .ref m11, .ref m12, .ref m13, .ref m14, .ref m15, .ref m16])), (m3, .inl (cI, 1024, .inl f))] H ∧ va_D A [(mo, .inr (8, [.int 0, .ref m1, .ref m2, .ref m3, .long 0, .long 1, .ref m6, .ref m7, .ref m8, .ref m9, .ref m10, .ref m11, .ref m12, .ref m13, .ref m14, .ref m15, .ref m16])), (m3, .inl (cI, 1024, .inl f))] ∧ va_S A s.heap H locs ∧ lv_has ls 3 [(2, .int (nI i)), (0, .ref mo), (1, .int 0)]) ?_ ?_ 0 (Nat.zero_le _) _ _ _ ⟨_, hP, hD, hS, hl⟩
  · intro i H locs ls hi_ hI kk
    obtain ⟨f, hP, hD, hS, hl⟩ := hI
    refine lv_iload_n hx hb dX8_fresh_2 rfl (lv_at hl 0 rfl) ?_
    refine lv_sipush (v := 128) hx hb dX8_fresh_3 (by decide +kernel) ?_
    refine lv_icmp_ge (tgt := 29) hx hb dX8_fresh_6 (by decide) (fun c_6 => absurd c_6 (nI_ge hi_ (by decide))) (fun _ => ?_)
    refine lv_aload_n hx hb dX8_fresh_9 rfl (lv_at hl 1 rfl) ?_
    refine va_get (D := (dC, dI)) (ci := 8) (v := .ref m3) (C := RX8) (T := TX8) (N := 17) hx hb hts hiX8 hown hK hP 0 rfl rfl 3 (by decide) (hts (.fieldLink RX8 17 "MadeItSoModel" "books" "[I") (by decide +kernel)) (fun _ h9 => h9) rfl dX8_fresh_10 ?_
    refine lv_sipush (v := 128) hx hb dX8_fresh_13 (by decide +kernel) ?_
    refine lv_iload_n hx hb dX8_fresh_16 rfl (lv_at hl 2 rfl) ?_
    refine lv_imul hx hb dX8_fresh_17 ?_
    refine mz_ti (y := 0) (by decide +kernel) ?_
    refine lv_iload_n hx hb dX8_fresh_18 rfl (lv_at hl 0 rfl) ?_
    refine lv_iadd hx hb dX8_fresh_19 ?_
    refine mz_ti (y := (nI i)) (mz_z0 _) ?_
    refine lv_bipush (v := 50) hx hb dX8_fresh_20 (by decide +kernel) ?_
    refine va_iast hx hb hK hP hD hS 1 0 rfl rfl (vp_in_nI (Nat.lt_of_lt_of_le hi_ (by decide)) (by decide)) dX8_fresh_22 (fun H locs hP hD hS => ?_)
    have hP : va_P (dC, dI) vwCl [(mo, .inr (8, [.int 0, .ref m1, .ref m2, .ref m3, .long 0, .long 1, .ref m6, .ref m7, .ref m8, .ref m9, .ref m10, .ref m11, .ref m12, .ref m13, .ref m14, .ref m15, .ref m16])), (m3, .inl (cI, 1024, .inl (upd f ((nI i) : Int32).toNatClampNeg 50)))] H := hP
    have hD : va_D A [(mo, .inr (8, [.int 0, .ref m1, .ref m2, .ref m3, .long 0, .long 1, .ref m6, .ref m7, .ref m8, .ref m9, .ref m10, .ref m11, .ref m12, .ref m13, .ref m14, .ref m15, .ref m16])), (m3, .inl (cI, 1024, .inl (upd f ((nI i) : Int32).toNatClampNeg 50)))] := hD
    refine lv_iinc (v := (nI (i + 1))) (lv' := [(2, .int (nI (i + 1))), (0, .ref mo), (1, .int 0)]) hx hb dX8_fresh_23 hl (k := 0) rfl (nI_1 i) (by decide) rfl (fun ls hl => ?_)
    refine lv_goto (tgt := 2) hx hb dX8_fresh_26 (by decide) ?_
    exact kk _ _ _ ⟨_, hP, hD, hS, lv_sub hl [0, 1, 2] rfl⟩
  · intro H locs ls hI
    obtain ⟨f, hP, hD, hS, hl⟩ := hI
    have hl : lv_has ls 3 [(2, .int 128), (0, .ref mo), (1, .int 0)] := hl
    refine lv_iload_n hx hb dX8_fresh_2 rfl (lv_at hl 0 rfl) ?_
    refine lv_sipush (v := 128) hx hb dX8_fresh_3 (by decide +kernel) ?_
    refine lv_icmp_ge (tgt := 29) hx hb dX8_fresh_6 (by decide) (fun _ => ?_) (fun c_6 => absurd (by decide +kernel) c_6)
    have hP9 := hP.sub (ws' := [(mo, .inr (8, [.int 0, .ref m1, .ref m2, .ref m3, .long 0, .long 1, .ref m6, .ref m7, .ref m8, .ref m9, .ref m10, .ref m11, .ref m12, .ref m13, .ref m14, .ref m15, .ref m16])), (m3, .inl (cI, 1024, .inl f))]) [0, 1] rfl
    have hD9 := hD.sub (ws' := [(mo, .inr (8, [.int 0, .ref m1, .ref m2, .ref m3, .long 0, .long 1, .ref m6, .ref m7, .ref m8, .ref m9, .ref m10, .ref m11, .ref m12, .ref m13, .ref m14, .ref m15, .ref m16])), (m3, .inl (cI, 1024, .inl f))]) [0, 1] (by decide) rfl
    refine W.widen (k := 0) (n := 0) (Nat.le_of_ble_eq_true rfl) (Nat.le_of_ble_eq_true rfl) ?_
    exact W.vret hx hb hr (fun t ht hW => ⟨⟨(), rfl, trivial, f, by rw [ht]; exact hP9, hD9⟩, hS.F ht⟩) hS.2.2 dX8_fresh_29
set_option maxHeartbeats 1000000 in
set_option maxRecDepth 100000 in
theorem mz_M_thing (l : Launch) (dC : Nat → ClassId) (dI : Nat → Nat → Nat) (cI cJ cZ : ClassId) (mo : Nat) (m1 : Nat) (m2 : Nat) (m3 : Nat) (m6 : Nat) (m7 : Nat) (m8 : Nat) (m9 : Nat) (m10 : Nat) (m11 : Nat) (m12 : Nat) (m13 : Nat) (m14 : Nat) (m15 : Nat) (m16 : Nat) (fs : Nat → Int32) (fp : Nat → Int32) (fb : Nat → Int32) (p1 : Int32) (sz : Nat)  : Met l yX8_thing wsX8_thing ({ frames := 1, cells := 0, slots := 0, locals := 22 }) (va_Pc [.ref mo, .int p1] (fun U => U.heap.size = sz ∧ va_P (dC, dI) vwCl [(mo, .inr (8, [.int 0, .ref m1, .ref m2, .ref m3, .long 0, .long 1, .ref m6, .ref m7, .ref m8, .ref m9, .ref m10, .ref m11, .ref m12, .ref m13, .ref m14, .ref m15, .ref m16])), (m1, .inl (cZ, 8, .inl fs)), (m2, .inl (cI, 8, .inl fp)), (m3, .inl (cI, 1024, .inl fb))] U.heap ∧ va_K (dC, dI) vwCl [(cI, FieldType.int), (cJ, FieldType.long), (cZ, FieldType.boolean)] U ∧ va_D (fun _ => True) [(mo, .inr (8, [.int 0, .ref m1, .ref m2, .ref m3, .long 0, .long 1, .ref m6, .ref m7, .ref m8, .ref m9, .ref m10, .ref m11, .ref m12, .ref m13, .ref m14, .ref m15, .ref m16])), (m1, .inl (cZ, 8, .inl fs)), (m2, .inl (cI, 8, .inl fp)), (m3, .inl (cI, 1024, .inl fb))] ∧ mz_N U)) (va_Qi (fun (r : Int32) (_ : Unit) => r = 0) (fun _ t => va_P (dC, dI) vwCl [] t.heap ∧ va_D (va_A [(mo, .inr (8, [.int 0, .ref m1, .ref m2, .ref m3, .long 0, .long 1, .ref m6, .ref m7, .ref m8, .ref m9, .ref m10, .ref m11, .ref m12, .ref m13, .ref m14, .ref m15, .ref m16])), (m1, .inl (cZ, 8, .inl fs)), (m2, .inl (cI, 8, .inl fp)), (m3, .inl (cI, 1024, .inl fb))] sz) []) (va_A [(mo, .inr (8, [.int 0, .ref m1, .ref m2, .ref m3, .long 0, .long 1, .ref m6, .ref m7, .ref m8, .ref m9, .ref m10, .ref m11, .ref m12, .ref m13, .ref m14, .ref m15, .ref m16])), (m1, .inl (cZ, 8, .inl fs)), (m2, .inl (cI, 8, .inl fp)), (m3, .inl (cI, 1024, .inl fb))] sz)) 0 0 (va_A [(mo, .inr (8, [.int 0, .ref m1, .ref m2, .ref m3, .long 0, .long 1, .ref m6, .ref m7, .ref m8, .ref m9, .ref m10, .ref m11, .ref m12, .ref m13, .ref m14, .ref m15, .ref m16])), (m1, .inl (cZ, 8, .inl fs)), (m2, .inl (cI, 8, .inl fp)), (m3, .inl (cI, 1024, .inl fb))] sz) := by
  refine Met.ofW (cc := cX8_thing) (maxL := 2) (ret := (some .int)) (by decide) rfl ?_
  intro p e s m args below meth c s₁ B hml hv
  obtain ⟨rfl, hsz, hP, hK, hD0, hN⟩ := hv
  subst hsz
  have hx := B.exec
  have hb := B.bytes
  have hr := B.returns
  have hts := atoms_spec (ws := wsX8_thing) B.pre
  have hown : s.vm.findClass RX8 = some m.cls := findClass_of_methodNamed B.named
  have hlocks := B.notSynchronized
  have hD := hD0.self (sz := s.heap.size)
  generalize hAe : va_A [(mo, .inr (8, [.int 0, .ref m1, .ref m2, .ref m3, .long 0, .long 1, .ref m6, .ref m7, .ref m8, .ref m9, .ref m10, .ref m11, .ref m12, .ref m13, .ref m14, .ref m15, .ref m16])), (m1, .inl (cZ, 8, .inl fs)), (m2, .inl (cI, 8, .inl fp)), (m3, .inl (cI, 1024, .inl fb))] s.heap.size = A at hD ⊢
  have hA : ∀ q : Nat, s.heap.size ≤ q → A q := fun q h => by rw [← hAe]; exact Or.inr h
  have hS : va_S A s.heap s.heap [] := va_S.rf
  have hiX8 : ∀ w ∈ u_ws RX8 TX8 17, w ∈ wsX8_thing := by decide +kernel
  have hl := lv_entry ([.ref mo, .int p1]) (n := 2) (Nat.le_of_ble_eq_true rfl)
  rw [lg_entry_eq]
  generalize (lg_sl ([.ref mo, .int p1]) ++ List.replicate (2 - (lg_sl ([.ref mo, .int p1])).length) Slot.unset).toArray = ls at hl ⊢
  have hl : lv_has ls 2 [(0, .ref mo), (1, .int p1)] := hl
  refine lv_aload_n hx hb dX8_thing_0 rfl (lv_at hl 0 rfl) ?_
  refine va_get (D := (dC, dI)) (ci := 8) (v := .int 0) (C := RX8) (T := TX8) (N := 17) hx hb hts hiX8 hown hK hP 0 rfl rfl 0 (by decide) (hts (.fieldLink RX8 58 "MadeItSoModel" "many" "I") (by decide +kernel)) (fun _ h9 => h9) rfl dX8_thing_1 ?_
  refine lv_bipush (v := 8) hx hb dX8_thing_4 (by decide +kernel) ?_
  refine lv_icmp_ne (tgt := 11) hx hb dX8_thing_6 (by decide) (fun _ => ?_) (fun c_6 => absurd c_6 (by decide +kernel))
  refine lv_aload_n hx hb dX8_thing_11 rfl (lv_at hl 0 rfl) ?_
  refine va_get (D := (dC, dI)) (ci := 8) (v := .ref m1) (C := RX8) (T := TX8) (N := 17) hx hb hts hiX8 hown hK hP 0 rfl rfl 1 (by decide) (hts (.fieldLink RX8 9 "MadeItSoModel" "isSeen" "[Z") (by decide +kernel)) (fun _ h9 => h9) rfl dX8_thing_12 ?_
  refine lv_aload_n hx hb dX8_thing_15 rfl (lv_at hl 0 rfl) ?_
  refine va_get (D := (dC, dI)) (ci := 8) (v := .int 0) (C := RX8) (T := TX8) (N := 17) hx hb hts hiX8 hown hK hP 0 rfl rfl 0 (by decide) (hts (.fieldLink RX8 58 "MadeItSoModel" "many" "I") (by decide +kernel)) (fun _ h9 => h9) rfl dX8_thing_16 ?_
  refine lv_iload_n hx hb dX8_thing_19 rfl (lv_at hl 1 rfl) ?_
  refine va_zast hx hb hK hP hD hS 1 2 rfl rfl (mz_in (by decide +kernel)) dX8_thing_20 (fun H locs hP hD hS => ?_)
  have hP : va_P (dC, dI) vwCl [(mo, .inr (8, [.int 0, .ref m1, .ref m2, .ref m3, .long 0, .long 1, .ref m6, .ref m7, .ref m8, .ref m9, .ref m10, .ref m11, .ref m12, .ref m13, .ref m14, .ref m15, .ref m16])), (m1, .inl (cZ, 8, .inl (upd fs (0 : Int32).toNatClampNeg (vp_nar .boolean p1)))), (m2, .inl (cI, 8, .inl fp)), (m3, .inl (cI, 1024, .inl fb))] H := hP
  have hD : va_D A [(mo, .inr (8, [.int 0, .ref m1, .ref m2, .ref m3, .long 0, .long 1, .ref m6, .ref m7, .ref m8, .ref m9, .ref m10, .ref m11, .ref m12, .ref m13, .ref m14, .ref m15, .ref m16])), (m1, .inl (cZ, 8, .inl (upd fs (0 : Int32).toNatClampNeg (vp_nar .boolean p1)))), (m2, .inl (cI, 8, .inl fp)), (m3, .inl (cI, 1024, .inl fb))] := hD
  refine lv_aload_n hx hb dX8_thing_21 rfl (lv_at hl 0 rfl) ?_
  refine va_get (D := (dC, dI)) (ci := 8) (v := .ref m2) (C := RX8) (T := TX8) (N := 17) hx hb hts hiX8 hown hK hP 0 rfl rfl 2 (by decide) (hts (.fieldLink RX8 13 "MadeItSoModel" "parents" "[I") (by decide +kernel)) (fun _ h9 => h9) rfl dX8_thing_22 ?_
  refine lv_aload_n hx hb dX8_thing_25 rfl (lv_at hl 0 rfl) ?_
  refine va_get (D := (dC, dI)) (ci := 8) (v := .int 0) (C := RX8) (T := TX8) (N := 17) hx hb hts hiX8 hown hK hP 0 rfl rfl 0 (by decide) (hts (.fieldLink RX8 58 "MadeItSoModel" "many" "I") (by decide +kernel)) (fun _ h9 => h9) rfl dX8_thing_26 ?_
  refine lv_iconst (v := 0) hx hb dX8_thing_29 (by decide +kernel) ?_
  refine va_iast hx hb hK hP hD hS 2 0 rfl rfl (mz_in (by decide +kernel)) dX8_thing_30 (fun H locs hP hD hS => ?_)
  have hP : va_P (dC, dI) vwCl [(mo, .inr (8, [.int 0, .ref m1, .ref m2, .ref m3, .long 0, .long 1, .ref m6, .ref m7, .ref m8, .ref m9, .ref m10, .ref m11, .ref m12, .ref m13, .ref m14, .ref m15, .ref m16])), (m1, .inl (cZ, 8, .inl (upd fs (0 : Int32).toNatClampNeg (vp_nar .boolean p1)))), (m2, .inl (cI, 8, .inl (upd fp (0 : Int32).toNatClampNeg 0))), (m3, .inl (cI, 1024, .inl fb))] H := hP
  have hD : va_D A [(mo, .inr (8, [.int 0, .ref m1, .ref m2, .ref m3, .long 0, .long 1, .ref m6, .ref m7, .ref m8, .ref m9, .ref m10, .ref m11, .ref m12, .ref m13, .ref m14, .ref m15, .ref m16])), (m1, .inl (cZ, 8, .inl (upd fs (0 : Int32).toNatClampNeg (vp_nar .boolean p1)))), (m2, .inl (cI, 8, .inl (upd fp (0 : Int32).toNatClampNeg 0))), (m3, .inl (cI, 1024, .inl fb))] := hD
  refine lv_aload_n hx hb dX8_thing_31 rfl (lv_at hl 0 rfl) ?_
  refine lv_aload_n hx hb dX8_thing_32 rfl (lv_at hl 0 rfl) ?_
  refine va_get (D := (dC, dI)) (ci := 8) (v := .int 0) (C := RX8) (T := TX8) (N := 17) hx hb hts hiX8 hown hK hP 0 rfl rfl 0 (by decide) (hts (.fieldLink RX8 58 "MadeItSoModel" "many" "I") (by decide +kernel)) (fun _ h9 => h9) rfl dX8_thing_33 ?_
  have hPc := hP.sub (ws' := [(mo, .inr (8, [.int 0, .ref m1, .ref m2, .ref m3, .long 0, .long 1, .ref m6, .ref m7, .ref m8, .ref m9, .ref m10, .ref m11, .ref m12, .ref m13, .ref m14, .ref m15, .ref m16])), (m3, .inl (cI, 1024, .inl fb))]) [0, 3] rfl
  have hDc := hD.sub (ws' := [(mo, .inr (8, [.int 0, .ref m1, .ref m2, .ref m3, .long 0, .long 1, .ref m6, .ref m7, .ref m8, .ref m9, .ref m10, .ref m11, .ref m12, .ref m13, .ref m14, .ref m15, .ref m16])), (m3, .inl (cI, 1024, .inl fb))]) [0, 3] (by decide) rfl
  have hFc := va_free (wc := [(mo, .inr (8, [.int 0, .ref m1, .ref m2, .ref m3, .long 0, .long 1, .ref m6, .ref m7, .ref m8, .ref m9, .ref m10, .ref m11, .ref m12, .ref m13, .ref m14, .ref m15, .ref m16])), (m3, .inl (cI, 1024, .inl fb))]) hD hS hA [0, 3] rfl
  refine va_callv (va_runV (As := [.int 0]) (rest := []) ⟨hx, hb, hml, hown, hts⟩ (mz_M_fresh0 l dC dI cI cJ cZ mo m1 m2 m3 m6 m7 m8 m9 m10 m11 m12 m13 m14 m15 m16 fb H.size ) (cwV 1 hts gX8_thing_X8_fresh rfl rfl rfl (by decide +kernel) ⟨Nat.le_of_ble_eq_true rfl, Nat.le_of_ble_eq_true rfl⟩) ⟨fun a U g mk q => mz_blI q, va_recv hK hPc (ci := 8) (q0 := 0) rfl rfl, fun U hU hW => ⟨rfl, by rw [hU], by rw [hU]; exact hPc, va_K.moved hW.alike hK, hDc.weaken (fun _ _ _ _ => trivial), mz_nw hW hN⟩⟩ rfl rfl hl.1 rfl (lv_room (Nat.le_of_ble_eq_true rfl)) dX8_thing_36 ⟨Nat.le_of_ble_eq_true rfl, Nat.le_of_ble_eq_true rfl⟩) hS (fun q _ h => hFc q h) hFc (fun u t H1 locs ht hvm hw hB hz1 hk1 hS => ?_)
  obtain ⟨fx1, hP1, hD1⟩ := hB
  rw [ht] at hP1
  obtain ⟨hP, hD⟩ := va_join (wr := [(m1, .inl (cZ, 8, .inl (upd fs (0 : Int32).toNatClampNeg (vp_nar .boolean p1)))), (m2, .inl (cI, 8, .inl (upd fp (0 : Int32).toNatClampNeg 0)))]) (w1 := [(mo, .inr (8, [.int 0, .ref m1, .ref m2, .ref m3, .long 0, .long 1, .ref m6, .ref m7, .ref m8, .ref m9, .ref m10, .ref m11, .ref m12, .ref m13, .ref m14, .ref m15, .ref m16])), (m3, .inl (cI, 1024, .inl fx1))]) hP hD [0, 3] [1, 2] rfl rfl (by decide) (by decide) hk1 hFc hP1 hD1
  generalize H1 = H at hP hS ⊢
  have hP : va_P (dC, dI) vwCl [(m1, .inl (cZ, 8, .inl (upd fs (0 : Int32).toNatClampNeg (vp_nar .boolean p1)))), (m2, .inl (cI, 8, .inl (upd fp (0 : Int32).toNatClampNeg 0))), (mo, .inr (8, [.int 0, .ref m1, .ref m2, .ref m3, .long 0, .long 1, .ref m6, .ref m7, .ref m8, .ref m9, .ref m10, .ref m11, .ref m12, .ref m13, .ref m14, .ref m15, .ref m16])), (m3, .inl (cI, 1024, .inl fx1))] H := hP
  have hD : va_D A [(m1, .inl (cZ, 8, .inl (upd fs (0 : Int32).toNatClampNeg (vp_nar .boolean p1)))), (m2, .inl (cI, 8, .inl (upd fp (0 : Int32).toNatClampNeg 0))), (mo, .inr (8, [.int 0, .ref m1, .ref m2, .ref m3, .long 0, .long 1, .ref m6, .ref m7, .ref m8, .ref m9, .ref m10, .ref m11, .ref m12, .ref m13, .ref m14, .ref m15, .ref m16])), (m3, .inl (cI, 1024, .inl fx1))] := hD
  refine lv_aload_n hx hb dX8_thing_39 rfl (lv_at hl 0 rfl) ?_
  refine lv_dup hx hb dX8_thing_40 rfl ?_
  refine va_get (D := (dC, dI)) (ci := 8) (v := .int 0) (C := RX8) (T := TX8) (N := 17) hx hb hts hiX8 hown hK hP 2 rfl rfl 0 (by decide) (hts (.fieldLink RX8 58 "MadeItSoModel" "many" "I") (by decide +kernel)) (fun _ h9 => h9) rfl dX8_thing_41 ?_
  refine lv_iconst (v := 1) hx hb dX8_thing_44 (by decide +kernel) ?_
  refine lv_iadd hx hb dX8_thing_45 ?_
  refine mz_ti (y := 1) (by decide +kernel) ?_
  refine va_put (D := (dC, dI)) (ci := 8) (v := .int 1) (ty := .int) (C := RX8) (T := TX8) (N := 17) hx hb hts hiX8 tyX8 tyX8_ok nmX8 hown hK hP hD hS 2 rfl rfl 0 (by decide) (hts (.fieldLink RX8 58 "MadeItSoModel" "many" "I") (by decide +kernel)) (fun _ h9 => h9) rfl (by decide +kernel) rfl rfl (Nat.le_of_ble_eq_true rfl) dX8_thing_46 (fun H locs hP hD hS => ?_)
  have hP : va_P (dC, dI) vwCl [(m1, .inl (cZ, 8, .inl (upd fs (0 : Int32).toNatClampNeg (vp_nar .boolean p1)))), (m2, .inl (cI, 8, .inl (upd fp (0 : Int32).toNatClampNeg 0))), (mo, .inr (8, [.int 1, .ref m1, .ref m2, .ref m3, .long 0, .long 1, .ref m6, .ref m7, .ref m8, .ref m9, .ref m10, .ref m11, .ref m12, .ref m13, .ref m14, .ref m15, .ref m16])), (m3, .inl (cI, 1024, .inl fx1))] H := hP
  have hD : va_D A [(m1, .inl (cZ, 8, .inl (upd fs (0 : Int32).toNatClampNeg (vp_nar .boolean p1)))), (m2, .inl (cI, 8, .inl (upd fp (0 : Int32).toNatClampNeg 0))), (mo, .inr (8, [.int 1, .ref m1, .ref m2, .ref m3, .long 0, .long 1, .ref m6, .ref m7, .ref m8, .ref m9, .ref m10, .ref m11, .ref m12, .ref m13, .ref m14, .ref m15, .ref m16])), (m3, .inl (cI, 1024, .inl fx1))] := hD
  refine lv_aload_n hx hb dX8_thing_49 rfl (lv_at hl 0 rfl) ?_
  refine va_get (D := (dC, dI)) (ci := 8) (v := .int 1) (C := RX8) (T := TX8) (N := 17) hx hb hts hiX8 hown hK hP 2 rfl rfl 0 (by decide) (hts (.fieldLink RX8 58 "MadeItSoModel" "many" "I") (by decide +kernel)) (fun _ h9 => h9) rfl dX8_thing_50 ?_
  refine lv_iconst (v := 1) hx hb dX8_thing_53 (by decide +kernel) ?_
  refine lv_isub hx hb dX8_thing_54 ?_
  refine mz_ti (y := 0) (by decide +kernel) ?_
  have hP9 := hP.sub (ws' := []) [] rfl
  have hD9 := hD.sub (ws' := []) [] (by decide) rfl
  refine W.widen (k := 0) (n := 0) (Nat.le_of_ble_eq_true rfl) (Nat.le_of_ble_eq_true rfl) ?_
  exact W.iret (v := 0) hx hb hr (fun t ht hW => ⟨⟨0, (), rfl, rfl, by rw [ht]; exact hP9, hD9⟩, hS.F ht⟩) hS.2.2 dX8_thing_55
set_option maxHeartbeats 1000000 in
set_option maxRecDepth 100000 in
theorem mz_M_chance (l : Launch) (dC : Nat → ClassId) (dI : Nat → Nat → Nat) (cI cJ cZ : ClassId) (mo : Nat) (m1 : Nat) (m2 : Nat) (m3 : Nat) (m6 : Nat) (m7 : Nat) (m8 : Nat) (m9 : Nat) (m10 : Nat) (m11 : Nat) (m12 : Nat) (m13 : Nat) (m14 : Nat) (m15 : Nat) (m16 : Nat) (p1 : Int32) (p2 : Int32) (p3 : Int32) (sz : Nat)  : Met l yX8_chance wsX8_chance ({ frames := 2, cells := 0, slots := 0, locals := 51 }) (va_Pc [.ref mo, .int p1, .int p2, .int p3] (fun U => U.heap.size = sz ∧ va_P (dC, dI) vwCl [(mo, .inr (8, [.int 0, .ref m1, .ref m2, .ref m3, .long 0, .long 1, .ref m6, .ref m7, .ref m8, .ref m9, .ref m10, .ref m11, .ref m12, .ref m13, .ref m14, .ref m15, .ref m16]))] U.heap ∧ va_K (dC, dI) vwCl [(cI, FieldType.int), (cJ, FieldType.long), (cZ, FieldType.boolean)] U ∧ va_D (fun _ => True) [(mo, .inr (8, [.int 0, .ref m1, .ref m2, .ref m3, .long 0, .long 1, .ref m6, .ref m7, .ref m8, .ref m9, .ref m10, .ref m11, .ref m12, .ref m13, .ref m14, .ref m15, .ref m16]))] ∧ mz_N U)) (va_Qi (fun (r : Int32) (_ : Unit) => r = (if p1 = 0 ∧ p2 = 0 ∧ p3 = 0 then 1 else (-1))) (fun _ t => va_P (dC, dI) vwCl [] t.heap ∧ va_D (va_A [(mo, .inr (8, [.int 0, .ref m1, .ref m2, .ref m3, .long 0, .long 1, .ref m6, .ref m7, .ref m8, .ref m9, .ref m10, .ref m11, .ref m12, .ref m13, .ref m14, .ref m15, .ref m16]))] sz) []) (va_A [(mo, .inr (8, [.int 0, .ref m1, .ref m2, .ref m3, .long 0, .long 1, .ref m6, .ref m7, .ref m8, .ref m9, .ref m10, .ref m11, .ref m12, .ref m13, .ref m14, .ref m15, .ref m16]))] sz)) 0 0 (va_A [(mo, .inr (8, [.int 0, .ref m1, .ref m2, .ref m3, .long 0, .long 1, .ref m6, .ref m7, .ref m8, .ref m9, .ref m10, .ref m11, .ref m12, .ref m13, .ref m14, .ref m15, .ref m16]))] sz) := by
  refine Met.ofW (cc := cX8_chance) (maxL := 10) (ret := (some .int)) (by decide) rfl ?_
  intro p e s m args below meth c s₁ B hml hv
  obtain ⟨rfl, hsz, hP, hK, hD0, hN⟩ := hv
  subst hsz
  have hx := B.exec
  have hb := B.bytes
  have hr := B.returns
  have hts := atoms_spec (ws := wsX8_chance) B.pre
  have hown : s.vm.findClass RX8 = some m.cls := findClass_of_methodNamed B.named
  have hlocks := B.notSynchronized
  have hD := hD0.self (sz := s.heap.size)
  generalize hAe : va_A [(mo, .inr (8, [.int 0, .ref m1, .ref m2, .ref m3, .long 0, .long 1, .ref m6, .ref m7, .ref m8, .ref m9, .ref m10, .ref m11, .ref m12, .ref m13, .ref m14, .ref m15, .ref m16]))] s.heap.size = A at hD ⊢
  have hA : ∀ q : Nat, s.heap.size ≤ q → A q := fun q h => by rw [← hAe]; exact Or.inr h
  have hS : va_S A s.heap s.heap [] := va_S.rf
  have hiX8 : ∀ w ∈ u_ws RX8 TX8 17, w ∈ wsX8_chance := by decide +kernel
  have hl := lv_entry ([.ref mo, .int p1, .int p2, .int p3]) (n := 10) (Nat.le_of_ble_eq_true rfl)
  rw [lg_entry_eq]
  generalize (lg_sl ([.ref mo, .int p1, .int p2, .int p3]) ++ List.replicate (10 - (lg_sl ([.ref mo, .int p1, .int p2, .int p3])).length) Slot.unset).toArray = ls at hl ⊢
  have hl : lv_has ls 10 [(0, .ref mo), (1, .int p1), (2, .int p2), (3, .int p3)] := hl
  refine lv_aload_n hx hb dX8_chance_0 rfl (lv_at hl 0 rfl) ?_
  refine lv_lconst (v := 0) hx hb dX8_chance_1 (by decide +kernel) ?_
  refine va_put (D := (dC, dI)) (ci := 8) (v := .long 0) (ty := .long) (C := RX8) (T := TX8) (N := 17) hx hb hts hiX8 tyX8 tyX8_ok nmX8 hown hK hP hD hS 0 rfl rfl 4 (by decide) (hts (.fieldLink RX8 110 "MadeItSoModel" "above" "J") (by decide +kernel)) (fun _ h9 => h9) rfl (by decide +kernel) rfl rfl (Nat.le_of_ble_eq_true rfl) dX8_chance_2 (fun H locs hP hD hS => ?_)
  have hP : va_P (dC, dI) vwCl [(mo, .inr (8, [.int 0, .ref m1, .ref m2, .ref m3, .long 0, .long 1, .ref m6, .ref m7, .ref m8, .ref m9, .ref m10, .ref m11, .ref m12, .ref m13, .ref m14, .ref m15, .ref m16]))] H := hP
  have hD : va_D A [(mo, .inr (8, [.int 0, .ref m1, .ref m2, .ref m3, .long 0, .long 1, .ref m6, .ref m7, .ref m8, .ref m9, .ref m10, .ref m11, .ref m12, .ref m13, .ref m14, .ref m15, .ref m16]))] := hD
  refine lv_aload_n hx hb dX8_chance_5 rfl (lv_at hl 0 rfl) ?_
  refine lv_lconst (v := 1) hx hb dX8_chance_6 (by decide +kernel) ?_
  refine va_put (D := (dC, dI)) (ci := 8) (v := .long 1) (ty := .long) (C := RX8) (T := TX8) (N := 17) hx hb hts hiX8 tyX8 tyX8_ok nmX8 hown hK hP hD hS 0 rfl rfl 5 (by decide) (hts (.fieldLink RX8 20 "MadeItSoModel" "below" "J") (by decide +kernel)) (fun _ h9 => h9) rfl (by decide +kernel) rfl rfl (Nat.le_of_ble_eq_true rfl) dX8_chance_7 (fun H locs hP hD hS => ?_)
  have hP : va_P (dC, dI) vwCl [(mo, .inr (8, [.int 0, .ref m1, .ref m2, .ref m3, .long 0, .long 1, .ref m6, .ref m7, .ref m8, .ref m9, .ref m10, .ref m11, .ref m12, .ref m13, .ref m14, .ref m15, .ref m16]))] H := hP
  have hD : va_D A [(mo, .inr (8, [.int 0, .ref m1, .ref m2, .ref m3, .long 0, .long 1, .ref m6, .ref m7, .ref m8, .ref m9, .ref m10, .ref m11, .ref m12, .ref m13, .ref m14, .ref m15, .ref m16]))] := hD
  refine lv_aload_n hx hb dX8_chance_10 rfl (lv_at hl 0 rfl) ?_
  refine lv_iload_n hx hb dX8_chance_11 rfl (lv_at hl 1 rfl) ?_
  by_cases hz_12 : p1 = 0
  · subst hz_12
    have hPc := hP.sub (ws' := [(mo, .inr (8, [.int 0, .ref m1, .ref m2, .ref m3, .long 0, .long 1, .ref m6, .ref m7, .ref m8, .ref m9, .ref m10, .ref m11, .ref m12, .ref m13, .ref m14, .ref m15, .ref m16]))]) [0] rfl
    refine va_calli (va_runV (As := [.int 0]) (rest := []) ⟨hx, hb, hml, hown, hts⟩ (mz_M_isSetting_0 l dC dI cI cJ cZ mo m1 m2 m3 m6 m7 m8 m9 m10 m11 m12 m13 m14 m15 m16 0 1 H ) (cwV 1 hts gX8_chance_X8_isSetting rfl rfl rfl (by decide +kernel) ⟨Nat.le_of_ble_eq_true rfl, Nat.le_of_ble_eq_true rfl⟩) ⟨fun a U g mk q => mz_blP q, va_recv hK hPc (ci := 8) (q0 := 0) rfl rfl, fun U hU hW => ⟨rfl, hU, hPc, va_K.moved hW.alike hK, mz_nw hW hN⟩⟩ rfl rfl hl.1 rfl (lv_room (Nat.le_of_ble_eq_true rfl)) dX8_chance_12 ⟨Nat.le_of_ble_eq_true rfl, Nat.le_of_ble_eq_true rfl⟩) hS (fun q _ h => h.elim) (fun q h => h.elim) (fun r u t H1 locs ht hvm hw hB hz1 hk1 hS => ?_)
    have hE : H = H1 := hB.symm.trans ht
    subst hE
    obtain rfl : r = 1 := hw
    refine lv_if_eq (tgt := 34) hx hb dX8_chance_15 (by decide) (fun c_15 => absurd c_15 (by decide +kernel)) (fun _ => ?_)
    refine lv_aload_n hx hb dX8_chance_18 rfl (lv_at hl 0 rfl) ?_
    refine lv_iload_n hx hb dX8_chance_19 rfl (lv_at hl 2 rfl) ?_
    by_cases hz_20 : p2 = 0
    · subst hz_20
      have hPc := hP.sub (ws' := [(mo, .inr (8, [.int 0, .ref m1, .ref m2, .ref m3, .long 0, .long 1, .ref m6, .ref m7, .ref m8, .ref m9, .ref m10, .ref m11, .ref m12, .ref m13, .ref m14, .ref m15, .ref m16]))]) [0] rfl
      refine va_calli (va_runV (As := [.int 0]) (rest := []) ⟨hx, hb, hml, hown, hts⟩ (mz_M_isSetting_0 l dC dI cI cJ cZ mo m1 m2 m3 m6 m7 m8 m9 m10 m11 m12 m13 m14 m15 m16 0 1 H ) (cwV 1 hts gX8_chance_X8_isSetting rfl rfl rfl (by decide +kernel) ⟨Nat.le_of_ble_eq_true rfl, Nat.le_of_ble_eq_true rfl⟩) ⟨fun a U g mk q => mz_blP q, va_recv hK hPc (ci := 8) (q0 := 0) rfl rfl, fun U hU hW => ⟨rfl, hU, hPc, va_K.moved hW.alike hK, mz_nw hW hN⟩⟩ rfl rfl hl.1 rfl (lv_room (Nat.le_of_ble_eq_true rfl)) dX8_chance_20 ⟨Nat.le_of_ble_eq_true rfl, Nat.le_of_ble_eq_true rfl⟩) hS (fun q _ h => h.elim) (fun q h => h.elim) (fun r u t H1 locs ht hvm hw hB hz1 hk1 hS => ?_)
      have hE : H = H1 := hB.symm.trans ht
      subst hE
      obtain rfl : r = 1 := hw
      refine lv_if_eq (tgt := 34) hx hb dX8_chance_23 (by decide) (fun c_23 => absurd c_23 (by decide +kernel)) (fun _ => ?_)
      refine lv_aload_n hx hb dX8_chance_26 rfl (lv_at hl 0 rfl) ?_
      refine lv_iload_n hx hb dX8_chance_27 rfl (lv_at hl 3 rfl) ?_
      by_cases hz_28 : p3 = 0
      · subst hz_28
        have hPc := hP.sub (ws' := [(mo, .inr (8, [.int 0, .ref m1, .ref m2, .ref m3, .long 0, .long 1, .ref m6, .ref m7, .ref m8, .ref m9, .ref m10, .ref m11, .ref m12, .ref m13, .ref m14, .ref m15, .ref m16]))]) [0] rfl
        refine va_calli (va_runV (As := [.int 0]) (rest := []) ⟨hx, hb, hml, hown, hts⟩ (mz_M_isSetting_0 l dC dI cI cJ cZ mo m1 m2 m3 m6 m7 m8 m9 m10 m11 m12 m13 m14 m15 m16 0 1 H ) (cwV 1 hts gX8_chance_X8_isSetting rfl rfl rfl (by decide +kernel) ⟨Nat.le_of_ble_eq_true rfl, Nat.le_of_ble_eq_true rfl⟩) ⟨fun a U g mk q => mz_blP q, va_recv hK hPc (ci := 8) (q0 := 0) rfl rfl, fun U hU hW => ⟨rfl, hU, hPc, va_K.moved hW.alike hK, mz_nw hW hN⟩⟩ rfl rfl hl.1 rfl (lv_room (Nat.le_of_ble_eq_true rfl)) dX8_chance_28 ⟨Nat.le_of_ble_eq_true rfl, Nat.le_of_ble_eq_true rfl⟩) hS (fun q _ h => h.elim) (fun q h => h.elim) (fun r u t H1 locs ht hvm hw hB hz1 hk1 hS => ?_)
        have hE : H = H1 := hB.symm.trans ht
        subst hE
        obtain rfl : r = 1 := hw
        refine lv_if_ne (tgt := 36) hx hb dX8_chance_31 (by decide) (fun _ => ?_) (fun c_31 => absurd c_31 (by decide +kernel))
        refine lv_aload_n hx hb dX8_chance_36 rfl (lv_at hl 0 rfl) ?_
        refine lv_iload_n hx hb dX8_chance_37 rfl (lv_at hl 2 rfl) ?_
        refine lv_iload_n hx hb dX8_chance_38 rfl (lv_at hl 3 rfl) ?_
        have hPc := hP.sub (ws' := [(mo, .inr (8, [.int 0, .ref m1, .ref m2, .ref m3, .long 0, .long 1, .ref m6, .ref m7, .ref m8, .ref m9, .ref m10, .ref m11, .ref m12, .ref m13, .ref m14, .ref m15, .ref m16]))]) [0] rfl
        refine va_calll (va_runV (As := [.int 0, .int 0]) (rest := []) ⟨hx, hb, hml, hown, hts⟩ (mz_M_sum0 l dC dI cI cJ cZ mo m1 m2 m3 m6 m7 m8 m9 m10 m11 m12 m13 m14 m15 m16 0 1 H ) (cwV 2 hts gX8_chance_X8_sum rfl rfl rfl (by decide +kernel) ⟨Nat.le_of_ble_eq_true rfl, Nat.le_of_ble_eq_true rfl⟩) ⟨fun a U g mk q => mz_blP q, va_recv hK hPc (ci := 8) (q0 := 0) rfl rfl, fun U hU hW => ⟨rfl, hU, hPc, va_K.moved hW.alike hK, mz_nw hW hN⟩⟩ rfl rfl hl.1 rfl (lv_room (Nat.le_of_ble_eq_true rfl)) dX8_chance_39 ⟨Nat.le_of_ble_eq_true rfl, Nat.le_of_ble_eq_true rfl⟩) hS (fun q _ h => h.elim) (fun q h => h.elim) (fun r u t H1 locs ht hvm hw hB hz1 hk1 hS => ?_)
        have hE : H = H1 := hB.symm.trans ht
        subst hE
        obtain rfl : r = 1 := hw
        refine lv_lstore (lv' := [(4, .long 1), (0, .ref mo), (1, .int 0), (2, .int 0), (3, .int 0)]) hx hb dX8_chance_42 hl (by decide) rfl (fun ls hl => ?_)
        refine lv_lload hx hb dX8_chance_44 (lv_at hl 0 rfl) ?_
        refine lv_lconst (v := 0) hx hb dX8_chance_46 (by decide +kernel) ?_
        refine W.lcmp hx hb dX8_chance_47 ?_
        refine mz_ti (y := 1) (by decide +kernel) ?_
        refine lv_if_ne (tgt := 53) hx hb dX8_chance_48 (by decide) (fun _ => ?_) (fun c_48 => absurd c_48 (by decide +kernel))
        refine lv_lconst (v := 0) hx hb dX8_chance_53 (by decide +kernel) ?_
        refine lv_lstore (lv' := [(6, .long 0), (4, .long 1), (0, .ref mo), (1, .int 0), (2, .int 0), (3, .int 0)]) hx hb dX8_chance_54 hl (by decide) rfl (fun ls hl => ?_)
        refine lv_iconst (v := 0) hx hb dX8_chance_56 (by decide +kernel) ?_
        refine lv_istore (lv' := [(8, .int 0), (6, .long 0), (4, .long 1), (0, .ref mo), (1, .int 0), (2, .int 0), (3, .int 0)]) hx hb dX8_chance_57 hl (by decide) rfl (fun ls hl => ?_)
        refine lv_iload hx hb dX8_chance_59 (lv_at hl 0 rfl) ?_
        refine lv_iconst (v := 1) hx hb dX8_chance_61 (by decide +kernel) ?_
        refine lv_aload_n hx hb dX8_chance_62 rfl (lv_at hl 3 rfl) ?_
        refine va_get (D := (dC, dI)) (ci := 8) (v := .int 0) (C := RX8) (T := TX8) (N := 17) hx hb hts hiX8 hown hK hP 0 rfl rfl 0 (by decide) (hts (.fieldLink RX8 58 "MadeItSoModel" "many" "I") (by decide +kernel)) (fun _ h9 => h9) rfl dX8_chance_63 ?_
        refine lv_ishl hx hb dX8_chance_66 ?_
        refine mz_ti (y := 1) (by decide +kernel) ?_
        refine lv_icmp_ge (tgt := 132) hx hb dX8_chance_67 (by decide) (fun c_67 => absurd c_67 (by decide +kernel)) (fun _ => ?_)
        refine lv_iload hx hb dX8_chance_70 (lv_at hl 0 rfl) ?_
        refine lv_iload_n hx hb dX8_chance_72 rfl (lv_at hl 4 rfl) ?_
        refine lv_bipush (v := 8) hx hb dX8_chance_73 (by decide +kernel) ?_
        refine lv_ishr hx hb dX8_chance_75 ?_
        refine mz_ti (y := 0) (by decide +kernel) ?_
        refine lv_ixor hx hb dX8_chance_76 ?_
        refine mz_ti (y := 0) (by decide +kernel) ?_
        refine lv_iload_n hx hb dX8_chance_77 rfl (lv_at hl 4 rfl) ?_
        refine lv_iand hx hb dX8_chance_78 ?_
        refine mz_ti (y := 0) (by decide +kernel) ?_
        refine lv_sipush (v := 255) hx hb dX8_chance_79 (by decide +kernel) ?_
        refine lv_iand hx hb dX8_chance_82 ?_
        refine mz_ti (y := 0) (by decide +kernel) ?_
        refine lv_if_ne (tgt := 106) hx hb dX8_chance_83 (by decide) (fun c_83 => absurd (by decide +kernel) c_83) (fun _ => ?_)
        refine lv_iload hx hb dX8_chance_86 (lv_at hl 0 rfl) ?_
        refine lv_iload_n hx hb dX8_chance_88 rfl (lv_at hl 5 rfl) ?_
        refine lv_bipush (v := 8) hx hb dX8_chance_89 (by decide +kernel) ?_
        refine lv_ishr hx hb dX8_chance_91 ?_
        refine mz_ti (y := 0) (by decide +kernel) ?_
        refine lv_ixor hx hb dX8_chance_92 ?_
        refine mz_ti (y := 0) (by decide +kernel) ?_
        refine lv_iload_n hx hb dX8_chance_93 rfl (lv_at hl 5 rfl) ?_
        refine lv_iand hx hb dX8_chance_94 ?_
        refine mz_ti (y := 0) (by decide +kernel) ?_
        refine lv_sipush (v := 255) hx hb dX8_chance_95 (by decide +kernel) ?_
        refine lv_iand hx hb dX8_chance_98 ?_
        refine mz_ti (y := 0) (by decide +kernel) ?_
        refine lv_if_ne (tgt := 106) hx hb dX8_chance_99 (by decide) (fun c_99 => absurd (by decide +kernel) c_99) (fun _ => ?_)
        refine lv_iconst (v := 1) hx hb dX8_chance_102 (by decide +kernel) ?_
        refine lv_goto (tgt := 107) hx hb dX8_chance_103 (by decide) ?_
        refine lv_istore (lv' := [(9, .int 1), (8, .int 0), (6, .long 0), (4, .long 1), (0, .ref mo), (1, .int 0), (2, .int 0), (3, .int 0)]) hx hb dX8_chance_107 hl (by decide) rfl (fun ls hl => ?_)
        refine lv_iload hx hb dX8_chance_109 (lv_at hl 0 rfl) ?_
        refine lv_if_eq (tgt := 126) hx hb dX8_chance_111 (by decide) (fun c_111 => absurd c_111 (by decide +kernel)) (fun _ => ?_)
        refine lv_lload hx hb dX8_chance_114 (lv_at hl 2 rfl) ?_
        refine lv_aload_n hx hb dX8_chance_116 rfl (lv_at hl 4 rfl) ?_
        refine lv_iload hx hb dX8_chance_117 (lv_at hl 1 rfl) ?_
        refine lv_iload_n hx hb dX8_chance_119 rfl (lv_at hl 7 rfl) ?_
        have hPc := hP.sub (ws' := [(mo, .inr (8, [.int 0, .ref m1, .ref m2, .ref m3, .long 0, .long 1, .ref m6, .ref m7, .ref m8, .ref m9, .ref m10, .ref m11, .ref m12, .ref m13, .ref m14, .ref m15, .ref m16]))]) [0] rfl
        refine va_calll (va_runV (As := [.int 0, .int 0]) (rest := [.long 0]) ⟨hx, hb, hml, hown, hts⟩ (mz_M_weightOf0 l dC dI cI cJ cZ mo m1 m2 m3 m6 m7 m8 m9 m10 m11 m12 m13 m14 m15 m16 0 1 H ) (cwV 2 hts gX8_chance_X8_weightOf rfl rfl rfl (by decide +kernel) ⟨Nat.le_of_ble_eq_true rfl, Nat.le_of_ble_eq_true rfl⟩) ⟨fun a U g mk q => mz_blP q, va_recv hK hPc (ci := 8) (q0 := 0) rfl rfl, fun U hU hW => ⟨rfl, hU, hPc, va_K.moved hW.alike hK, mz_nw hW hN⟩⟩ rfl rfl hl.1 rfl (lv_room (Nat.le_of_ble_eq_true rfl)) dX8_chance_120 ⟨Nat.le_of_ble_eq_true rfl, Nat.le_of_ble_eq_true rfl⟩) hS (fun q _ h => h.elim) (fun q h => h.elim) (fun r u t H1 locs ht hvm hw hB hz1 hk1 hS => ?_)
        have hE : H = H1 := hB.symm.trans ht
        subst hE
        obtain rfl : r = 1 := hw
        refine lv_ladd hx hb dX8_chance_123 ?_
        refine mz_tl (y := 1) (by decide +kernel) ?_
        refine lv_lstore (lv' := [(6, .long 1), (9, .int 1), (8, .int 0), (4, .long 1), (0, .ref mo), (1, .int 0), (2, .int 0), (3, .int 0)]) hx hb dX8_chance_124 hl (by decide) rfl (fun ls hl => ?_)
        refine lv_iinc (v := 1) (lv' := [(8, .int 1), (6, .long 1), (9, .int 1), (4, .long 1), (0, .ref mo), (1, .int 0), (2, .int 0), (3, .int 0)]) hx hb dX8_chance_126 hl (k := 2) rfl (by decide +kernel) (by decide) rfl (fun ls hl => ?_)
        refine lv_goto (tgt := 59) hx hb dX8_chance_129 (by decide) ?_
        refine lv_iload hx hb dX8_chance_59 (lv_at hl 0 rfl) ?_
        refine lv_iconst (v := 1) hx hb dX8_chance_61 (by decide +kernel) ?_
        refine lv_aload_n hx hb dX8_chance_62 rfl (lv_at hl 4 rfl) ?_
        refine va_get (D := (dC, dI)) (ci := 8) (v := .int 0) (C := RX8) (T := TX8) (N := 17) hx hb hts hiX8 hown hK hP 0 rfl rfl 0 (by decide) (hts (.fieldLink RX8 58 "MadeItSoModel" "many" "I") (by decide +kernel)) (fun _ h9 => h9) rfl dX8_chance_63 ?_
        refine lv_ishl hx hb dX8_chance_66 ?_
        refine mz_ti (y := 1) (by decide +kernel) ?_
        refine lv_icmp_ge (tgt := 132) hx hb dX8_chance_67 (by decide) (fun _ => ?_) (fun c_67 => absurd (by decide +kernel) c_67)
        refine lv_lload hx hb dX8_chance_132 (lv_at hl 1 rfl) ?_
        refine lv_lload hx hb dX8_chance_134 (lv_at hl 3 rfl) ?_
        have hPc := hP.sub (ws' := []) [] rfl
        refine va_calll (va_runS (As := [.long 1, .long 1]) (rest := []) ⟨hx, hb, hml, hown, hts⟩ (mz_M_shared1 l dC dI cI cJ cZ  H ) (va_cwS 2 hts gX8_chance_X8_shared rfl rfl rfl (by decide +kernel) ⟨Nat.le_of_ble_eq_true rfl, Nat.le_of_ble_eq_true rfl⟩) ⟨fun a U g mk q => mz_blP q, fun U hU hW => ⟨rfl, hU, hPc, va_K.moved hW.alike hK, mz_nw hW hN⟩⟩ rfl rfl hl.1 rfl (lv_room (Nat.le_of_ble_eq_true rfl)) dX8_chance_136 ⟨Nat.le_of_ble_eq_true rfl, Nat.le_of_ble_eq_true rfl⟩) hS (fun q _ h => h.elim) (fun q h => h.elim) (fun r u t H1 locs ht hvm hw hB hz1 hk1 hS => ?_)
        have hE : H = H1 := hB.symm.trans ht
        subst hE
        obtain rfl : r = 1 := hw
        refine lv_lstore (lv' := [(8, .long 1), (6, .long 1), (4, .long 1), (0, .ref mo), (1, .int 0), (2, .int 0), (3, .int 0)]) hx hb dX8_chance_139 hl (by decide) rfl (fun ls hl => ?_)
        refine lv_aload_n hx hb dX8_chance_141 rfl (lv_at hl 3 rfl) ?_
        refine lv_lload hx hb dX8_chance_142 (lv_at hl 1 rfl) ?_
        refine lv_lload hx hb dX8_chance_144 (lv_at hl 0 rfl) ?_
        refine lv_ldiv hx hb dX8_chance_146 (by decide +kernel) ?_
        refine mz_tl (y := 1) (by decide +kernel) ?_
        refine va_put (D := (dC, dI)) (ci := 8) (v := .long 1) (ty := .long) (C := RX8) (T := TX8) (N := 17) hx hb hts hiX8 tyX8 tyX8_ok nmX8 hown hK hP hD hS 0 rfl rfl 4 (by decide) (hts (.fieldLink RX8 110 "MadeItSoModel" "above" "J") (by decide +kernel)) (fun _ h9 => h9) rfl (by decide +kernel) rfl rfl (Nat.le_of_ble_eq_true rfl) dX8_chance_147 (fun H locs hP hD hS => ?_)
        have hP : va_P (dC, dI) vwCl [(mo, .inr (8, [.int 0, .ref m1, .ref m2, .ref m3, .long 1, .long 1, .ref m6, .ref m7, .ref m8, .ref m9, .ref m10, .ref m11, .ref m12, .ref m13, .ref m14, .ref m15, .ref m16]))] H := hP
        have hD : va_D A [(mo, .inr (8, [.int 0, .ref m1, .ref m2, .ref m3, .long 1, .long 1, .ref m6, .ref m7, .ref m8, .ref m9, .ref m10, .ref m11, .ref m12, .ref m13, .ref m14, .ref m15, .ref m16]))] := hD
        refine lv_aload_n hx hb dX8_chance_150 rfl (lv_at hl 3 rfl) ?_
        refine lv_lload hx hb dX8_chance_151 (lv_at hl 2 rfl) ?_
        refine lv_lload hx hb dX8_chance_153 (lv_at hl 0 rfl) ?_
        refine lv_ldiv hx hb dX8_chance_155 (by decide +kernel) ?_
        refine mz_tl (y := 1) (by decide +kernel) ?_
        refine va_put (D := (dC, dI)) (ci := 8) (v := .long 1) (ty := .long) (C := RX8) (T := TX8) (N := 17) hx hb hts hiX8 tyX8 tyX8_ok nmX8 hown hK hP hD hS 0 rfl rfl 5 (by decide) (hts (.fieldLink RX8 20 "MadeItSoModel" "below" "J") (by decide +kernel)) (fun _ h9 => h9) rfl (by decide +kernel) rfl rfl (Nat.le_of_ble_eq_true rfl) dX8_chance_156 (fun H locs hP hD hS => ?_)
        have hP : va_P (dC, dI) vwCl [(mo, .inr (8, [.int 0, .ref m1, .ref m2, .ref m3, .long 1, .long 1, .ref m6, .ref m7, .ref m8, .ref m9, .ref m10, .ref m11, .ref m12, .ref m13, .ref m14, .ref m15, .ref m16]))] H := hP
        have hD : va_D A [(mo, .inr (8, [.int 0, .ref m1, .ref m2, .ref m3, .long 1, .long 1, .ref m6, .ref m7, .ref m8, .ref m9, .ref m10, .ref m11, .ref m12, .ref m13, .ref m14, .ref m15, .ref m16]))] := hD
        refine lv_iconst (v := 1) hx hb dX8_chance_159 (by decide +kernel) ?_
        have hP9 := hP.sub (ws' := []) [] rfl
        have hD9 := hD.sub (ws' := []) [] (by decide) rfl
        refine W.widen (k := 0) (n := 0) (Nat.le_of_ble_eq_true rfl) (Nat.le_of_ble_eq_true rfl) ?_
        exact W.iret (v := 1) hx hb hr (fun t ht hW => ⟨⟨1, (), rfl, by simp [*], by rw [ht]; exact hP9, hD9⟩, hS.F ht⟩) hS.2.2 dX8_chance_160
      · skip
        have hPc := hP.sub (ws' := [(mo, .inr (8, [.int 0, .ref m1, .ref m2, .ref m3, .long 0, .long 1, .ref m6, .ref m7, .ref m8, .ref m9, .ref m10, .ref m11, .ref m12, .ref m13, .ref m14, .ref m15, .ref m16]))]) [0] rfl
        refine va_calli (va_runV (As := [.int p3]) (rest := []) ⟨hx, hb, hml, hown, hts⟩ (mz_M_isSetting_n l dC dI cI cJ cZ mo m1 m2 m3 m6 m7 m8 m9 m10 m11 m12 m13 m14 m15 m16 0 1 p3 H hz_28) (cwV 1 hts gX8_chance_X8_isSetting rfl rfl rfl (by decide +kernel) ⟨Nat.le_of_ble_eq_true rfl, Nat.le_of_ble_eq_true rfl⟩) ⟨fun a U g mk q => mz_blP q, va_recv hK hPc (ci := 8) (q0 := 0) rfl rfl, fun U hU hW => ⟨rfl, hU, hPc, va_K.moved hW.alike hK, mz_nw hW hN⟩⟩ rfl rfl hl.1 rfl (lv_room (Nat.le_of_ble_eq_true rfl)) dX8_chance_28 ⟨Nat.le_of_ble_eq_true rfl, Nat.le_of_ble_eq_true rfl⟩) hS (fun q _ h => h.elim) (fun q h => h.elim) (fun r u t H1 locs ht hvm hw hB hz1 hk1 hS => ?_)
        have hE : H = H1 := hB.symm.trans ht
        subst hE
        obtain rfl : r = 0 := hw
        refine lv_if_ne (tgt := 36) hx hb dX8_chance_31 (by decide) (fun c_31 => absurd (by decide +kernel) c_31) (fun _ => ?_)
        refine lv_iconst (v := (-1)) hx hb dX8_chance_34 (by decide +kernel) ?_
        have hP9 := hP.sub (ws' := []) [] rfl
        have hD9 := hD.sub (ws' := []) [] (by decide) rfl
        refine W.widen (k := 0) (n := 0) (Nat.le_of_ble_eq_true rfl) (Nat.le_of_ble_eq_true rfl) ?_
        exact W.iret (v := (-1)) hx hb hr (fun t ht hW => ⟨⟨(-1), (), rfl, by simp [*], by rw [ht]; exact hP9, hD9⟩, hS.F ht⟩) hS.2.2 dX8_chance_35
    · skip
      have hPc := hP.sub (ws' := [(mo, .inr (8, [.int 0, .ref m1, .ref m2, .ref m3, .long 0, .long 1, .ref m6, .ref m7, .ref m8, .ref m9, .ref m10, .ref m11, .ref m12, .ref m13, .ref m14, .ref m15, .ref m16]))]) [0] rfl
      refine va_calli (va_runV (As := [.int p2]) (rest := []) ⟨hx, hb, hml, hown, hts⟩ (mz_M_isSetting_n l dC dI cI cJ cZ mo m1 m2 m3 m6 m7 m8 m9 m10 m11 m12 m13 m14 m15 m16 0 1 p2 H hz_20) (cwV 1 hts gX8_chance_X8_isSetting rfl rfl rfl (by decide +kernel) ⟨Nat.le_of_ble_eq_true rfl, Nat.le_of_ble_eq_true rfl⟩) ⟨fun a U g mk q => mz_blP q, va_recv hK hPc (ci := 8) (q0 := 0) rfl rfl, fun U hU hW => ⟨rfl, hU, hPc, va_K.moved hW.alike hK, mz_nw hW hN⟩⟩ rfl rfl hl.1 rfl (lv_room (Nat.le_of_ble_eq_true rfl)) dX8_chance_20 ⟨Nat.le_of_ble_eq_true rfl, Nat.le_of_ble_eq_true rfl⟩) hS (fun q _ h => h.elim) (fun q h => h.elim) (fun r u t H1 locs ht hvm hw hB hz1 hk1 hS => ?_)
      have hE : H = H1 := hB.symm.trans ht
      subst hE
      obtain rfl : r = 0 := hw
      refine lv_if_eq (tgt := 34) hx hb dX8_chance_23 (by decide) (fun _ => ?_) (fun c_23 => absurd (by decide +kernel) c_23)
      refine lv_iconst (v := (-1)) hx hb dX8_chance_34 (by decide +kernel) ?_
      have hP9 := hP.sub (ws' := []) [] rfl
      have hD9 := hD.sub (ws' := []) [] (by decide) rfl
      refine W.widen (k := 0) (n := 0) (Nat.le_of_ble_eq_true rfl) (Nat.le_of_ble_eq_true rfl) ?_
      exact W.iret (v := (-1)) hx hb hr (fun t ht hW => ⟨⟨(-1), (), rfl, by simp [*], by rw [ht]; exact hP9, hD9⟩, hS.F ht⟩) hS.2.2 dX8_chance_35
  · skip
    have hPc := hP.sub (ws' := [(mo, .inr (8, [.int 0, .ref m1, .ref m2, .ref m3, .long 0, .long 1, .ref m6, .ref m7, .ref m8, .ref m9, .ref m10, .ref m11, .ref m12, .ref m13, .ref m14, .ref m15, .ref m16]))]) [0] rfl
    refine va_calli (va_runV (As := [.int p1]) (rest := []) ⟨hx, hb, hml, hown, hts⟩ (mz_M_isSetting_n l dC dI cI cJ cZ mo m1 m2 m3 m6 m7 m8 m9 m10 m11 m12 m13 m14 m15 m16 0 1 p1 H hz_12) (cwV 1 hts gX8_chance_X8_isSetting rfl rfl rfl (by decide +kernel) ⟨Nat.le_of_ble_eq_true rfl, Nat.le_of_ble_eq_true rfl⟩) ⟨fun a U g mk q => mz_blP q, va_recv hK hPc (ci := 8) (q0 := 0) rfl rfl, fun U hU hW => ⟨rfl, hU, hPc, va_K.moved hW.alike hK, mz_nw hW hN⟩⟩ rfl rfl hl.1 rfl (lv_room (Nat.le_of_ble_eq_true rfl)) dX8_chance_12 ⟨Nat.le_of_ble_eq_true rfl, Nat.le_of_ble_eq_true rfl⟩) hS (fun q _ h => h.elim) (fun q h => h.elim) (fun r u t H1 locs ht hvm hw hB hz1 hk1 hS => ?_)
    have hE : H = H1 := hB.symm.trans ht
    subst hE
    obtain rfl : r = 0 := hw
    refine lv_if_eq (tgt := 34) hx hb dX8_chance_15 (by decide) (fun _ => ?_) (fun c_15 => absurd (by decide +kernel) c_15)
    refine lv_iconst (v := (-1)) hx hb dX8_chance_34 (by decide +kernel) ?_
    have hP9 := hP.sub (ws' := []) [] rfl
    have hD9 := hD.sub (ws' := []) [] (by decide) rfl
    refine W.widen (k := 0) (n := 0) (Nat.le_of_ble_eq_true rfl) (Nat.le_of_ble_eq_true rfl) ?_
    exact W.iret (v := (-1)) hx hb hr (fun t ht hW => ⟨⟨(-1), (), rfl, by simp [*], by rw [ht]; exact hP9, hD9⟩, hS.F ht⟩) hS.2.2 dX8_chance_35
set_option maxHeartbeats 1000000 in
set_option maxRecDepth 100000 in
theorem mz_M_drawings (l : Launch) (dC : Nat → ClassId) (dI : Nat → Nat → Nat) (cI cJ cZ : ClassId) (mo : Nat) (m1 : Nat) (m2 : Nat) (m3 : Nat) (m6 : Nat) (m7 : Nat) (m8 : Nat) (m9 : Nat) (m10 : Nat) (m11 : Nat) (m12 : Nat) (m13 : Nat) (m14 : Nat) (m15 : Nat) (m16 : Nat) (fa : Nat → Int32) (fc : Nat → Int32) (sz : Nat)  : Met l yX8_drawings wsX8_drawings ({ frames := 0, cells := 0, slots := 0, locals := 0 }) (va_Pc [.ref mo] (fun U => U.heap.size = sz ∧ va_P (dC, dI) vwCl [(mo, .inr (8, [.int 0, .ref m1, .ref m2, .ref m3, .long 0, .long 1, .ref m6, .ref m7, .ref m8, .ref m9, .ref m10, .ref m11, .ref m12, .ref m13, .ref m14, .ref m15, .ref m16])), (m15, .inl (cZ, 64, .inl fa)), (m13, .inl (cI, 9, .inl fc))] U.heap ∧ va_K (dC, dI) vwCl [(cI, FieldType.int), (cJ, FieldType.long), (cZ, FieldType.boolean)] U ∧ va_D (fun _ => True) [(mo, .inr (8, [.int 0, .ref m1, .ref m2, .ref m3, .long 0, .long 1, .ref m6, .ref m7, .ref m8, .ref m9, .ref m10, .ref m11, .ref m12, .ref m13, .ref m14, .ref m15, .ref m16])), (m15, .inl (cZ, 64, .inl fa)), (m13, .inl (cI, 9, .inl fc))] ∧ mz_N U)) (va_Qi (fun (r : Int32) (_ : Unit) => r = 1) (fun _ t => va_P (dC, dI) vwCl [] t.heap ∧ va_D (va_A [(mo, .inr (8, [.int 0, .ref m1, .ref m2, .ref m3, .long 0, .long 1, .ref m6, .ref m7, .ref m8, .ref m9, .ref m10, .ref m11, .ref m12, .ref m13, .ref m14, .ref m15, .ref m16])), (m15, .inl (cZ, 64, .inl fa)), (m13, .inl (cI, 9, .inl fc))] sz) []) (va_A [(mo, .inr (8, [.int 0, .ref m1, .ref m2, .ref m3, .long 0, .long 1, .ref m6, .ref m7, .ref m8, .ref m9, .ref m10, .ref m11, .ref m12, .ref m13, .ref m14, .ref m15, .ref m16])), (m15, .inl (cZ, 64, .inl fa)), (m13, .inl (cI, 9, .inl fc))] sz)) 0 0 (va_A [(mo, .inr (8, [.int 0, .ref m1, .ref m2, .ref m3, .long 0, .long 1, .ref m6, .ref m7, .ref m8, .ref m9, .ref m10, .ref m11, .ref m12, .ref m13, .ref m14, .ref m15, .ref m16])), (m15, .inl (cZ, 64, .inl fa)), (m13, .inl (cI, 9, .inl fc))] sz) := by
  refine Met.ofW (cc := cX8_drawings) (maxL := 6) (ret := (some .int)) (by decide) rfl ?_
  intro p e s m args below meth c s₁ B hml hv
  obtain ⟨rfl, hsz, hP, hK, hD0, hN⟩ := hv
  subst hsz
  have hx := B.exec
  have hb := B.bytes
  have hr := B.returns
  have hts := atoms_spec (ws := wsX8_drawings) B.pre
  have hown : s.vm.findClass RX8 = some m.cls := findClass_of_methodNamed B.named
  have hlocks := B.notSynchronized
  have hD := hD0.self (sz := s.heap.size)
  generalize hAe : va_A [(mo, .inr (8, [.int 0, .ref m1, .ref m2, .ref m3, .long 0, .long 1, .ref m6, .ref m7, .ref m8, .ref m9, .ref m10, .ref m11, .ref m12, .ref m13, .ref m14, .ref m15, .ref m16])), (m15, .inl (cZ, 64, .inl fa)), (m13, .inl (cI, 9, .inl fc))] s.heap.size = A at hD ⊢
  have hA : ∀ q : Nat, s.heap.size ≤ q → A q := fun q h => by rw [← hAe]; exact Or.inr h
  have hS : va_S A s.heap s.heap [] := va_S.rf
  have hiX8 : ∀ w ∈ u_ws RX8 TX8 17, w ∈ wsX8_drawings := by decide +kernel
  have hl := lv_entry ([.ref mo]) (n := 6) (Nat.le_of_ble_eq_true rfl)
  rw [lg_entry_eq]
  generalize (lg_sl ([.ref mo]) ++ List.replicate (6 - (lg_sl ([.ref mo])).length) Slot.unset).toArray = ls at hl ⊢
  have hl : lv_has ls 6 [(0, .ref mo)] := hl
  refine lv_iconst (v := 0) hx hb dX8_drawings_0 (by decide +kernel) ?_
  refine lv_istore_n (lv' := [(1, .int 0), (0, .ref mo)]) hx hb dX8_drawings_1 rfl hl (by decide) rfl (fun ls hl => ?_)
  refine lv_iload_n hx hb dX8_drawings_2 rfl (lv_at hl 0 rfl) ?_
  refine lv_aload_n hx hb dX8_drawings_3 rfl (lv_at hl 1 rfl) ?_
  refine va_get (D := (dC, dI)) (ci := 8) (v := .int 0) (C := RX8) (T := TX8) (N := 17) hx hb hts hiX8 hown hK hP 0 rfl rfl 0 (by decide) (hts (.fieldLink RX8 58 "MadeItSoModel" "many" "I") (by decide +kernel)) (fun _ h9 => h9) rfl dX8_drawings_4 ?_
  refine lv_icmp_ge (tgt := 69) hx hb dX8_drawings_7 (by decide) (fun _ => ?_) (fun c_7 => absurd (by decide +kernel) c_7)
  refine lv_iconst (v := 0) hx hb dX8_drawings_69 (by decide +kernel) ?_
  refine lv_istore_n (lv' := [(1, .int 0), (0, .ref mo)]) hx hb dX8_drawings_70 rfl hl (by decide) rfl (fun ls hl => ?_)
  refine mz_loop 64 (fun i H locs ls => ∃ f : Nat → Int32, va_P (dC, dI) vwCl [(mo, .inr (8, [.int 0, .ref m1, .ref m2, .ref m3, .long 0, .long 1, .ref m6, .ref m7, .ref m8, .ref m9, .ref m10, .ref m11, .ref m12, .ref m13, .ref m14, .ref m15, .ref m16])), (m15, .inl (cZ, 64, .inl f)), (m13, .inl (cI, 9, .inl fc))] H ∧ va_D A [(mo, .inr (8, [.int 0, .ref m1, .ref m2, .ref m3, .long 0, .long 1, .ref m6, .ref m7, .ref m8, .ref m9, .ref m10, .ref m11, .ref m12, .ref m13, .ref m14, .ref m15, .ref m16])), (m15, .inl (cZ, 64, .inl f)), (m13, .inl (cI, 9, .inl fc))] ∧ va_S A s.heap H locs ∧ lv_has ls 6 [(1, .int (nI i)), (0, .ref mo)]) ?_ ?_ 0 (Nat.zero_le _) _ _ _ ⟨_, hP, hD, hS, hl⟩
  · intro i H locs ls hi_ hI kk
    obtain ⟨f, hP, hD, hS, hl⟩ := hI
    refine lv_iload_n hx hb dX8_drawings_71 rfl (lv_at hl 0 rfl) ?_
    refine lv_bipush (v := 64) hx hb dX8_drawings_72 (by decide +kernel) ?_
    refine lv_icmp_ge (tgt := 90) hx hb dX8_drawings_74 (by decide) (fun c_74 => absurd c_74 (nI_ge hi_ (by decide))) (fun _ => ?_)
    refine lv_aload_n hx hb dX8_drawings_77 rfl (lv_at hl 1 rfl) ?_
    refine va_get (D := (dC, dI)) (ci := 8) (v := .ref m15) (C := RX8) (T := TX8) (N := 17) hx hb hts hiX8 hown hK hP 0 rfl rfl 15 (by decide) (hts (.fieldLink RX8 52 "MadeItSoModel" "isAlways" "[Z") (by decide +kernel)) (fun _ h9 => h9) rfl dX8_drawings_78 ?_
    refine lv_iload_n hx hb dX8_drawings_81 rfl (lv_at hl 0 rfl) ?_
    refine lv_iconst (v := 1) hx hb dX8_drawings_82 (by decide +kernel) ?_
    refine va_zast hx hb hK hP hD hS 1 2 rfl rfl (vp_in_nI (Nat.lt_of_lt_of_le hi_ (by decide)) (by decide)) dX8_drawings_83 (fun H locs hP hD hS => ?_)
    have hP : va_P (dC, dI) vwCl [(mo, .inr (8, [.int 0, .ref m1, .ref m2, .ref m3, .long 0, .long 1, .ref m6, .ref m7, .ref m8, .ref m9, .ref m10, .ref m11, .ref m12, .ref m13, .ref m14, .ref m15, .ref m16])), (m15, .inl (cZ, 64, .inl (upd f ((nI i) : Int32).toNatClampNeg (vp_nar .boolean 1)))), (m13, .inl (cI, 9, .inl fc))] H := hP
    have hD : va_D A [(mo, .inr (8, [.int 0, .ref m1, .ref m2, .ref m3, .long 0, .long 1, .ref m6, .ref m7, .ref m8, .ref m9, .ref m10, .ref m11, .ref m12, .ref m13, .ref m14, .ref m15, .ref m16])), (m15, .inl (cZ, 64, .inl (upd f ((nI i) : Int32).toNatClampNeg (vp_nar .boolean 1)))), (m13, .inl (cI, 9, .inl fc))] := hD
    refine lv_iinc (v := (nI (i + 1))) (lv' := [(1, .int (nI (i + 1))), (0, .ref mo)]) hx hb dX8_drawings_84 hl (k := 0) rfl (nI_1 i) (by decide) rfl (fun ls hl => ?_)
    refine lv_goto (tgt := 71) hx hb dX8_drawings_87 (by decide) ?_
    exact kk _ _ _ ⟨_, hP, hD, hS, lv_sub hl [0, 1] rfl⟩
  · intro H locs ls hI
    obtain ⟨f, hP, hD, hS, hl⟩ := hI
    have hl : lv_has ls 6 [(1, .int 64), (0, .ref mo)] := hl
    refine lv_iload_n hx hb dX8_drawings_71 rfl (lv_at hl 0 rfl) ?_
    refine lv_bipush (v := 64) hx hb dX8_drawings_72 (by decide +kernel) ?_
    refine lv_icmp_ge (tgt := 90) hx hb dX8_drawings_74 (by decide) (fun _ => ?_) (fun c_74 => absurd (by decide +kernel) c_74)
    refine lv_iconst (v := 0) hx hb dX8_drawings_90 (by decide +kernel) ?_
    refine lv_istore_n (lv' := [(1, .int 0), (0, .ref mo)]) hx hb dX8_drawings_91 rfl hl (by decide) rfl (fun ls hl => ?_)
    refine lv_iconst (v := 0) hx hb dX8_drawings_92 (by decide +kernel) ?_
    refine lv_istore_n (lv' := [(2, .int 0), (1, .int 0), (0, .ref mo)]) hx hb dX8_drawings_93 rfl hl (by decide) rfl (fun ls hl => ?_)
    refine lv_iconst (v := 0) hx hb dX8_drawings_94 (by decide +kernel) ?_
    refine lv_istore_n (lv' := [(3, .int 0), (2, .int 0), (1, .int 0), (0, .ref mo)]) hx hb dX8_drawings_95 rfl hl (by decide) rfl (fun ls hl => ?_)
    refine lv_aload_n hx hb dX8_drawings_96 rfl (lv_at hl 3 rfl) ?_
    refine va_get (D := (dC, dI)) (ci := 8) (v := .ref m13) (C := RX8) (T := TX8) (N := 17) hx hb hts hiX8 hown hK hP 0 rfl rfl 13 (by decide) (hts (.fieldLink RX8 46 "MadeItSoModel" "choice" "[I") (by decide +kernel)) (fun _ h9 => h9) rfl dX8_drawings_97 ?_
    refine lv_iconst (v := 0) hx hb dX8_drawings_100 (by decide +kernel) ?_
    refine lv_iconst (v := 0) hx hb dX8_drawings_101 (by decide +kernel) ?_
    refine va_iast hx hb hK hP hD hS 2 0 rfl rfl (mz_in (by decide +kernel)) dX8_drawings_102 (fun H locs hP hD hS => ?_)
    have hP : va_P (dC, dI) vwCl [(mo, .inr (8, [.int 0, .ref m1, .ref m2, .ref m3, .long 0, .long 1, .ref m6, .ref m7, .ref m8, .ref m9, .ref m10, .ref m11, .ref m12, .ref m13, .ref m14, .ref m15, .ref m16])), (m15, .inl (cZ, 64, .inl f)), (m13, .inl (cI, 9, .inl (upd fc (0 : Int32).toNatClampNeg 0)))] H := hP
    have hD : va_D A [(mo, .inr (8, [.int 0, .ref m1, .ref m2, .ref m3, .long 0, .long 1, .ref m6, .ref m7, .ref m8, .ref m9, .ref m10, .ref m11, .ref m12, .ref m13, .ref m14, .ref m15, .ref m16])), (m15, .inl (cZ, 64, .inl f)), (m13, .inl (cI, 9, .inl (upd fc (0 : Int32).toNatClampNeg 0)))] := hD
    refine lv_iload_n hx hb dX8_drawings_103 rfl (lv_at hl 1 rfl) ?_
    refine lv_if_lt (tgt := 351) hx hb dX8_drawings_104 (by decide) (fun c_104 => absurd c_104 (by decide +kernel)) (fun _ => ?_)
    refine lv_iload_n hx hb dX8_drawings_107 rfl (lv_at hl 1 rfl) ?_
    refine lv_aload_n hx hb dX8_drawings_108 rfl (lv_at hl 3 rfl) ?_
    refine va_get (D := (dC, dI)) (ci := 8) (v := .int 0) (C := RX8) (T := TX8) (N := 17) hx hb hts hiX8 hown hK hP 0 rfl rfl 0 (by decide) (hts (.fieldLink RX8 58 "MadeItSoModel" "many" "I") (by decide +kernel)) (fun _ h9 => h9) rfl dX8_drawings_109 ?_
    refine lv_icmp_ne (tgt := 204) hx hb dX8_drawings_112 (by decide) (fun c_112 => absurd (by decide +kernel) c_112) (fun _ => ?_)
    refine lv_iinc (v := 1) (lv' := [(1, .int 1), (3, .int 0), (2, .int 0), (0, .ref mo)]) hx hb dX8_drawings_115 hl (k := 2) rfl (by decide +kernel) (by decide) rfl (fun ls hl => ?_)
    refine lv_iconst (v := 0) hx hb dX8_drawings_118 (by decide +kernel) ?_
    refine lv_istore (lv' := [(4, .int 0), (1, .int 1), (3, .int 0), (2, .int 0), (0, .ref mo)]) hx hb dX8_drawings_119 hl (by decide) rfl (fun ls hl => ?_)
    refine lv_iload hx hb dX8_drawings_121 (lv_at hl 0 rfl) ?_
    refine lv_aload_n hx hb dX8_drawings_123 rfl (lv_at hl 4 rfl) ?_
    refine va_get (D := (dC, dI)) (ci := 8) (v := .int 0) (C := RX8) (T := TX8) (N := 17) hx hb hts hiX8 hown hK hP 0 rfl rfl 0 (by decide) (hts (.fieldLink RX8 58 "MadeItSoModel" "many" "I") (by decide +kernel)) (fun _ h9 => h9) rfl dX8_drawings_124 ?_
    refine lv_icmp_ge (tgt := 204) hx hb dX8_drawings_127 (by decide) (fun _ => ?_) (fun c_127 => absurd (by decide +kernel) c_127)
    refine lv_iload_n hx hb dX8_drawings_204 rfl (lv_at hl 3 rfl) ?_
    refine lv_aload_n hx hb dX8_drawings_205 rfl (lv_at hl 4 rfl) ?_
    refine va_get (D := (dC, dI)) (ci := 8) (v := .int 0) (C := RX8) (T := TX8) (N := 17) hx hb hts hiX8 hown hK hP 0 rfl rfl 0 (by decide) (hts (.fieldLink RX8 58 "MadeItSoModel" "many" "I") (by decide +kernel)) (fun _ h9 => h9) rfl dX8_drawings_206 ?_
    refine lv_icmp_ne (tgt := 219) hx hb dX8_drawings_209 (by decide) (fun c_209 => absurd (by decide +kernel) c_209) (fun _ => ?_)
    refine lv_aload_n hx hb dX8_drawings_212 rfl (lv_at hl 4 rfl) ?_
    refine va_get (D := (dC, dI)) (ci := 8) (v := .int 0) (C := RX8) (T := TX8) (N := 17) hx hb hts hiX8 hown hK hP 0 rfl rfl 0 (by decide) (hts (.fieldLink RX8 58 "MadeItSoModel" "many" "I") (by decide +kernel)) (fun _ h9 => h9) rfl dX8_drawings_213 ?_
    refine lv_goto (tgt := 225) hx hb dX8_drawings_216 (by decide) ?_
    refine lv_istore (lv' := [(4, .int 0), (1, .int 1), (3, .int 0), (2, .int 0), (0, .ref mo)]) hx hb dX8_drawings_225 hl (by decide) rfl (fun ls hl => ?_)
    refine lv_iload hx hb dX8_drawings_227 (lv_at hl 0 rfl) ?_
    refine lv_aload_n hx hb dX8_drawings_229 rfl (lv_at hl 4 rfl) ?_
    refine va_get (D := (dC, dI)) (ci := 8) (v := .int 0) (C := RX8) (T := TX8) (N := 17) hx hb hts hiX8 hown hK hP 0 rfl rfl 0 (by decide) (hts (.fieldLink RX8 58 "MadeItSoModel" "many" "I") (by decide +kernel)) (fun _ h9 => h9) rfl dX8_drawings_230 ?_
    refine lv_icmp_ne (tgt := 259) hx hb dX8_drawings_233 (by decide) (fun c_233 => absurd (by decide +kernel) c_233) (fun _ => ?_)
    refine lv_iinc (v := (-1)) (lv' := [(2, .int (-1)), (4, .int 0), (1, .int 1), (3, .int 0), (0, .ref mo)]) hx hb dX8_drawings_236 hl (k := 3) rfl (by decide +kernel) (by decide) rfl (fun ls hl => ?_)
    refine lv_iload_n hx hb dX8_drawings_239 rfl (lv_at hl 0 rfl) ?_
    refine lv_if_lt (tgt := 103) hx hb dX8_drawings_240 (by decide) (fun _ => ?_) (fun c_240 => absurd (by decide +kernel) c_240)
    refine lv_iload_n hx hb dX8_drawings_103 rfl (lv_at hl 0 rfl) ?_
    refine lv_if_lt (tgt := 351) hx hb dX8_drawings_104 (by decide) (fun _ => ?_) (fun c_104 => absurd (by decide +kernel) c_104)
    refine lv_iload_n hx hb dX8_drawings_351 rfl (lv_at hl 2 rfl) ?_
    have hP9 := hP.sub (ws' := []) [] rfl
    have hD9 := hD.sub (ws' := []) [] (by decide) rfl
    refine W.widen (k := 0) (n := 0) (Nat.le_of_ble_eq_true rfl) (Nat.le_of_ble_eq_true rfl) ?_
    exact W.iret (v := 1) hx hb hr (fun t ht hW => ⟨⟨1, (), rfl, rfl, by rw [ht]; exact hP9, hD9⟩, hS.F ht⟩) hS.2.2 dX8_drawings_352
set_option maxHeartbeats 1000000 in
set_option maxRecDepth 100000 in
theorem mz_M_alike (l : Launch) (dC : Nat → ClassId) (dI : Nat → Nat → Nat) (cI cJ cZ : ClassId) (mo : Nat) (m1 : Nat) (m2 : Nat) (m3 : Nat) (m6 : Nat) (m7 : Nat) (m8 : Nat) (m9 : Nat) (m10 : Nat) (m11 : Nat) (m12 : Nat) (m13 : Nat) (m14 : Nat) (m15 : Nat) (m16 : Nat) (fa : Nat → Int32) (fc : Nat → Int32) (sz : Nat)  : Met l yX8_alike wsX8_alike ({ frames := 1, cells := 0, slots := 0, locals := 25 }) (va_Pc [.ref mo] (fun U => U.heap.size = sz ∧ va_P (dC, dI) vwCl [(mo, .inr (8, [.int 0, .ref m1, .ref m2, .ref m3, .long 0, .long 1, .ref m6, .ref m7, .ref m8, .ref m9, .ref m10, .ref m11, .ref m12, .ref m13, .ref m14, .ref m15, .ref m16])), (m15, .inl (cZ, 64, .inl fa)), (m13, .inl (cI, 9, .inl fc))] U.heap ∧ va_K (dC, dI) vwCl [(cI, FieldType.int), (cJ, FieldType.long), (cZ, FieldType.boolean)] U ∧ va_D (fun _ => True) [(mo, .inr (8, [.int 0, .ref m1, .ref m2, .ref m3, .long 0, .long 1, .ref m6, .ref m7, .ref m8, .ref m9, .ref m10, .ref m11, .ref m12, .ref m13, .ref m14, .ref m15, .ref m16])), (m15, .inl (cZ, 64, .inl fa)), (m13, .inl (cI, 9, .inl fc))] ∧ mz_N U)) (va_Qi (fun (r : Int32) (_ : Unit) => r = 1) (fun _ t => va_P (dC, dI) vwCl [] t.heap ∧ va_D (va_A [(mo, .inr (8, [.int 0, .ref m1, .ref m2, .ref m3, .long 0, .long 1, .ref m6, .ref m7, .ref m8, .ref m9, .ref m10, .ref m11, .ref m12, .ref m13, .ref m14, .ref m15, .ref m16])), (m15, .inl (cZ, 64, .inl fa)), (m13, .inl (cI, 9, .inl fc))] sz) []) (va_A [(mo, .inr (8, [.int 0, .ref m1, .ref m2, .ref m3, .long 0, .long 1, .ref m6, .ref m7, .ref m8, .ref m9, .ref m10, .ref m11, .ref m12, .ref m13, .ref m14, .ref m15, .ref m16])), (m15, .inl (cZ, 64, .inl fa)), (m13, .inl (cI, 9, .inl fc))] sz)) 0 0 (va_A [(mo, .inr (8, [.int 0, .ref m1, .ref m2, .ref m3, .long 0, .long 1, .ref m6, .ref m7, .ref m8, .ref m9, .ref m10, .ref m11, .ref m12, .ref m13, .ref m14, .ref m15, .ref m16])), (m15, .inl (cZ, 64, .inl fa)), (m13, .inl (cI, 9, .inl fc))] sz) := by
  refine Met.ofW (cc := cX8_alike) (maxL := 1) (ret := (some .int)) (by decide) rfl ?_
  intro p e s m args below meth c s₁ B hml hv
  obtain ⟨rfl, hsz, hP, hK, hD0, hN⟩ := hv
  subst hsz
  have hx := B.exec
  have hb := B.bytes
  have hr := B.returns
  have hts := atoms_spec (ws := wsX8_alike) B.pre
  have hown : s.vm.findClass RX8 = some m.cls := findClass_of_methodNamed B.named
  have hlocks := B.notSynchronized
  have hD := hD0.self (sz := s.heap.size)
  generalize hAe : va_A [(mo, .inr (8, [.int 0, .ref m1, .ref m2, .ref m3, .long 0, .long 1, .ref m6, .ref m7, .ref m8, .ref m9, .ref m10, .ref m11, .ref m12, .ref m13, .ref m14, .ref m15, .ref m16])), (m15, .inl (cZ, 64, .inl fa)), (m13, .inl (cI, 9, .inl fc))] s.heap.size = A at hD ⊢
  have hA : ∀ q : Nat, s.heap.size ≤ q → A q := fun q h => by rw [← hAe]; exact Or.inr h
  have hS : va_S A s.heap s.heap [] := va_S.rf
  have hl := lv_entry ([.ref mo]) (n := 1) (Nat.le_of_ble_eq_true rfl)
  rw [lg_entry_eq]
  generalize (lg_sl ([.ref mo]) ++ List.replicate (1 - (lg_sl ([.ref mo])).length) Slot.unset).toArray = ls at hl ⊢
  have hl : lv_has ls 1 [(0, .ref mo)] := hl
  refine lv_aload_n hx hb dX8_alike_0 rfl (lv_at hl 0 rfl) ?_
  have hPc := hP.sub (ws' := [(mo, .inr (8, [.int 0, .ref m1, .ref m2, .ref m3, .long 0, .long 1, .ref m6, .ref m7, .ref m8, .ref m9, .ref m10, .ref m11, .ref m12, .ref m13, .ref m14, .ref m15, .ref m16])), (m15, .inl (cZ, 64, .inl fa)), (m13, .inl (cI, 9, .inl fc))]) [0, 1, 2] rfl
  have hDc := hD.sub (ws' := [(mo, .inr (8, [.int 0, .ref m1, .ref m2, .ref m3, .long 0, .long 1, .ref m6, .ref m7, .ref m8, .ref m9, .ref m10, .ref m11, .ref m12, .ref m13, .ref m14, .ref m15, .ref m16])), (m15, .inl (cZ, 64, .inl fa)), (m13, .inl (cI, 9, .inl fc))]) [0, 1, 2] (by decide) rfl
  have hFc := va_free (wc := [(mo, .inr (8, [.int 0, .ref m1, .ref m2, .ref m3, .long 0, .long 1, .ref m6, .ref m7, .ref m8, .ref m9, .ref m10, .ref m11, .ref m12, .ref m13, .ref m14, .ref m15, .ref m16])), (m15, .inl (cZ, 64, .inl fa)), (m13, .inl (cI, 9, .inl fc))]) hD hS hA [0, 1, 2] rfl
  refine va_calli (va_runV (As := []) (rest := []) ⟨hx, hb, hml, hown, hts⟩ (mz_M_drawings l dC dI cI cJ cZ mo m1 m2 m3 m6 m7 m8 m9 m10 m11 m12 m13 m14 m15 m16 fa fc s.heap.size ) (cwV 0 hts gX8_alike_X8_drawings rfl rfl rfl (by decide +kernel) ⟨Nat.le_of_ble_eq_true rfl, Nat.le_of_ble_eq_true rfl⟩) ⟨fun a U g mk q => mz_blI q, va_recv hK hPc (ci := 8) (q0 := 0) rfl rfl, fun U hU hW => ⟨rfl, by rw [hU], by rw [hU]; exact hPc, va_K.moved hW.alike hK, hDc.weaken (fun _ _ _ _ => trivial), mz_nw hW hN⟩⟩ rfl rfl hl.1 rfl (lv_room (Nat.le_of_ble_eq_true rfl)) dX8_alike_1 ⟨Nat.le_of_ble_eq_true rfl, Nat.le_of_ble_eq_true rfl⟩) hS (fun q _ h => hFc q h) hFc (fun r u t H1 locs ht hvm hw hB hz1 hk1 hS => ?_)
  obtain ⟨hP1, hD1⟩ := hB
  rw [ht] at hP1
  obtain ⟨hP, hD⟩ := va_join (wr := []) (w1 := []) hP hD [0, 1, 2] [] rfl rfl (by decide) (by decide) hk1 hFc hP1 hD1
  generalize H1 = H at hP hS ⊢
  have hP : va_P (dC, dI) vwCl [] H := hP
  have hD : va_D A [] := hD
  obtain rfl : r = 1 := hw
  have hP9 := hP.sub (ws' := []) [] rfl
  have hD9 := hD.sub (ws' := []) [] (by decide) rfl
  refine W.widen (k := 0) (n := 0) (Nat.le_of_ble_eq_true rfl) (Nat.le_of_ble_eq_true rfl) ?_
  exact W.iret (v := 1) hx hb hr (fun t ht hW => ⟨⟨1, (), rfl, rfl, by rw [ht]; exact hP9, hD9⟩, hS.F ht⟩) hS.2.2 dX8_alike_4
end
