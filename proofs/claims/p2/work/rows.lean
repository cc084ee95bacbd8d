section
-- ===== PART A: goes FIRST, ahead of the names: the tables' words, and 'selects' of the private methods out of them =====
/-- a private method of a class that the tables say can be made, by its rows of tables_1 -/
def lw_okq (q : MethodName × Nat) : Prop := (q.1.cls ≠ "java/lang/invoke/MethodHandle" ∧ q.1.cls ≠ "java/lang/invoke/VarHandle") ∧ Cond.instantiable q.1.cls q.2 ∈ tables_1 ∧ Cond.privateMethod q.1 ∈ tables_1 ∧ Cond.instanceMethod q.1 ∈ tables_1
theorem lw_p0 : lw_okq (⟨"MadeItSo$Drawing", "spread", "(I[I)I"⟩, 3) := ⟨⟨by decide +kernel, by decide +kernel⟩, List.mem_of_getElem? (i := 21) (by decide +kernel), List.mem_of_getElem? (i := 192) (by decide +kernel), List.mem_of_getElem? (i := 193) (by decide +kernel)⟩
theorem lw_p1 : lw_okq (⟨"MadeItSo", "hasRow", "(II)Z"⟩, 10) := ⟨⟨by decide +kernel, by decide +kernel⟩, List.mem_of_getElem? (i := 13) (by decide +kernel), List.mem_of_getElem? (i := 224) (by decide +kernel), List.mem_of_getElem? (i := 225) (by decide +kernel)⟩
theorem lw_p2 : lw_okq (⟨"MadeItSo", "isSetting", "(I)Z"⟩, 10) := ⟨⟨by decide +kernel, by decide +kernel⟩, List.mem_of_getElem? (i := 13) (by decide +kernel), List.mem_of_getElem? (i := 267) (by decide +kernel), List.mem_of_getElem? (i := 268) (by decide +kernel)⟩
theorem lw_p3 : lw_okq (⟨"MadeItSo", "isHeap", "(I)Z"⟩, 10) := ⟨⟨by decide +kernel, by decide +kernel⟩, List.mem_of_getElem? (i := 13) (by decide +kernel), List.mem_of_getElem? (i := 274) (by decide +kernel), List.mem_of_getElem? (i := 275) (by decide +kernel)⟩
theorem lw_p4 : lw_okq (⟨"MadeItSo$Weights", "split", "(III)V"⟩, 2) := ⟨⟨by decide +kernel, by decide +kernel⟩, List.mem_of_getElem? (i := 48) (by decide +kernel), List.mem_of_getElem? (i := 313) (by decide +kernel), List.mem_of_getElem? (i := 314) (by decide +kernel)⟩
theorem lw_p5 : lw_okq (⟨"MadeItSo", "areTwo", "(II)Z"⟩, 10) := ⟨⟨by decide +kernel, by decide +kernel⟩, List.mem_of_getElem? (i := 13) (by decide +kernel), List.mem_of_getElem? (i := 357) (by decide +kernel), List.mem_of_getElem? (i := 358) (by decide +kernel)⟩
theorem lw_p6 : lw_okq (⟨"MadeItSo$LeastHeaps", "holdsOne", "(I)Z"⟩, 2) := ⟨⟨by decide +kernel, by decide +kernel⟩, List.mem_of_getElem? (i := 91) (by decide +kernel), List.mem_of_getElem? (i := 367) (by decide +kernel), List.mem_of_getElem? (i := 368) (by decide +kernel)⟩
theorem lw_p7 : lw_okq (⟨"MadeItSo", "sumOver", "(III)Z"⟩, 10) := ⟨⟨by decide +kernel, by decide +kernel⟩, List.mem_of_getElem? (i := 13) (by decide +kernel), List.mem_of_getElem? (i := 408) (by decide +kernel), List.mem_of_getElem? (i := 409) (by decide +kernel)⟩
theorem lw_p8 : lw_okq (⟨"MadeItSo$Big", "trim", "()V"⟩, 2) := ⟨⟨by decide +kernel, by decide +kernel⟩, List.mem_of_getElem? (i := 68) (by decide +kernel), List.mem_of_getElem? (i := 420) (by decide +kernel), List.mem_of_getElem? (i := 421) (by decide +kernel)⟩
theorem lw_p9 : lw_okq (⟨"MadeItSo$Drawing", "unjoinedWith", "(II)I"⟩, 3) := ⟨⟨by decide +kernel, by decide +kernel⟩, List.mem_of_getElem? (i := 21) (by decide +kernel), List.mem_of_getElem? (i := 477) (by decide +kernel), List.mem_of_getElem? (i := 478) (by decide +kernel)⟩
theorem lw_p10 : lw_okq (⟨"MadeItSo$Lookalikes", "waysEndingIn", "(LMadeItSo$Drawing;II)I"⟩, 1) := ⟨⟨by decide +kernel, by decide +kernel⟩, List.mem_of_getElem? (i := 104) (by decide +kernel), List.mem_of_getElem? (i := 482) (by decide +kernel), List.mem_of_getElem? (i := 483) (by decide +kernel)⟩
theorem lw_p11 : lw_okq (⟨"MadeItSo", "leastOfBoth", "(IJJ)J"⟩, 10) := ⟨⟨by decide +kernel, by decide +kernel⟩, List.mem_of_getElem? (i := 13) (by decide +kernel), List.mem_of_getElem? (i := 501) (by decide +kernel), List.mem_of_getElem? (i := 502) (by decide +kernel)⟩
theorem lw_p12 : lw_okq (⟨"MadeItSo", "mostOfBoth", "(IIJJ)J"⟩, 10) := ⟨⟨by decide +kernel, by decide +kernel⟩, List.mem_of_getElem? (i := 13) (by decide +kernel), List.mem_of_getElem? (i := 505) (by decide +kernel), List.mem_of_getElem? (i := 506) (by decide +kernel)⟩
theorem lw_p13 : lw_okq (⟨"MadeItSo", "mostOfNeed", "(IIJ)J"⟩, 10) := ⟨⟨by decide +kernel, by decide +kernel⟩, List.mem_of_getElem? (i := 13) (by decide +kernel), List.mem_of_getElem? (i := 512) (by decide +kernel), List.mem_of_getElem? (i := 513) (by decide +kernel)⟩
theorem lw_p14 : lw_okq (⟨"MadeItSoModel", "fresh", "(I)V"⟩, 17) := ⟨⟨by decide +kernel, by decide +kernel⟩, List.mem_of_getElem? (i := 533) (by decide +kernel), List.mem_of_getElem? (i := 596) (by decide +kernel), List.mem_of_getElem? (i := 597) (by decide +kernel)⟩
theorem lw_p15 : lw_okq (⟨"MadeItSoModel", "isThing", "(I)Z"⟩, 17) := ⟨⟨by decide +kernel, by decide +kernel⟩, List.mem_of_getElem? (i := 533) (by decide +kernel), List.mem_of_getElem? (i := 604) (by decide +kernel), List.mem_of_getElem? (i := 605) (by decide +kernel)⟩
def lw_privs_1 : List (MethodName × Nat) := [(⟨"MadeItSo$Drawing", "spread", "(I[I)I"⟩, 3), (⟨"MadeItSo", "hasRow", "(II)Z"⟩, 10), (⟨"MadeItSo", "isSetting", "(I)Z"⟩, 10), (⟨"MadeItSo", "isHeap", "(I)Z"⟩, 10), (⟨"MadeItSo$Weights", "split", "(III)V"⟩, 2), (⟨"MadeItSo", "areTwo", "(II)Z"⟩, 10), (⟨"MadeItSo$LeastHeaps", "holdsOne", "(I)Z"⟩, 2), (⟨"MadeItSo", "sumOver", "(III)Z"⟩, 10), (⟨"MadeItSo$Big", "trim", "()V"⟩, 2), (⟨"MadeItSo$Drawing", "unjoinedWith", "(II)I"⟩, 3), (⟨"MadeItSo$Lookalikes", "waysEndingIn", "(LMadeItSo$Drawing;II)I"⟩, 1), (⟨"MadeItSo", "leastOfBoth", "(IJJ)J"⟩, 10), (⟨"MadeItSo", "mostOfBoth", "(IIJJ)J"⟩, 10), (⟨"MadeItSo", "mostOfNeed", "(IIJ)J"⟩, 10), (⟨"MadeItSoModel", "fresh", "(I)V"⟩, 17), (⟨"MadeItSoModel", "isThing", "(I)Z"⟩, 17)]
theorem lw_r1 : ∀ q ∈ lw_privs_1, lw_okq q := List.forall_mem_cons.mpr ⟨lw_p0, List.forall_mem_cons.mpr ⟨lw_p1, List.forall_mem_cons.mpr ⟨lw_p2, List.forall_mem_cons.mpr ⟨lw_p3, List.forall_mem_cons.mpr ⟨lw_p4, List.forall_mem_cons.mpr ⟨lw_p5, List.forall_mem_cons.mpr ⟨lw_p6, List.forall_mem_cons.mpr ⟨lw_p7, List.forall_mem_cons.mpr ⟨lw_p8, List.forall_mem_cons.mpr ⟨lw_p9, List.forall_mem_cons.mpr ⟨lw_p10, List.forall_mem_cons.mpr ⟨lw_p11, List.forall_mem_cons.mpr ⟨lw_p12, List.forall_mem_cons.mpr ⟨lw_p13, List.forall_mem_cons.mpr ⟨lw_p14, List.forall_mem_cons.mpr ⟨lw_p15, fun _ h => absurd h List.not_mem_nil⟩⟩⟩⟩⟩⟩⟩⟩⟩⟩⟩⟩⟩⟩⟩⟩
theorem lw_p16 : lw_okq (⟨"MadeItSoModel", "has", "(II)Z"⟩, 17) := ⟨⟨by decide +kernel, by decide +kernel⟩, List.mem_of_getElem? (i := 533) (by decide +kernel), List.mem_of_getElem? (i := 608) (by decide +kernel), List.mem_of_getElem? (i := 609) (by decide +kernel)⟩
theorem lw_p17 : lw_okq (⟨"MadeItSoModel", "belowOf", "(II)I"⟩, 17) := ⟨⟨by decide +kernel, by decide +kernel⟩, List.mem_of_getElem? (i := 533) (by decide +kernel), List.mem_of_getElem? (i := 612) (by decide +kernel), List.mem_of_getElem? (i := 613) (by decide +kernel)⟩
theorem lw_p18 : lw_okq (⟨"MadeItSoModel", "parentsWithout", "(III)I"⟩, 17) := ⟨⟨by decide +kernel, by decide +kernel⟩, List.mem_of_getElem? (i := 533) (by decide +kernel), List.mem_of_getElem? (i := 616) (by decide +kernel), List.mem_of_getElem? (i := 617) (by decide +kernel)⟩
theorem lw_p19 : lw_okq (⟨"MadeItSoModel", "isRow", "(II)Z"⟩, 17) := ⟨⟨by decide +kernel, by decide +kernel⟩, List.mem_of_getElem? (i := 533) (by decide +kernel), List.mem_of_getElem? (i := 632) (by decide +kernel), List.mem_of_getElem? (i := 633) (by decide +kernel)⟩
theorem lw_p20 : lw_okq (⟨"MadeItSoModel", "isSetting", "(I)Z"⟩, 17) := ⟨⟨by decide +kernel, by decide +kernel⟩, List.mem_of_getElem? (i := 533) (by decide +kernel), List.mem_of_getElem? (i := 651) (by decide +kernel), List.mem_of_getElem? (i := 652) (by decide +kernel)⟩
theorem lw_p21 : lw_okq (⟨"MadeItSoModel", "isHeap", "(I)Z"⟩, 17) := ⟨⟨by decide +kernel, by decide +kernel⟩, List.mem_of_getElem? (i := 533) (by decide +kernel), List.mem_of_getElem? (i := 656) (by decide +kernel), List.mem_of_getElem? (i := 657) (by decide +kernel)⟩
theorem lw_p22 : lw_okq (⟨"MadeItSoModel", "sum", "(II)J"⟩, 17) := ⟨⟨by decide +kernel, by decide +kernel⟩, List.mem_of_getElem? (i := 533) (by decide +kernel), List.mem_of_getElem? (i := 660) (by decide +kernel), List.mem_of_getElem? (i := 661) (by decide +kernel)⟩
theorem lw_p23 : lw_okq (⟨"MadeItSoModel", "weightOf", "(II)J"⟩, 17) := ⟨⟨by decide +kernel, by decide +kernel⟩, List.mem_of_getElem? (i := 533) (by decide +kernel), List.mem_of_getElem? (i := 664) (by decide +kernel), List.mem_of_getElem? (i := 665) (by decide +kernel)⟩
theorem lw_p24 : lw_okq (⟨"MadeItSoModel", "partsOf", "(II)I"⟩, 17) := ⟨⟨by decide +kernel, by decide +kernel⟩, List.mem_of_getElem? (i := 533) (by decide +kernel), List.mem_of_getElem? (i := 668) (by decide +kernel), List.mem_of_getElem? (i := 669) (by decide +kernel)⟩
theorem lw_p25 : lw_okq (⟨"MadeItSoModel", "barred", "(IIIII)Z"⟩, 17) := ⟨⟨by decide +kernel, by decide +kernel⟩, List.mem_of_getElem? (i := 533) (by decide +kernel), List.mem_of_getElem? (i := 693) (by decide +kernel), List.mem_of_getElem? (i := 694) (by decide +kernel)⟩
theorem lw_p26 : lw_okq (⟨"MadeItSoModel", "joins", "(IIIII)Z"⟩, 17) := ⟨⟨by decide +kernel, by decide +kernel⟩, List.mem_of_getElem? (i := 533) (by decide +kernel), List.mem_of_getElem? (i := 697) (by decide +kernel), List.mem_of_getElem? (i := 698) (by decide +kernel)⟩
theorem lw_p27 : lw_okq (⟨"MadeItSoModel", "isArrow", "(IIII)Z"⟩, 17) := ⟨⟨by decide +kernel, by decide +kernel⟩, List.mem_of_getElem? (i := 533) (by decide +kernel), List.mem_of_getElem? (i := 701) (by decide +kernel), List.mem_of_getElem? (i := 702) (by decide +kernel)⟩
theorem lw_p28 : lw_okq (⟨"MadeItSoModel", "isOpen", "(IIII)Z"⟩, 17) := ⟨⟨by decide +kernel, by decide +kernel⟩, List.mem_of_getElem? (i := 533) (by decide +kernel), List.mem_of_getElem? (i := 705) (by decide +kernel), List.mem_of_getElem? (i := 706) (by decide +kernel)⟩
theorem lw_p29 : lw_okq (⟨"MadeItSoModel", "belowWithout", "(III)I"⟩, 17) := ⟨⟨by decide +kernel, by decide +kernel⟩, List.mem_of_getElem? (i := 533) (by decide +kernel), List.mem_of_getElem? (i := 709) (by decide +kernel), List.mem_of_getElem? (i := 710) (by decide +kernel)⟩
theorem lw_p30 : lw_okq (⟨"MadeItSoModel", "works", "(II)Z"⟩, 17) := ⟨⟨by decide +kernel, by decide +kernel⟩, List.mem_of_getElem? (i := 533) (by decide +kernel), List.mem_of_getElem? (i := 717) (by decide +kernel), List.mem_of_getElem? (i := 718) (by decide +kernel)⟩
theorem lw_p31 : lw_okq (⟨"MadeItSoModel", "seen", "()I"⟩, 17) := ⟨⟨by decide +kernel, by decide +kernel⟩, List.mem_of_getElem? (i := 533) (by decide +kernel), List.mem_of_getElem? (i := 721) (by decide +kernel), List.mem_of_getElem? (i := 722) (by decide +kernel)⟩
def lw_privs_2 : List (MethodName × Nat) := [(⟨"MadeItSoModel", "has", "(II)Z"⟩, 17), (⟨"MadeItSoModel", "belowOf", "(II)I"⟩, 17), (⟨"MadeItSoModel", "parentsWithout", "(III)I"⟩, 17), (⟨"MadeItSoModel", "isRow", "(II)Z"⟩, 17), (⟨"MadeItSoModel", "isSetting", "(I)Z"⟩, 17), (⟨"MadeItSoModel", "isHeap", "(I)Z"⟩, 17), (⟨"MadeItSoModel", "sum", "(II)J"⟩, 17), (⟨"MadeItSoModel", "weightOf", "(II)J"⟩, 17), (⟨"MadeItSoModel", "partsOf", "(II)I"⟩, 17), (⟨"MadeItSoModel", "barred", "(IIIII)Z"⟩, 17), (⟨"MadeItSoModel", "joins", "(IIIII)Z"⟩, 17), (⟨"MadeItSoModel", "isArrow", "(IIII)Z"⟩, 17), (⟨"MadeItSoModel", "isOpen", "(IIII)Z"⟩, 17), (⟨"MadeItSoModel", "belowWithout", "(III)I"⟩, 17), (⟨"MadeItSoModel", "works", "(II)Z"⟩, 17), (⟨"MadeItSoModel", "seen", "()I"⟩, 17)]
theorem lw_r2 : ∀ q ∈ lw_privs_2, lw_okq q := List.forall_mem_cons.mpr ⟨lw_p16, List.forall_mem_cons.mpr ⟨lw_p17, List.forall_mem_cons.mpr ⟨lw_p18, List.forall_mem_cons.mpr ⟨lw_p19, List.forall_mem_cons.mpr ⟨lw_p20, List.forall_mem_cons.mpr ⟨lw_p21, List.forall_mem_cons.mpr ⟨lw_p22, List.forall_mem_cons.mpr ⟨lw_p23, List.forall_mem_cons.mpr ⟨lw_p24, List.forall_mem_cons.mpr ⟨lw_p25, List.forall_mem_cons.mpr ⟨lw_p26, List.forall_mem_cons.mpr ⟨lw_p27, List.forall_mem_cons.mpr ⟨lw_p28, List.forall_mem_cons.mpr ⟨lw_p29, List.forall_mem_cons.mpr ⟨lw_p30, List.forall_mem_cons.mpr ⟨lw_p31, fun _ h => absurd h List.not_mem_nil⟩⟩⟩⟩⟩⟩⟩⟩⟩⟩⟩⟩⟩⟩⟩⟩
theorem lw_p32 : lw_okq (⟨"MadeItSoModel", "isLeast", "(I)Z"⟩, 17) := ⟨⟨by decide +kernel, by decide +kernel⟩, List.mem_of_getElem? (i := 533) (by decide +kernel), List.mem_of_getElem? (i := 725) (by decide +kernel), List.mem_of_getElem? (i := 726) (by decide +kernel)⟩
theorem lw_p33 : lw_okq (⟨"MadeItSoModel", "adds", "(JJ)V"⟩, 17) := ⟨⟨by decide +kernel, by decide +kernel⟩, List.mem_of_getElem? (i := 533) (by decide +kernel), List.mem_of_getElem? (i := 745) (by decide +kernel), List.mem_of_getElem? (i := 746) (by decide +kernel)⟩
theorem lw_p34 : lw_okq (⟨"MadeItSoModel", "times", "([JJ)V"⟩, 17) := ⟨⟨by decide +kernel, by decide +kernel⟩, List.mem_of_getElem? (i := 533) (by decide +kernel), List.mem_of_getElem? (i := 749) (by decide +kernel), List.mem_of_getElem? (i := 750) (by decide +kernel)⟩
theorem lw_p35 : lw_okq (⟨"MadeItSoModel", "drawings", "()I"⟩, 17) := ⟨⟨by decide +kernel, by decide +kernel⟩, List.mem_of_getElem? (i := 533) (by decide +kernel), List.mem_of_getElem? (i := 759) (by decide +kernel), List.mem_of_getElem? (i := 760) (by decide +kernel)⟩
theorem lw_p36 : lw_okq (⟨"MadeItSoModel", "meetsLike", "(II)Z"⟩, 17) := ⟨⟨by decide +kernel, by decide +kernel⟩, List.mem_of_getElem? (i := 533) (by decide +kernel), List.mem_of_getElem? (i := 763) (by decide +kernel), List.mem_of_getElem? (i := 764) (by decide +kernel)⟩
theorem lw_p37 : lw_okq (⟨"MadeItSoModel", "isLeastOrder", "(II)Z"⟩, 17) := ⟨⟨by decide +kernel, by decide +kernel⟩, List.mem_of_getElem? (i := 533) (by decide +kernel), List.mem_of_getElem? (i := 767) (by decide +kernel), List.mem_of_getElem? (i := 768) (by decide +kernel)⟩
def lw_privs_3 : List (MethodName × Nat) := [(⟨"MadeItSoModel", "isLeast", "(I)Z"⟩, 17), (⟨"MadeItSoModel", "adds", "(JJ)V"⟩, 17), (⟨"MadeItSoModel", "times", "([JJ)V"⟩, 17), (⟨"MadeItSoModel", "drawings", "()I"⟩, 17), (⟨"MadeItSoModel", "meetsLike", "(II)Z"⟩, 17), (⟨"MadeItSoModel", "isLeastOrder", "(II)Z"⟩, 17)]
theorem lw_r3 : ∀ q ∈ lw_privs_3, lw_okq q := List.forall_mem_cons.mpr ⟨lw_p32, List.forall_mem_cons.mpr ⟨lw_p33, List.forall_mem_cons.mpr ⟨lw_p34, List.forall_mem_cons.mpr ⟨lw_p35, List.forall_mem_cons.mpr ⟨lw_p36, List.forall_mem_cons.mpr ⟨lw_p37, fun _ h => absurd h List.not_mem_nil⟩⟩⟩⟩⟩⟩
def lw_privs : List (MethodName × Nat) := lw_privs_1 ++ (lw_privs_2 ++ (lw_privs_3))
def lw_tbl : List Cond := k2_sels lw_privs ++ tables_1
theorem lw_privs_ok : ∀ q ∈ lw_privs, lw_okq q := by
  show ∀ q ∈ lw_privs_1 ++ (lw_privs_2 ++ (lw_privs_3)), lw_okq q
  exact List.forall_mem_append.mpr ⟨lw_r1, List.forall_mem_append.mpr ⟨lw_r2, lw_r3⟩⟩
end
section
/-! ===== BEGIN words of one list among another's, by their places ===== -/
theorem goodIn_r {big : List Cond} (ws : List Cond) (ps : List Nat) (hp : ws = ps.filterMap (fun i => big[i]?)) (h : ws.all goodWord = true) : GoodIn big ws := by
  intro w hw
  have h1 := List.all_eq_true.mp h w hw
  rw [hp] at hw
  obtain ⟨i, -, hi⟩ := List.mem_filterMap.mp hw
  have hm : w ∈ big := by first | exact List.mem_of_getElem? hi | exact List.getElem?_mem hi
  exact ⟨hm, good_of_word h1⟩
theorem goodIn_app {big a b : List Cond} (ha : GoodIn big a) (hb : GoodIn big b) : GoodIn big (a ++ b) := fun w h => (List.mem_append.mp h).elim (ha w) (hb w)
theorem goodIn_ca {big a b : List Cond} {c : Cond} (ha : GoodIn big (c :: a)) (hb : GoodIn big b) : GoodIn big (c :: (a ++ b)) := fun w h => (List.mem_cons.mp h).elim (fun e => ha w (List.mem_cons.mpr (Or.inl e))) (fun h => (List.mem_append.mp h).elim (fun h => ha w (List.mem_cons.mpr (Or.inr h))) (hb w))
theorem goodIn_sub {big ws : List Cond} (hm : ∀ w ∈ ws, w ∈ big) (h : ws.all goodWord = true) : GoodIn big ws := fun w hw => ⟨hm w hw, good_of_word (List.all_eq_true.mp h w hw)⟩
/-! ===== END ===== -/

/-! ===== BEGIN printed: names, fields, word lists, decode rows ===== -/
def RX0 : String := "MadeItSo$Big"
def TX0 : u_T := fun k => match k with
  | 0 => ("MadeItSo$Big", "limbs", "[J", true)
  | _ => ("MadeItSo$Big", "used", "I", false)
def tyX0 : Nat → FieldType := fun k => match k with
  | 0 => .array .long
  | _ => .int
abbrev wsX00 : List Cond := u_ws RX0 TX0 2
theorem nmX0 : ∀ a, a < 2 → ∀ b, b < 2 → a ≠ b → (TX0 a).2.1 ≠ (TX0 b).2.1 := by decide +kernel
theorem tyX0_ok : ∀ k, k < 2 → parseFieldDescriptor (TX0 k).2.2.1 = some (tyX0 k) := by decide +kernel
abbrev cX0_init : ByteArray := prog_2_method_1_code
def yX0_init : MethodName := ⟨RX0, "<init>", "()V"⟩
abbrev cX0_becomeDigit : ByteArray := prog_2_method_2_code
def yX0_becomeDigit : MethodName := ⟨RX0, "becomeDigit", "(I)V"⟩
abbrev cX0_become : ByteArray := prog_2_method_3_code
def yX0_become : MethodName := ⟨RX0, "become", "(LMadeItSo$Big;)V"⟩
abbrev cX0_times : ByteArray := prog_2_method_4_code
def yX0_times : MethodName := ⟨RX0, "times", "(J)V"⟩
abbrev cX0_plus : ByteArray := prog_2_method_5_code
def yX0_plus : MethodName := ⟨RX0, "plus", "(LMadeItSo$Big;)V"⟩
abbrev cX0_same : ByteArray := prog_2_method_6_code
def yX0_same : MethodName := ⟨RX0, "same", "(LMadeItSo$Big;)Z"⟩
abbrev cX0_trim : ByteArray := prog_2_method_7_code
def yX0_trim : MethodName := ⟨RX0, "trim", "()V"⟩
def RX1 : String := "MadeItSo$Books"
def TX1 : u_T := fun k => match k with
  | _ => ("MadeItSo$Books", "parts", "[I", true)
def tyX1 : Nat → FieldType := fun k => match k with
  | _ => .array .int
abbrev wsX10 : List Cond := u_ws RX1 TX1 1
theorem nmX1 : ∀ a, a < 1 → ∀ b, b < 1 → a ≠ b → (TX1 a).2.1 ≠ (TX1 b).2.1 := by decide +kernel
theorem tyX1_ok : ∀ k, k < 1 → parseFieldDescriptor (TX1 k).2.2.1 = some (tyX1 k) := by decide +kernel
abbrev cX1_init : ByteArray := prog_3_method_1_code
def yX1_init : MethodName := ⟨RX1, "<init>", "()V"⟩
abbrev cX1_blank : ByteArray := prog_3_method_2_code
def yX1_blank : MethodName := ⟨RX1, "blank", "(I)V"⟩
abbrev cX1_write : ByteArray := prog_3_method_3_code
def yX1_write : MethodName := ⟨RX1, "write", "(III)V"⟩
abbrev cX1_read : ByteArray := prog_3_method_4_code
def yX1_read : MethodName := ⟨RX1, "read", "(II)I"⟩
abbrev cX1_partsUnder : ByteArray := prog_3_method_5_code
def yX1_partsUnder : MethodName := ⟨RX1, "partsUnder", "(LMadeItSo$Drawing;III)I"⟩
abbrev cX1_isPlace : ByteArray := prog_3_method_6_code
def yX1_isPlace : MethodName := ⟨RX1, "isPlace", "(II)Z"⟩
abbrev cX1_rowOf : ByteArray := prog_3_method_7_code
def yX1_rowOf : MethodName := ⟨RX1, "rowOf", "(II)I"⟩
def RX2 : String := "MadeItSo$Drawing"
def TX2 : u_T := fun k => match k with
  | 0 => ("MadeItSo$Drawing", "parents", "[I", true)
  | 1 => ("MadeItSo$Drawing", "children", "[I", true)
  | _ => ("MadeItSo$Drawing", "things", "I", false)
def tyX2 : Nat → FieldType := fun k => match k with
  | 0 => .array .int
  | 1 => .array .int
  | _ => .int
abbrev wsX20 : List Cond := u_ws RX2 TX2 3
theorem nmX2 : ∀ a, a < 3 → ∀ b, b < 3 → a ≠ b → (TX2 a).2.1 ≠ (TX2 b).2.1 := by decide +kernel
theorem tyX2_ok : ∀ k, k < 3 → parseFieldDescriptor (TX2 k).2.2.1 = some (tyX2 k) := by decide +kernel
abbrev cX2_init : ByteArray := prog_4_method_1_code
def yX2_init : MethodName := ⟨RX2, "<init>", "()V"⟩
abbrev cX2_size : ByteArray := prog_4_method_2_code
def yX2_size : MethodName := ⟨RX2, "size", "()I"⟩
abbrev cX2_has : ByteArray := prog_4_method_3_code
def yX2_has : MethodName := ⟨RX2, "has", "(I)Z"⟩
abbrev cX2_everything : ByteArray := prog_4_method_4_code
def yX2_everything : MethodName := ⟨RX2, "everything", "()I"⟩
abbrev cX2_grow : ByteArray := prog_4_method_5_code
def yX2_grow : MethodName := ⟨RX2, "grow", "()I"⟩
abbrev cX2_parentsOf : ByteArray := prog_4_method_6_code
def yX2_parentsOf : MethodName := ⟨RX2, "parentsOf", "(I)I"⟩
abbrev cX2_childrenOf : ByteArray := prog_4_method_7_code
def yX2_childrenOf : MethodName := ⟨RX2, "childrenOf", "(I)I"⟩
abbrev cX2_joinedTo : ByteArray := prog_4_method_8_code
def yX2_joinedTo : MethodName := ⟨RX2, "joinedTo", "(I)I"⟩
abbrev cX2_leads : ByteArray := prog_4_method_9_code
def yX2_leads : MethodName := ⟨RX2, "leads", "(II)Z"⟩
abbrev cX2_canJoin : ByteArray := prog_4_method_10_code
def yX2_canJoin : MethodName := ⟨RX2, "canJoin", "(II)Z"⟩
abbrev cX2_join : ByteArray := prog_4_method_11_code
def yX2_join : MethodName := ⟨RX2, "join", "(II)V"⟩
abbrev cX2_part : ByteArray := prog_4_method_12_code
def yX2_part : MethodName := ⟨RX2, "part", "(II)V"⟩
abbrev cX2_arrows : ByteArray := prog_4_method_13_code
def yX2_arrows : MethodName := ⟨RX2, "arrows", "()I"⟩
abbrev cX2_allBelow : ByteArray := prog_4_method_14_code
def yX2_allBelow : MethodName := ⟨RX2, "allBelow", "(I)I"⟩
abbrev cX2_withAllBelow : ByteArray := prog_4_method_15_code
def yX2_withAllBelow : MethodName := ⟨RX2, "withAllBelow", "(I)I"⟩
abbrev cX2_road : ByteArray := prog_4_method_16_code
def yX2_road : MethodName := ⟨RX2, "road", "(II)I"⟩
abbrev cX2_nextAfter : ByteArray := prog_4_method_17_code
def yX2_nextAfter : MethodName := ⟨RX2, "nextAfter", "(I)I"⟩
abbrev cX2_copyWithout : ByteArray := prog_4_method_18_code
def yX2_copyWithout : MethodName := ⟨RX2, "copyWithout", "(LMadeItSo$Drawing;II)V"⟩
abbrev cX2_barred : ByteArray := prog_4_method_19_code
def yX2_barred : MethodName := ⟨RX2, "barred", "(III)Z"⟩
abbrev cX2_apart : ByteArray := prog_4_method_20_code
def yX2_apart : MethodName := ⟨RX2, "apart", "(I)Z"⟩
abbrev cX2_sameThirds : ByteArray := prog_4_method_21_code
def yX2_sameThirds : MethodName := ⟨RX2, "sameThirds", "(II)Z"⟩
abbrev cX2_unjoinedWith : ByteArray := prog_4_method_22_code
def yX2_unjoinedWith : MethodName := ⟨RX2, "unjoinedWith", "(II)I"⟩
abbrev cX2_spread : ByteArray := prog_4_method_23_code
def yX2_spread : MethodName := ⟨RX2, "spread", "(I[I)I"⟩
abbrev cX2_gather : ByteArray := prog_4_method_24_code
def yX2_gather : MethodName := ⟨RX2, "gather", "(I[I)I"⟩
def RX3 : String := "MadeItSo$LeastHeaps"
def TX3 : u_T := fun k => match k with
  | 0 => ("MadeItSo$LeastHeaps", "found", "[I", true)
  | _ => ("MadeItSo$LeastHeaps", "many", "I", false)
def tyX3 : Nat → FieldType := fun k => match k with
  | 0 => .array .int
  | _ => .int
abbrev wsX30 : List Cond := u_ws RX3 TX3 2
theorem nmX3 : ∀ a, a < 2 → ∀ b, b < 2 → a ≠ b → (TX3 a).2.1 ≠ (TX3 b).2.1 := by decide +kernel
theorem tyX3_ok : ∀ k, k < 2 → parseFieldDescriptor (TX3 k).2.2.1 = some (tyX3 k) := by decide +kernel
abbrev cX3_init : ByteArray := prog_5_method_1_code
def yX3_init : MethodName := ⟨RX3, "<init>", "()V"⟩
abbrev cX3_seek : ByteArray := prog_5_method_2_code
def yX3_seek : MethodName := ⟨RX3, "seek", "(LMadeItSo$Drawing;III)V"⟩
abbrev cX3_size : ByteArray := prog_5_method_3_code
def yX3_size : MethodName := ⟨RX3, "size", "()I"⟩
abbrev cX3_at : ByteArray := prog_5_method_4_code
def yX3_at : MethodName := ⟨RX3, "at", "(I)I"⟩
abbrev cX3_holdsOne : ByteArray := prog_5_method_5_code
def yX3_holdsOne : MethodName := ⟨RX3, "holdsOne", "(I)Z"⟩
def RX4 : String := "MadeItSo$Lookalikes"
def TX4 : u_T := fun k => match k with
  | _ => ("MadeItSo$Lookalikes", "waysOf", "[I", true)
def tyX4 : Nat → FieldType := fun k => match k with
  | _ => .array .int
abbrev wsX40 : List Cond := u_ws RX4 TX4 1
theorem nmX4 : ∀ a, a < 1 → ∀ b, b < 1 → a ≠ b → (TX4 a).2.1 ≠ (TX4 b).2.1 := by decide +kernel
theorem tyX4_ok : ∀ k, k < 1 → parseFieldDescriptor (TX4 k).2.2.1 = some (tyX4 k) := by decide +kernel
abbrev cX4_init : ByteArray := prog_6_method_1_code
def yX4_init : MethodName := ⟨RX4, "<init>", "()V"⟩
abbrev cX4_reckon : ByteArray := prog_6_method_2_code
def yX4_reckon : MethodName := ⟨RX4, "reckon", "(LMadeItSo$Drawing;II)I"⟩
abbrev cX4_waysEndingIn : ByteArray := prog_6_method_3_code
def yX4_waysEndingIn : MethodName := ⟨RX4, "waysEndingIn", "(LMadeItSo$Drawing;II)I"⟩
abbrev cX4_canBeLast : ByteArray := prog_6_method_4_code
def yX4_canBeLast : MethodName := ⟨RX4, "canBeLast", "(LMadeItSo$Drawing;I)I"⟩
def RX5 : String := "MadeItSo$Total"
def TX5 : u_T := fun k => match k with
  | 0 => ("MadeItSo$Total", "top", "LMadeItSo$Big;", true)
  | 1 => ("MadeItSo$Total", "bottom", "LMadeItSo$Big;", true)
  | _ => ("MadeItSo$Total", "spare", "LMadeItSo$Big;", true)
def tyX5 : Nat → FieldType := fun k => match k with
  | 0 => .object "MadeItSo$Big"
  | 1 => .object "MadeItSo$Big"
  | _ => .object "MadeItSo$Big"
abbrev wsX50 : List Cond := u_ws RX5 TX5 3
theorem nmX5 : ∀ a, a < 3 → ∀ b, b < 3 → a ≠ b → (TX5 a).2.1 ≠ (TX5 b).2.1 := by decide +kernel
theorem tyX5_ok : ∀ k, k < 3 → parseFieldDescriptor (TX5 k).2.2.1 = some (tyX5 k) := by decide +kernel
abbrev cX5_init : ByteArray := prog_7_method_1_code
def yX5_init : MethodName := ⟨RX5, "<init>", "()V"⟩
abbrev cX5_clear : ByteArray := prog_7_method_2_code
def yX5_clear : MethodName := ⟨RX5, "clear", "()V"⟩
abbrev cX5_add : ByteArray := prog_7_method_3_code
def yX5_add : MethodName := ⟨RX5, "add", "(JJJ)V"⟩
abbrev cX5_is : ByteArray := prog_7_method_4_code
def yX5_is : MethodName := ⟨RX5, "is", "(J)Z"⟩
def RX6 : String := "MadeItSo$Weights"
def TX6 : u_T := fun k => match k with
  | 0 => ("MadeItSo$Weights", "ofCase", "[J", true)
  | _ => ("MadeItSo$Weights", "everything", "I", false)
def tyX6 : Nat → FieldType := fun k => match k with
  | 0 => .array .long
  | _ => .int
abbrev wsX60 : List Cond := u_ws RX6 TX6 2
theorem nmX6 : ∀ a, a < 2 → ∀ b, b < 2 → a ≠ b → (TX6 a).2.1 ≠ (TX6 b).2.1 := by decide +kernel
theorem tyX6_ok : ∀ k, k < 2 → parseFieldDescriptor (TX6 k).2.2.1 = some (tyX6 k) := by decide +kernel
abbrev cX6_init : ByteArray := prog_8_method_1_code
def yX6_init : MethodName := ⟨RX6, "<init>", "()V"⟩
abbrev cX6_weigh : ByteArray := prog_8_method_2_code
def yX6_weigh : MethodName := ⟨RX6, "weigh", "(LMadeItSo$Drawing;LMadeItSo$Books;I)V"⟩
abbrev cX6_having : ByteArray := prog_8_method_3_code
def yX6_having : MethodName := ⟨RX6, "having", "(II)J"⟩
abbrev cX6_split : ByteArray := prog_8_method_4_code
def yX6_split : MethodName := ⟨RX6, "split", "(III)V"⟩
def RX7 : String := "MadeItSo"
def TX7 : u_T := fun k => match k with
  | 0 => ("MadeItSo", "drawing", "LMadeItSo$Drawing;", true)
  | 1 => ("MadeItSo", "thinned", "LMadeItSo$Drawing;", true)
  | 2 => ("MadeItSo", "books", "LMadeItSo$Books;", true)
  | 3 => ("MadeItSo", "weights", "LMadeItSo$Weights;", true)
  | 4 => ("MadeItSo", "total", "LMadeItSo$Total;", true)
  | 5 => ("MadeItSo", "leastHeaps", "LMadeItSo$LeastHeaps;", true)
  | 6 => ("MadeItSo", "lookalikes", "LMadeItSo$Lookalikes;", true)
  | 7 => ("MadeItSo", "seenHeap", "I", false)
  | 8 => ("MadeItSo", "aboveLine", "J", false)
  | _ => ("MadeItSo", "belowLine", "J", false)
def tyX7 : Nat → FieldType := fun k => match k with
  | 0 => .object "MadeItSo$Drawing"
  | 1 => .object "MadeItSo$Drawing"
  | 2 => .object "MadeItSo$Books"
  | 3 => .object "MadeItSo$Weights"
  | 4 => .object "MadeItSo$Total"
  | 5 => .object "MadeItSo$LeastHeaps"
  | 6 => .object "MadeItSo$Lookalikes"
  | 7 => .int
  | 8 => .long
  | _ => .long
abbrev wsX70 : List Cond := u_ws RX7 TX7 10
theorem nmX7 : ∀ a, a < 10 → ∀ b, b < 10 → a ≠ b → (TX7 a).2.1 ≠ (TX7 b).2.1 := by decide +kernel
theorem tyX7_ok : ∀ k, k < 10 → parseFieldDescriptor (TX7 k).2.2.1 = some (tyX7 k) := by decide +kernel
abbrev cX7_init : ByteArray := prog_1_method_1_code
def yX7_init : MethodName := ⟨RX7, "<init>", "()V"⟩
abbrev cX7_thing : ByteArray := prog_1_method_2_code
def yX7_thing : MethodName := ⟨RX7, "thing", "(Z)I"⟩
abbrev cX7_arrow : ByteArray := prog_1_method_3_code
def yX7_arrow : MethodName := ⟨RX7, "arrow", "(II)Z"⟩
abbrev cX7_cut : ByteArray := prog_1_method_4_code
def yX7_cut : MethodName := ⟨RX7, "cut", "(II)Z"⟩
abbrev cX7_turn : ByteArray := prog_1_method_5_code
def yX7_turn : MethodName := ⟨RX7, "turn", "(II)Z"⟩
abbrev cX7_book : ByteArray := prog_1_method_6_code
def yX7_book : MethodName := ⟨RX7, "book", "(III)Z"⟩
abbrev cX7_booked : ByteArray := prog_1_method_7_code
def yX7_booked : MethodName := ⟨RX7, "booked", "(II)I"⟩
abbrev cX7_told : ByteArray := prog_1_method_8_code
def yX7_told : MethodName := ⟨RX7, "told", "(II)I"⟩
abbrev cX7_weight : ByteArray := prog_1_method_9_code
def yX7_weight : MethodName := ⟨RX7, "weight", "(II)J"⟩
abbrev cX7_chance : ByteArray := prog_1_method_10_code
def yX7_chance : MethodName := ⟨RX7, "chance", "(III)I"⟩
abbrev cX7_above : ByteArray := prog_1_method_11_code
def yX7_above : MethodName := ⟨RX7, "above", "()J"⟩
abbrev cX7_below : ByteArray := prog_1_method_12_code
def yX7_below : MethodName := ⟨RX7, "below", "()J"⟩
abbrev cX7_bars : ByteArray := prog_1_method_13_code
def yX7_bars : MethodName := ⟨RX7, "bars", "(III)Z"⟩
abbrev cX7_least : ByteArray := prog_1_method_14_code
def yX7_least : MethodName := ⟨RX7, "least", "(II)I"⟩
abbrev cX7_leastAt : ByteArray := prog_1_method_15_code
def yX7_leastAt : MethodName := ⟨RX7, "leastAt", "(III)I"⟩
abbrev cX7_fit : ByteArray := prog_1_method_16_code
def yX7_fit : MethodName := ⟨RX7, "fit", "(III)Z"⟩
abbrev cX7_agrees : ByteArray := prog_1_method_17_code
def yX7_agrees : MethodName := ⟨RX7, "agrees", "(IIIII)I"⟩
abbrev cX7_alike : ByteArray := prog_1_method_18_code
def yX7_alike : MethodName := ⟨RX7, "alike", "()I"⟩
abbrev cX7_fixed : ByteArray := prog_1_method_19_code
def yX7_fixed : MethodName := ⟨RX7, "fixed", "(II)Z"⟩
abbrev cX7_otherwise : ByteArray := prog_1_method_20_code
def yX7_otherwise : MethodName := ⟨RX7, "otherwise", "(III)J"⟩
abbrev cX7_draw : ByteArray := prog_1_method_21_code
def yX7_draw : MethodName := ⟨RX7, "draw", "(II)I"⟩
abbrev cX7_count : ByteArray := prog_1_method_22_code
def yX7_count : MethodName := ⟨RX7, "count", "(I)I"⟩
abbrev cX7_hasRow : ByteArray := prog_1_method_23_code
def yX7_hasRow : MethodName := ⟨RX7, "hasRow", "(II)Z"⟩
abbrev cX7_areTwo : ByteArray := prog_1_method_24_code
def yX7_areTwo : MethodName := ⟨RX7, "areTwo", "(II)Z"⟩
abbrev cX7_isHeap : ByteArray := prog_1_method_25_code
def yX7_isHeap : MethodName := ⟨RX7, "isHeap", "(I)Z"⟩
abbrev cX7_isSetting : ByteArray := prog_1_method_26_code
def yX7_isSetting : MethodName := ⟨RX7, "isSetting", "(I)Z"⟩
abbrev cX7_sumOver : ByteArray := prog_1_method_27_code
def yX7_sumOver : MethodName := ⟨RX7, "sumOver", "(III)Z"⟩
abbrev cX7_leastOfBoth : ByteArray := prog_1_method_28_code
def yX7_leastOfBoth : MethodName := ⟨RX7, "leastOfBoth", "(IJJ)J"⟩
abbrev cX7_mostOfBoth : ByteArray := prog_1_method_29_code
def yX7_mostOfBoth : MethodName := ⟨RX7, "mostOfBoth", "(IIJJ)J"⟩
abbrev cX7_mostOfNeed : ByteArray := prog_1_method_30_code
def yX7_mostOfNeed : MethodName := ⟨RX7, "mostOfNeed", "(IIJ)J"⟩
abbrev cX7_bit : ByteArray := prog_1_method_31_code
def yX7_bit : MethodName := ⟨RX7, "bit", "(I)I"⟩
abbrev cX7_inHeap : ByteArray := prog_1_method_32_code
def yX7_inHeap : MethodName := ⟨RX7, "inHeap", "(II)Z"⟩
abbrev cX7_isBit : ByteArray := prog_1_method_33_code
def yX7_isBit : MethodName := ⟨RX7, "isBit", "(I)Z"⟩
abbrev cX7_heapOf : ByteArray := prog_1_method_34_code
def yX7_heapOf : MethodName := ⟨RX7, "heapOf", "(I)I"⟩
abbrev cX7_onesOf : ByteArray := prog_1_method_35_code
def yX7_onesOf : MethodName := ⟨RX7, "onesOf", "(I)I"⟩
abbrev cX7_settingOf : ByteArray := prog_1_method_36_code
def yX7_settingOf : MethodName := ⟨RX7, "settingOf", "(II)I"⟩
abbrev cX7_clash : ByteArray := prog_1_method_37_code
def yX7_clash : MethodName := ⟨RX7, "clash", "(II)Z"⟩
abbrev cX7_partsOf : ByteArray := prog_1_method_38_code
def yX7_partsOf : MethodName := ⟨RX7, "partsOf", "(I)I"⟩
abbrev cX7_nextPart : ByteArray := prog_1_method_39_code
def yX7_nextPart : MethodName := ⟨RX7, "nextPart", "(II)I"⟩
abbrev cX7_commonDivisor : ByteArray := prog_1_method_40_code
def yX7_commonDivisor : MethodName := ⟨RX7, "commonDivisor", "(JJ)J"⟩
def RX8 : String := "MadeItSoModel"
def TX8 : u_T := fun k => match k with
  | 0 => ("MadeItSoModel", "many", "I", false)
  | 1 => ("MadeItSoModel", "isSeen", "[Z", true)
  | 2 => ("MadeItSoModel", "parents", "[I", true)
  | 3 => ("MadeItSoModel", "books", "[I", true)
  | 4 => ("MadeItSoModel", "above", "J", false)
  | 5 => ("MadeItSoModel", "below", "J", false)
  | 6 => ("MadeItSoModel", "way", "[I", true)
  | 7 => ("MadeItSoModel", "tried", "[I", true)
  | 8 => ("MadeItSoModel", "isBarring", "[Z", true)
  | 9 => ("MadeItSoModel", "up", "[J", true)
  | 10 => ("MadeItSoModel", "down", "[J", true)
  | 11 => ("MadeItSoModel", "helper", "[J", true)
  | 12 => ("MadeItSoModel", "order", "[I", true)
  | 13 => ("MadeItSoModel", "choice", "[I", true)
  | 14 => ("MadeItSoModel", "parentsThere", "[I", true)
  | 15 => ("MadeItSoModel", "isAlways", "[Z", true)
  | _ => ("MadeItSoModel", "joined", "[I", true)
def tyX8 : Nat → FieldType := fun k => match k with
  | 0 => .int
  | 1 => .array .boolean
  | 2 => .array .int
  | 3 => .array .int
  | 4 => .long
  | 5 => .long
  | 6 => .array .int
  | 7 => .array .int
  | 8 => .array .boolean
  | 9 => .array .long
  | 10 => .array .long
  | 11 => .array .long
  | 12 => .array .int
  | 13 => .array .int
  | 14 => .array .int
  | 15 => .array .boolean
  | _ => .array .int
abbrev wsX80 : List Cond := u_ws RX8 TX8 17
theorem nmX8 : ∀ a, a < 17 → ∀ b, b < 17 → a ≠ b → (TX8 a).2.1 ≠ (TX8 b).2.1 := by decide +kernel
theorem tyX8_ok : ∀ k, k < 17 → parseFieldDescriptor (TX8 k).2.2.1 = some (tyX8 k) := by decide +kernel
abbrev cX8_init : ByteArray := prog_10_method_1_code
def yX8_init : MethodName := ⟨RX8, "<init>", "()V"⟩
abbrev cX8_isThing : ByteArray := prog_10_method_2_code
def yX8_isThing : MethodName := ⟨RX8, "isThing", "(I)Z"⟩
abbrev cX8_isHeap : ByteArray := prog_10_method_3_code
def yX8_isHeap : MethodName := ⟨RX8, "isHeap", "(I)Z"⟩
abbrev cX8_isSetting : ByteArray := prog_10_method_4_code
def yX8_isSetting : MethodName := ⟨RX8, "isSetting", "(I)Z"⟩
abbrev cX8_fresh : ByteArray := prog_10_method_5_code
def yX8_fresh : MethodName := ⟨RX8, "fresh", "(I)V"⟩
abbrev cX8_thing : ByteArray := prog_10_method_6_code
def yX8_thing : MethodName := ⟨RX8, "thing", "(Z)I"⟩
abbrev cX8_has : ByteArray := prog_10_method_7_code
def yX8_has : MethodName := ⟨RX8, "has", "(II)Z"⟩
abbrev cX8_belowOf : ByteArray := prog_10_method_8_code
def yX8_belowOf : MethodName := ⟨RX8, "belowOf", "(II)I"⟩
abbrev cX8_parentsWithout : ByteArray := prog_10_method_9_code
def yX8_parentsWithout : MethodName := ⟨RX8, "parentsWithout", "(III)I"⟩
abbrev cX8_arrow : ByteArray := prog_10_method_10_code
def yX8_arrow : MethodName := ⟨RX8, "arrow", "(II)Z"⟩
abbrev cX8_cut : ByteArray := prog_10_method_11_code
def yX8_cut : MethodName := ⟨RX8, "cut", "(II)Z"⟩
abbrev cX8_turn : ByteArray := prog_10_method_12_code
def yX8_turn : MethodName := ⟨RX8, "turn", "(II)Z"⟩
abbrev cX8_bits : ByteArray := prog_10_method_13_code
def yX8_bits : MethodName := ⟨RX8, "bits", "(I)I"⟩
abbrev cX8_isRow : ByteArray := prog_10_method_14_code
def yX8_isRow : MethodName := ⟨RX8, "isRow", "(II)Z"⟩
abbrev cX8_book : ByteArray := prog_10_method_15_code
def yX8_book : MethodName := ⟨RX8, "book", "(III)Z"⟩
abbrev cX8_booked : ByteArray := prog_10_method_16_code
def yX8_booked : MethodName := ⟨RX8, "booked", "(II)I"⟩
abbrev cX8_told : ByteArray := prog_10_method_17_code
def yX8_told : MethodName := ⟨RX8, "told", "(II)I"⟩
abbrev cX8_partsOf : ByteArray := prog_10_method_18_code
def yX8_partsOf : MethodName := ⟨RX8, "partsOf", "(II)I"⟩
abbrev cX8_weightOf : ByteArray := prog_10_method_19_code
def yX8_weightOf : MethodName := ⟨RX8, "weightOf", "(II)J"⟩
abbrev cX8_sum : ByteArray := prog_10_method_20_code
def yX8_sum : MethodName := ⟨RX8, "sum", "(II)J"⟩
abbrev cX8_weight : ByteArray := prog_10_method_21_code
def yX8_weight : MethodName := ⟨RX8, "weight", "(II)J"⟩
abbrev cX8_shared : ByteArray := prog_10_method_22_code
def yX8_shared : MethodName := ⟨RX8, "shared", "(JJ)J"⟩
abbrev cX8_chance : ByteArray := prog_10_method_23_code
def yX8_chance : MethodName := ⟨RX8, "chance", "(III)I"⟩
abbrev cX8_above : ByteArray := prog_10_method_24_code
def yX8_above : MethodName := ⟨RX8, "above", "()J"⟩
abbrev cX8_below : ByteArray := prog_10_method_25_code
def yX8_below : MethodName := ⟨RX8, "below", "()J"⟩
abbrev cX8_isArrow : ByteArray := prog_10_method_26_code
def yX8_isArrow : MethodName := ⟨RX8, "isArrow", "(IIII)Z"⟩
abbrev cX8_isOpen : ByteArray := prog_10_method_27_code
def yX8_isOpen : MethodName := ⟨RX8, "isOpen", "(IIII)Z"⟩
abbrev cX8_belowWithout : ByteArray := prog_10_method_28_code
def yX8_belowWithout : MethodName := ⟨RX8, "belowWithout", "(III)I"⟩
abbrev cX8_joins : ByteArray := prog_10_method_29_code
def yX8_joins : MethodName := ⟨RX8, "joins", "(IIIII)Z"⟩
abbrev cX8_barred : ByteArray := prog_10_method_30_code
def yX8_barred : MethodName := ⟨RX8, "barred", "(IIIII)Z"⟩
abbrev cX8_bars : ByteArray := prog_10_method_31_code
def yX8_bars : MethodName := ⟨RX8, "bars", "(III)Z"⟩
abbrev cX8_seen : ByteArray := prog_10_method_32_code
def yX8_seen : MethodName := ⟨RX8, "seen", "()I"⟩
abbrev cX8_isLeast : ByteArray := prog_10_method_33_code
def yX8_isLeast : MethodName := ⟨RX8, "isLeast", "(I)Z"⟩
abbrev cX8_works : ByteArray := prog_10_method_34_code
def yX8_works : MethodName := ⟨RX8, "works", "(II)Z"⟩
abbrev cX8_least : ByteArray := prog_10_method_35_code
def yX8_least : MethodName := ⟨RX8, "least", "(II)I"⟩
abbrev cX8_leastAt : ByteArray := prog_10_method_36_code
def yX8_leastAt : MethodName := ⟨RX8, "leastAt", "(III)I"⟩
abbrev cX8_fit : ByteArray := prog_10_method_37_code
def yX8_fit : MethodName := ⟨RX8, "fit", "(III)Z"⟩
abbrev cX8_times : ByteArray := prog_10_method_38_code
def yX8_times : MethodName := ⟨RX8, "times", "([JJ)V"⟩
abbrev cX8_adds : ByteArray := prog_10_method_39_code
def yX8_adds : MethodName := ⟨RX8, "adds", "(JJ)V"⟩
abbrev cX8_withOne : ByteArray := prog_10_method_40_code
def yX8_withOne : MethodName := ⟨RX8, "withOne", "(III)I"⟩
abbrev cX8_agrees : ByteArray := prog_10_method_41_code
def yX8_agrees : MethodName := ⟨RX8, "agrees", "(IIIII)I"⟩
abbrev cX8_meetsLike : ByteArray := prog_10_method_42_code
def yX8_meetsLike : MethodName := ⟨RX8, "meetsLike", "(II)Z"⟩
abbrev cX8_isLeastOrder : ByteArray := prog_10_method_43_code
def yX8_isLeastOrder : MethodName := ⟨RX8, "isLeastOrder", "(II)Z"⟩
abbrev cX8_drawings : ByteArray := prog_10_method_44_code
def yX8_drawings : MethodName := ⟨RX8, "drawings", "()I"⟩
abbrev cX8_alike : ByteArray := prog_10_method_45_code
def yX8_alike : MethodName := ⟨RX8, "alike", "()I"⟩
abbrev cX8_fixed : ByteArray := prog_10_method_46_code
def yX8_fixed : MethodName := ⟨RX8, "fixed", "(II)Z"⟩
abbrev cX8_most : ByteArray := prog_10_method_47_code
def yX8_most : MethodName := ⟨RX8, "most", "(JJ)J"⟩
abbrev cX8_lesser : ByteArray := prog_10_method_48_code
def yX8_lesser : MethodName := ⟨RX8, "lesser", "(JJ)J"⟩
abbrev cX8_otherwise : ByteArray := prog_10_method_49_code
def yX8_otherwise : MethodName := ⟨RX8, "otherwise", "(III)J"⟩
abbrev cX8_draw : ByteArray := prog_10_method_50_code
def yX8_draw : MethodName := ⟨RX8, "draw", "(II)I"⟩
abbrev cX8_count : ByteArray := prog_10_method_51_code
def yX8_count : MethodName := ⟨RX8, "count", "(I)I"⟩
def RJ6 : String := "java/lang/Integer"
def TJ6 : u_T := fun k => match k with
  | _ => ("", "", "", false)
def tyJ6 : Nat → FieldType := fun k => match k with
  | _ => .int
abbrev wsJ60 : List Cond := u_ws RJ6 TJ6 0
theorem nmJ6 : ∀ a, a < 0 → ∀ b, b < 0 → a ≠ b → (TJ6 a).2.1 ≠ (TJ6 b).2.1 := by decide +kernel
theorem tyJ6_ok : ∀ k, k < 0 → parseFieldDescriptor (TJ6 k).2.2.1 = some (tyJ6 k) := by decide +kernel
abbrev cJ6_bitCount_0f7a4 : ByteArray := prog_11_method_49_code
def yJ6_bitCount_0f7a4 : MethodName := ⟨RJ6, "bitCount", "(I)I"⟩
def RJ9 : String := "java/lang/Math"
def TJ9 : u_T := fun k => match k with
  | _ => ("", "", "", false)
def tyJ9 : Nat → FieldType := fun k => match k with
  | _ => .int
abbrev wsJ90 : List Cond := u_ws RJ9 TJ9 0
theorem nmJ9 : ∀ a, a < 0 → ∀ b, b < 0 → a ≠ b → (TJ9 a).2.1 ≠ (TJ9 b).2.1 := by decide +kernel
theorem tyJ9_ok : ∀ k, k < 0 → parseFieldDescriptor (TJ9 k).2.2.1 = some (tyJ9 k) := by decide +kernel
abbrev cJ9_max_7cf53 : ByteArray := prog_12_method_65_code
def yJ9_max_7cf53 : MethodName := ⟨RJ9, "max", "(II)I"⟩
abbrev cJ9_max_f86c9 : ByteArray := prog_12_method_66_code
def yJ9_max_f86c9 : MethodName := ⟨RJ9, "max", "(JJ)J"⟩
abbrev cJ9_min_7cf53 : ByteArray := prog_12_method_69_code
def yJ9_min_7cf53 : MethodName := ⟨RJ9, "min", "(II)I"⟩
abbrev cJ9_min_f86c9 : ByteArray := prog_12_method_70_code
def yJ9_min_f86c9 : MethodName := ⟨RJ9, "min", "(JJ)J"⟩
def RL : String := "MadeItSoLaw"
abbrev cL_law : ByteArray := code
def yL_law : MethodName := ⟨RL, "law", "([I)Z"⟩
def wsX0_init : List Cond := .code yX0_init cX0_init 1 none :: ([.methodLink RX0 3 objectInit, .instanceMethod objectInit, .code objectInit ⟨#[0xb1]⟩ 1 none, .arrayClass .long, .fieldLink RX0 9 "MadeItSo$Big" "limbs" "[J", .fieldLink RX0 13 "MadeItSo$Big" "used" "I"] ++ wsX00)
def wsX0_trim : List Cond := .code yX0_trim cX0_trim 2 none :: ([.fieldLink RX0 13 "MadeItSo$Big" "used" "I", .fieldLink RX0 9 "MadeItSo$Big" "limbs" "[J"] ++ wsX00)
def wsX0_becomeDigit : List Cond := .code yX0_becomeDigit cX0_becomeDigit 3 none :: ([.fieldLink RX0 13 "MadeItSo$Big" "used" "I", .fieldLink RX0 9 "MadeItSo$Big" "limbs" "[J", .methodLink RX0 17 yX0_trim, .instanceMethod yX0_trim, .selects RX0 yX0_trim yX0_trim, .initialized RX0, .code yX0_trim cX0_trim 2 none] ++ wsX00)
def wsX0_become : List Cond := .code yX0_become cX0_become 4 none :: ([.fieldLink RX0 13 "MadeItSo$Big" "used" "I", .methodLink RX0 20 Lib.Math.max.name, .static Lib.Math.max.name, .initialized "java/lang/Math", .code Lib.Math.max.name Lib.Math.max.code 2 (some .int), .fieldLink RX0 9 "MadeItSo$Big" "limbs" "[J"] ++ wsX00)
def wsX0_times : List Cond := .code yX0_times cX0_times 16 none :: ([.constantLong RX0 26 (1073741823), .fieldLink RX0 13 "MadeItSo$Big" "used" "I", .methodLink RX0 28 Lib.Math.min.name, .static Lib.Math.min.name, .initialized "java/lang/Math", .code Lib.Math.min.name Lib.Math.min.code 2 (some .int), .fieldLink RX0 9 "MadeItSo$Big" "limbs" "[J", .methodLink RX0 17 yX0_trim, .instanceMethod yX0_trim, .selects RX0 yX0_trim yX0_trim, .initialized RX0, .code yX0_trim cX0_trim 2 none] ++ wsX00)
def wsX0_plus : List Cond := .code yX0_plus cX0_plus 7 none :: ([.fieldLink RX0 13 "MadeItSo$Big" "used" "I", .methodLink RX0 20 Lib.Math.max.name, .static Lib.Math.max.name, .initialized "java/lang/Math", .code Lib.Math.max.name Lib.Math.max.code 2 (some .int), .methodLink RX0 28 Lib.Math.min.name, .static Lib.Math.min.name, .code Lib.Math.min.name Lib.Math.min.code 2 (some .int), .fieldLink RX0 9 "MadeItSo$Big" "limbs" "[J", .constantLong RX0 26 (1073741823), .methodLink RX0 17 yX0_trim, .instanceMethod yX0_trim, .selects RX0 yX0_trim yX0_trim, .initialized RX0, .code yX0_trim cX0_trim 2 none] ++ wsX00)
def wsX0_same : List Cond := .code yX0_same cX0_same 3 (some .boolean) :: ([.fieldLink RX0 13 "MadeItSo$Big" "used" "I", .fieldLink RX0 9 "MadeItSo$Big" "limbs" "[J"] ++ wsX00)
def wsX1_init : List Cond := .code yX1_init cX1_init 1 none :: ([.methodLink RX1 3 objectInit, .instanceMethod objectInit, .code objectInit ⟨#[0xb1]⟩ 1 none, .arrayClass .int, .fieldLink RX1 9 "MadeItSo$Books" "parts" "[I"] ++ wsX10)
def wsX1_blank : List Cond := .code yX1_blank cX1_blank 3 none :: ([.fieldLink RX1 9 "MadeItSo$Books" "parts" "[I"] ++ wsX10)
def wsX1_isPlace : List Cond := .code yX1_isPlace cX1_isPlace 2 (some .boolean) :: ([])
def wsX1_write : List Cond := .code yX1_write cX1_write 4 none :: ([.fieldLink RX1 9 "MadeItSo$Books" "parts" "[I", .methodLink RX1 15 yX1_isPlace, .static yX1_isPlace, .initialized RX1, .code yX1_isPlace cX1_isPlace 2 (some .boolean)] ++ wsX10)
def wsX1_read : List Cond := .code yX1_read cX1_read 3 (some .int) :: ([.fieldLink RX1 9 "MadeItSo$Books" "parts" "[I", .methodLink RX1 15 yX1_isPlace, .static yX1_isPlace, .initialized RX1, .code yX1_isPlace cX1_isPlace 2 (some .boolean)] ++ wsX10)
def wsX7_heapOf : List Cond := .code yX7_heapOf cX7_heapOf 1 (some .int) :: ([])
def wsX7_inHeap : List Cond := .code yX7_inHeap cX7_inHeap 2 (some .boolean) :: ([])
def wsX7_onesOf : List Cond := .code yX7_onesOf cX7_onesOf 1 (some .int) :: ([])
def wsX2_has : List Cond := .code yX2_has cX2_has 2 (some .boolean) :: ([.fieldLink RX2 18 "MadeItSo$Drawing" "things" "I"] ++ wsX20)
def wsX2_parentsOf : List Cond := .code yX2_parentsOf cX2_parentsOf 2 (some .int) :: ([.fieldLink RX2 9 "MadeItSo$Drawing" "parents" "[I", .methodLink RX2 22 yX2_has, .instanceMethod yX2_has, .selects RX2 yX2_has yX2_has, .initialized RX2, .code yX2_has cX2_has 2 (some .boolean), .fieldLink RX2 18 "MadeItSo$Drawing" "things" "I"] ++ wsX20)
def wsX1_rowOf : List Cond := .code yX1_rowOf cX1_rowOf 5 (some .int) :: ([.static yX7_inHeap, .initialized RX7, .code yX7_inHeap cX7_inHeap 2 (some .boolean)])
def wsX1_partsUnder_r1 : List Cond := [Cond.static yX7_heapOf, Cond.initialized RX7, Cond.code yX7_heapOf cX7_heapOf 1 (some .int), Cond.static yX7_inHeap, Cond.code yX7_inHeap cX7_inHeap 2 (some .boolean), Cond.static yX7_onesOf, Cond.code yX7_onesOf cX7_onesOf 1 (some .int), Cond.methodLink RX1 29 yX2_parentsOf, Cond.instanceMethod yX2_parentsOf, Cond.selects RX2 yX2_parentsOf yX2_parentsOf, Cond.initialized RX2, Cond.code yX2_parentsOf cX2_parentsOf 2 (some .int), Cond.fieldLink RX2 9 "MadeItSo$Drawing" "parents" "[I", Cond.methodLink RX2 22 yX2_has, Cond.instanceMethod yX2_has, Cond.selects RX2 yX2_has yX2_has, Cond.code yX2_has cX2_has 2 (some .boolean), Cond.fieldLink RX2 18 "MadeItSo$Drawing" "things" "I", Cond.methodLink RX1 34 yX1_rowOf, Cond.static yX1_rowOf, Cond.initialized RX1, Cond.code yX1_rowOf cX1_rowOf 5 (some .int), Cond.methodLink RX1 38 yX1_read, Cond.instanceMethod yX1_read]
def wsX1_partsUnder_r2 : List Cond := [Cond.selects RX1 yX1_read yX1_read, Cond.code yX1_read cX1_read 3 (some .int), Cond.fieldLink RX1 9 "MadeItSo$Books" "parts" "[I", Cond.methodLink RX1 15 yX1_isPlace, Cond.static yX1_isPlace, Cond.code yX1_isPlace cX1_isPlace 2 (some .boolean)]
def wsX1_partsUnder : List Cond := .code yX1_partsUnder cX1_partsUnder 5 (some .int) :: ((wsX1_partsUnder_r1 ++ wsX1_partsUnder_r2) ++ wsX20 ++ wsX10)
def wsX2_init : List Cond := .code yX2_init cX2_init 1 none :: ([.methodLink RX2 3 objectInit, .instanceMethod objectInit, .code objectInit ⟨#[0xb1]⟩ 1 none, .arrayClass .int, .fieldLink RX2 9 "MadeItSo$Drawing" "parents" "[I", .fieldLink RX2 15 "MadeItSo$Drawing" "children" "[I", .fieldLink RX2 18 "MadeItSo$Drawing" "things" "I"] ++ wsX20)
def wsX2_size : List Cond := .code yX2_size cX2_size 1 (some .int) :: ([.fieldLink RX2 18 "MadeItSo$Drawing" "things" "I"] ++ wsX20)
def wsX2_everything : List Cond := .code yX2_everything cX2_everything 1 (some .int) :: ([.fieldLink RX2 18 "MadeItSo$Drawing" "things" "I"] ++ wsX20)
def wsX2_grow : List Cond := .code yX2_grow cX2_grow 1 (some .int) :: ([.fieldLink RX2 18 "MadeItSo$Drawing" "things" "I"] ++ wsX20)
def wsX2_childrenOf : List Cond := .code yX2_childrenOf cX2_childrenOf 2 (some .int) :: ([.fieldLink RX2 15 "MadeItSo$Drawing" "children" "[I", .methodLink RX2 22 yX2_has, .instanceMethod yX2_has, .selects RX2 yX2_has yX2_has, .initialized RX2, .code yX2_has cX2_has 2 (some .boolean), .fieldLink RX2 18 "MadeItSo$Drawing" "things" "I"] ++ wsX20)
def wsX2_joinedTo : List Cond := .code yX2_joinedTo cX2_joinedTo 2 (some .int) :: ([.fieldLink RX2 9 "MadeItSo$Drawing" "parents" "[I", .fieldLink RX2 15 "MadeItSo$Drawing" "children" "[I", .methodLink RX2 22 yX2_has, .instanceMethod yX2_has, .selects RX2 yX2_has yX2_has, .initialized RX2, .code yX2_has cX2_has 2 (some .boolean), .fieldLink RX2 18 "MadeItSo$Drawing" "things" "I"] ++ wsX20)
def wsX2_leads : List Cond := .code yX2_leads cX2_leads 3 (some .boolean) :: ([.fieldLink RX2 15 "MadeItSo$Drawing" "children" "[I", .methodLink RX2 22 yX2_has, .instanceMethod yX2_has, .selects RX2 yX2_has yX2_has, .initialized RX2, .code yX2_has cX2_has 2 (some .boolean), .fieldLink RX2 18 "MadeItSo$Drawing" "things" "I", .static yX7_inHeap, .initialized RX7, .code yX7_inHeap cX7_inHeap 2 (some .boolean)] ++ wsX20)
def wsX2_gather : List Cond := .code yX2_gather cX2_gather 4 (some .int) :: ([.static yX7_inHeap, .initialized RX7, .code yX7_inHeap cX7_inHeap 2 (some .boolean)])
def wsX2_spread : List Cond := .code yX2_spread cX2_spread 6 (some .int) :: ([.methodLink RX2 55 yX2_gather, .static yX2_gather, .initialized RX2, .code yX2_gather cX2_gather 4 (some .int), .static yX7_inHeap, .initialized RX7, .code yX7_inHeap cX7_inHeap 2 (some .boolean)])
def wsX2_withAllBelow : List Cond := .code yX2_withAllBelow cX2_withAllBelow 2 (some .int) :: ([.fieldLink RX2 15 "MadeItSo$Drawing" "children" "[I", .methodLink RX2 51 yX2_spread, .instanceMethod yX2_spread, .selects RX2 yX2_spread yX2_spread, .initialized RX2, .code yX2_spread cX2_spread 6 (some .int), .methodLink RX2 55 yX2_gather, .static yX2_gather, .code yX2_gather cX2_gather 4 (some .int), .static yX7_inHeap, .initialized RX7, .code yX7_inHeap cX7_inHeap 2 (some .boolean)] ++ wsX20)
def wsX2_allBelow_r1 : List Cond := [Cond.methodLink RX2 45 yX2_childrenOf, Cond.instanceMethod yX2_childrenOf, Cond.selects RX2 yX2_childrenOf yX2_childrenOf, Cond.initialized RX2, Cond.code yX2_childrenOf cX2_childrenOf 2 (some .int), Cond.fieldLink RX2 15 "MadeItSo$Drawing" "children" "[I", Cond.methodLink RX2 22 yX2_has, Cond.instanceMethod yX2_has, Cond.selects RX2 yX2_has yX2_has, Cond.code yX2_has cX2_has 2 (some .boolean), Cond.fieldLink RX2 18 "MadeItSo$Drawing" "things" "I", Cond.methodLink RX2 48 yX2_withAllBelow, Cond.instanceMethod yX2_withAllBelow, Cond.selects RX2 yX2_withAllBelow yX2_withAllBelow, Cond.code yX2_withAllBelow cX2_withAllBelow 2 (some .int), Cond.methodLink RX2 51 yX2_spread, Cond.instanceMethod yX2_spread, Cond.selects RX2 yX2_spread yX2_spread, Cond.code yX2_spread cX2_spread 6 (some .int), Cond.methodLink RX2 55 yX2_gather, Cond.static yX2_gather, Cond.code yX2_gather cX2_gather 4 (some .int), Cond.static yX7_inHeap, Cond.initialized RX7]
def wsX2_allBelow_r2 : List Cond := [Cond.code yX7_inHeap cX7_inHeap 2 (some .boolean)]
def wsX2_allBelow : List Cond := .code yX2_allBelow cX2_allBelow 2 (some .int) :: ((wsX2_allBelow_r1 ++ wsX2_allBelow_r2) ++ wsX20)
def wsX2_canJoin_r1 : List Cond := [Cond.methodLink RX2 30 yX2_joinedTo, Cond.instanceMethod yX2_joinedTo, Cond.selects RX2 yX2_joinedTo yX2_joinedTo, Cond.initialized RX2, Cond.code yX2_joinedTo cX2_joinedTo 2 (some .int), Cond.fieldLink RX2 9 "MadeItSo$Drawing" "parents" "[I", Cond.fieldLink RX2 15 "MadeItSo$Drawing" "children" "[I", Cond.methodLink RX2 22 yX2_has, Cond.instanceMethod yX2_has, Cond.selects RX2 yX2_has yX2_has, Cond.code yX2_has cX2_has 2 (some .boolean), Cond.fieldLink RX2 18 "MadeItSo$Drawing" "things" "I", Cond.static yX7_inHeap, Cond.initialized RX7, Cond.code yX7_inHeap cX7_inHeap 2 (some .boolean), Cond.methodLink RX2 34 yX2_allBelow, Cond.instanceMethod yX2_allBelow, Cond.selects RX2 yX2_allBelow yX2_allBelow, Cond.code yX2_allBelow cX2_allBelow 2 (some .int), Cond.methodLink RX2 45 yX2_childrenOf, Cond.instanceMethod yX2_childrenOf, Cond.selects RX2 yX2_childrenOf yX2_childrenOf, Cond.code yX2_childrenOf cX2_childrenOf 2 (some .int), Cond.methodLink RX2 48 yX2_withAllBelow]
def wsX2_canJoin_r2 : List Cond := [Cond.instanceMethod yX2_withAllBelow, Cond.selects RX2 yX2_withAllBelow yX2_withAllBelow, Cond.code yX2_withAllBelow cX2_withAllBelow 2 (some .int), Cond.methodLink RX2 51 yX2_spread, Cond.instanceMethod yX2_spread, Cond.selects RX2 yX2_spread yX2_spread, Cond.code yX2_spread cX2_spread 6 (some .int), Cond.methodLink RX2 55 yX2_gather, Cond.static yX2_gather, Cond.code yX2_gather cX2_gather 4 (some .int)]
def wsX2_canJoin : List Cond := .code yX2_canJoin cX2_canJoin 3 (some .boolean) :: ((wsX2_canJoin_r1 ++ wsX2_canJoin_r2) ++ wsX20)
def wsX7_bit : List Cond := .code yX7_bit cX7_bit 1 (some .int) :: ([])
def wsX2_join : List Cond := .code yX2_join cX2_join 3 none :: ([.fieldLink RX2 15 "MadeItSo$Drawing" "children" "[I", .fieldLink RX2 9 "MadeItSo$Drawing" "parents" "[I", .methodLink RX2 22 yX2_has, .instanceMethod yX2_has, .selects RX2 yX2_has yX2_has, .initialized RX2, .code yX2_has cX2_has 2 (some .boolean), .fieldLink RX2 18 "MadeItSo$Drawing" "things" "I", .static yX7_bit, .initialized RX7, .code yX7_bit cX7_bit 1 (some .int)] ++ wsX20)
def wsX2_part : List Cond := .code yX2_part cX2_part 3 none :: ([.fieldLink RX2 15 "MadeItSo$Drawing" "children" "[I", .fieldLink RX2 9 "MadeItSo$Drawing" "parents" "[I", .methodLink RX2 22 yX2_has, .instanceMethod yX2_has, .selects RX2 yX2_has yX2_has, .initialized RX2, .code yX2_has cX2_has 2 (some .boolean), .fieldLink RX2 18 "MadeItSo$Drawing" "things" "I", .static yX7_bit, .initialized RX7, .code yX7_bit cX7_bit 1 (some .int)] ++ wsX20)
def wsJ6_bitCount_0f7a4 : List Cond := .code yJ6_bitCount_0f7a4 cJ6_bitCount_0f7a4 1 (some .int) :: ([.constant RJ6 265 (1431655765), .constant RJ6 266 (858993459), .constant RJ6 267 (252645135)])
def wsX2_arrows : List Cond := .code yX2_arrows cX2_arrows 3 (some .int) :: ([.fieldLink RX2 18 "MadeItSo$Drawing" "things" "I", .fieldLink RX2 9 "MadeItSo$Drawing" "parents" "[I", .methodLink RX2 40 yJ6_bitCount_0f7a4, .static yJ6_bitCount_0f7a4, .initialized RJ6, .code yJ6_bitCount_0f7a4 cJ6_bitCount_0f7a4 1 (some .int), .constant RJ6 265 (1431655765), .constant RJ6 266 (858993459), .constant RJ6 267 (252645135)] ++ wsX20)
def wsX2_road_r1 : List Cond := [Cond.fieldLink RX2 9 "MadeItSo$Drawing" "parents" "[I", Cond.methodLink RX2 34 yX2_allBelow, Cond.instanceMethod yX2_allBelow, Cond.selects RX2 yX2_allBelow yX2_allBelow, Cond.initialized RX2, Cond.code yX2_allBelow cX2_allBelow 2 (some .int), Cond.methodLink RX2 45 yX2_childrenOf, Cond.instanceMethod yX2_childrenOf, Cond.selects RX2 yX2_childrenOf yX2_childrenOf, Cond.code yX2_childrenOf cX2_childrenOf 2 (some .int), Cond.fieldLink RX2 15 "MadeItSo$Drawing" "children" "[I", Cond.methodLink RX2 22 yX2_has, Cond.instanceMethod yX2_has, Cond.selects RX2 yX2_has yX2_has, Cond.code yX2_has cX2_has 2 (some .boolean), Cond.fieldLink RX2 18 "MadeItSo$Drawing" "things" "I", Cond.methodLink RX2 48 yX2_withAllBelow, Cond.instanceMethod yX2_withAllBelow, Cond.selects RX2 yX2_withAllBelow yX2_withAllBelow, Cond.code yX2_withAllBelow cX2_withAllBelow 2 (some .int), Cond.methodLink RX2 51 yX2_spread, Cond.instanceMethod yX2_spread, Cond.selects RX2 yX2_spread yX2_spread, Cond.code yX2_spread cX2_spread 6 (some .int)]
def wsX2_road_r2 : List Cond := [Cond.methodLink RX2 55 yX2_gather, Cond.static yX2_gather, Cond.code yX2_gather cX2_gather 4 (some .int), Cond.static yX7_inHeap, Cond.initialized RX7, Cond.code yX7_inHeap cX7_inHeap 2 (some .boolean), Cond.static yX7_bit, Cond.code yX7_bit cX7_bit 1 (some .int)]
def wsX2_road : List Cond := .code yX2_road cX2_road 3 (some .int) :: ((wsX2_road_r1 ++ wsX2_road_r2) ++ wsX20)
def wsX2_nextAfter : List Cond := .code yX2_nextAfter cX2_nextAfter 3 (some .int) :: ([.fieldLink RX2 18 "MadeItSo$Drawing" "things" "I", .fieldLink RX2 9 "MadeItSo$Drawing" "parents" "[I", .static yX7_inHeap, .initialized RX7, .code yX7_inHeap cX7_inHeap 2 (some .boolean)] ++ wsX20)
def wsX2_copyWithout : List Cond := .code yX2_copyWithout cX2_copyWithout 5 none :: ([.fieldLink RX2 18 "MadeItSo$Drawing" "things" "I", .fieldLink RX2 9 "MadeItSo$Drawing" "parents" "[I", .fieldLink RX2 15 "MadeItSo$Drawing" "children" "[I", .static yX7_inHeap, .initialized RX7, .code yX7_inHeap cX7_inHeap 2 (some .boolean), .static yX7_bit, .code yX7_bit cX7_bit 1 (some .int)] ++ wsX20)
def wsX2_barred : List Cond := .code yX2_barred cX2_barred 12 (some .boolean) :: ([.fieldLink RX2 9 "MadeItSo$Drawing" "parents" "[I", .fieldLink RX2 15 "MadeItSo$Drawing" "children" "[I", .methodLink RX2 51 yX2_spread, .instanceMethod yX2_spread, .selects RX2 yX2_spread yX2_spread, .initialized RX2, .code yX2_spread cX2_spread 6 (some .int), .methodLink RX2 55 yX2_gather, .static yX2_gather, .code yX2_gather cX2_gather 4 (some .int), .static yX7_inHeap, .initialized RX7, .code yX7_inHeap cX7_inHeap 2 (some .boolean)] ++ wsX20)
def wsX2_apart : List Cond := .code yX2_apart cX2_apart 3 (some .boolean) :: ([.fieldLink RX2 18 "MadeItSo$Drawing" "things" "I", .static yX7_inHeap, .initialized RX7, .code yX7_inHeap cX7_inHeap 2 (some .boolean), .methodLink RX2 30 yX2_joinedTo, .instanceMethod yX2_joinedTo, .selects RX2 yX2_joinedTo yX2_joinedTo, .initialized RX2, .code yX2_joinedTo cX2_joinedTo 2 (some .int), .fieldLink RX2 9 "MadeItSo$Drawing" "parents" "[I", .fieldLink RX2 15 "MadeItSo$Drawing" "children" "[I", .methodLink RX2 22 yX2_has, .instanceMethod yX2_has, .selects RX2 yX2_has yX2_has, .code yX2_has cX2_has 2 (some .boolean)] ++ wsX20)
def wsX2_unjoinedWith : List Cond := .code yX2_unjoinedWith cX2_unjoinedWith 3 (some .int) :: ([.static yX7_inHeap, .initialized RX7, .code yX7_inHeap cX7_inHeap 2 (some .boolean), .methodLink RX2 30 yX2_joinedTo, .instanceMethod yX2_joinedTo, .selects RX2 yX2_joinedTo yX2_joinedTo, .initialized RX2, .code yX2_joinedTo cX2_joinedTo 2 (some .int), .fieldLink RX2 9 "MadeItSo$Drawing" "parents" "[I", .fieldLink RX2 15 "MadeItSo$Drawing" "children" "[I", .methodLink RX2 22 yX2_has, .instanceMethod yX2_has, .selects RX2 yX2_has yX2_has, .code yX2_has cX2_has 2 (some .boolean), .fieldLink RX2 18 "MadeItSo$Drawing" "things" "I", .static yX7_bit, .code yX7_bit cX7_bit 1 (some .int)] ++ wsX20)
def wsX2_sameThirds_r1 : List Cond := [Cond.fieldLink RX2 18 "MadeItSo$Drawing" "things" "I", Cond.methodLink RX2 58 yX2_parentsOf, Cond.instanceMethod yX2_parentsOf, Cond.selects RX2 yX2_parentsOf yX2_parentsOf, Cond.initialized RX2, Cond.code yX2_parentsOf cX2_parentsOf 2 (some .int), Cond.fieldLink RX2 9 "MadeItSo$Drawing" "parents" "[I", Cond.methodLink RX2 22 yX2_has, Cond.instanceMethod yX2_has, Cond.selects RX2 yX2_has yX2_has, Cond.code yX2_has cX2_has 2 (some .boolean), Cond.static yX7_inHeap, Cond.initialized RX7, Cond.code yX7_inHeap cX7_inHeap 2 (some .boolean), Cond.methodLink RX2 61 yX2_unjoinedWith, Cond.instanceMethod yX2_unjoinedWith, Cond.selects RX2 yX2_unjoinedWith yX2_unjoinedWith, Cond.code yX2_unjoinedWith cX2_unjoinedWith 3 (some .int), Cond.methodLink RX2 30 yX2_joinedTo, Cond.instanceMethod yX2_joinedTo, Cond.selects RX2 yX2_joinedTo yX2_joinedTo, Cond.code yX2_joinedTo cX2_joinedTo 2 (some .int), Cond.fieldLink RX2 15 "MadeItSo$Drawing" "children" "[I", Cond.static yX7_bit]
def wsX2_sameThirds_r2 : List Cond := [Cond.code yX7_bit cX7_bit 1 (some .int)]
def wsX2_sameThirds : List Cond := .code yX2_sameThirds cX2_sameThirds 5 (some .boolean) :: ((wsX2_sameThirds_r1 ++ wsX2_sameThirds_r2) ++ wsX20)
def wsX3_init : List Cond := .code yX3_init cX3_init 1 none :: ([.methodLink RX3 3 objectInit, .instanceMethod objectInit, .code objectInit ⟨#[0xb1]⟩ 1 none, .arrayClass .int, .fieldLink RX3 9 "MadeItSo$LeastHeaps" "found" "[I", .fieldLink RX3 15 "MadeItSo$LeastHeaps" "many" "I"] ++ wsX30)
def wsX7_partsOf : List Cond := .code yX7_partsOf cX7_partsOf 1 (some .int) :: ([.methodLink RX7 239 yJ6_bitCount_0f7a4, .static yJ6_bitCount_0f7a4, .initialized RJ6, .code yJ6_bitCount_0f7a4 cJ6_bitCount_0f7a4 1 (some .int), .constant RJ6 265 (1431655765), .constant RJ6 266 (858993459), .constant RJ6 267 (252645135)])
def wsX3_holdsOne : List Cond := .code yX3_holdsOne cX3_holdsOne 3 (some .boolean) :: ([.fieldLink RX3 15 "MadeItSo$LeastHeaps" "many" "I", .fieldLink RX3 9 "MadeItSo$LeastHeaps" "found" "[I"] ++ wsX30)
def wsX7_nextPart : List Cond := .code yX7_nextPart cX7_nextPart 2 (some .int) :: ([])
def wsX3_seek_r1 : List Cond := [Cond.fieldLink RX3 15 "MadeItSo$LeastHeaps" "many" "I", Cond.fieldLink RX3 9 "MadeItSo$LeastHeaps" "found" "[I", Cond.static yX7_bit, Cond.initialized RX7, Cond.code yX7_bit cX7_bit 1 (some .int), Cond.static yX7_partsOf, Cond.code yX7_partsOf cX7_partsOf 1 (some .int), Cond.methodLink RX7 239 yJ6_bitCount_0f7a4, Cond.static yJ6_bitCount_0f7a4, Cond.initialized RJ6, Cond.code yJ6_bitCount_0f7a4 cJ6_bitCount_0f7a4 1 (some .int), Cond.constant RJ6 265 (1431655765), Cond.constant RJ6 266 (858993459), Cond.constant RJ6 267 (252645135), Cond.methodLink RX3 26 yX3_holdsOne, Cond.instanceMethod yX3_holdsOne, Cond.selects RX3 yX3_holdsOne yX3_holdsOne, Cond.initialized RX3, Cond.code yX3_holdsOne cX3_holdsOne 3 (some .boolean), Cond.methodLink RX3 30 yX2_barred, Cond.instanceMethod yX2_barred, Cond.selects RX2 yX2_barred yX2_barred, Cond.initialized RX2, Cond.code yX2_barred cX2_barred 12 (some .boolean)]
def wsX3_seek_r2 : List Cond := [Cond.fieldLink RX2 9 "MadeItSo$Drawing" "parents" "[I", Cond.fieldLink RX2 15 "MadeItSo$Drawing" "children" "[I", Cond.methodLink RX2 51 yX2_spread, Cond.instanceMethod yX2_spread, Cond.selects RX2 yX2_spread yX2_spread, Cond.code yX2_spread cX2_spread 6 (some .int), Cond.methodLink RX2 55 yX2_gather, Cond.static yX2_gather, Cond.code yX2_gather cX2_gather 4 (some .int), Cond.static yX7_inHeap, Cond.code yX7_inHeap cX7_inHeap 2 (some .boolean), Cond.static yX7_nextPart, Cond.code yX7_nextPart cX7_nextPart 2 (some .int)]
def wsX3_seek : List Cond := .code yX3_seek cX3_seek 9 none :: ((wsX3_seek_r1 ++ wsX3_seek_r2) ++ wsX30 ++ wsX20)
def wsX3_size : List Cond := .code yX3_size cX3_size 1 (some .int) :: ([.fieldLink RX3 15 "MadeItSo$LeastHeaps" "many" "I"] ++ wsX30)
def wsX3_at : List Cond := .code yX3_at cX3_at 2 (some .int) :: ([.fieldLink RX3 15 "MadeItSo$LeastHeaps" "many" "I", .fieldLink RX3 9 "MadeItSo$LeastHeaps" "found" "[I"] ++ wsX30)
def wsX4_init : List Cond := .code yX4_init cX4_init 1 none :: ([.methodLink RX4 3 objectInit, .instanceMethod objectInit, .code objectInit ⟨#[0xb1]⟩ 1 none, .arrayClass .int, .fieldLink RX4 9 "MadeItSo$Lookalikes" "waysOf" "[I"] ++ wsX40)
def wsX4_canBeLast_r1 : List Cond := [Cond.methodLink RX4 53 yX2_size, Cond.instanceMethod yX2_size, Cond.selects RX2 yX2_size yX2_size, Cond.initialized RX2, Cond.code yX2_size cX2_size 1 (some .int), Cond.fieldLink RX2 18 "MadeItSo$Drawing" "things" "I", Cond.static yX7_inHeap, Cond.initialized RX7, Cond.code yX7_inHeap cX7_inHeap 2 (some .boolean), Cond.methodLink RX4 56 yX2_joinedTo, Cond.instanceMethod yX2_joinedTo, Cond.selects RX2 yX2_joinedTo yX2_joinedTo, Cond.code yX2_joinedTo cX2_joinedTo 2 (some .int), Cond.fieldLink RX2 9 "MadeItSo$Drawing" "parents" "[I", Cond.fieldLink RX2 15 "MadeItSo$Drawing" "children" "[I", Cond.methodLink RX2 22 yX2_has, Cond.instanceMethod yX2_has, Cond.selects RX2 yX2_has yX2_has, Cond.code yX2_has cX2_has 2 (some .boolean), Cond.methodLink RX4 59 yX2_sameThirds, Cond.instanceMethod yX2_sameThirds, Cond.selects RX2 yX2_sameThirds yX2_sameThirds, Cond.code yX2_sameThirds cX2_sameThirds 5 (some .boolean), Cond.methodLink RX2 58 yX2_parentsOf]
def wsX4_canBeLast_r2 : List Cond := [Cond.instanceMethod yX2_parentsOf, Cond.selects RX2 yX2_parentsOf yX2_parentsOf, Cond.code yX2_parentsOf cX2_parentsOf 2 (some .int), Cond.methodLink RX2 61 yX2_unjoinedWith, Cond.instanceMethod yX2_unjoinedWith, Cond.selects RX2 yX2_unjoinedWith yX2_unjoinedWith, Cond.code yX2_unjoinedWith cX2_unjoinedWith 3 (some .int), Cond.methodLink RX2 30 yX2_joinedTo, Cond.static yX7_bit, Cond.code yX7_bit cX7_bit 1 (some .int)]
def wsX4_canBeLast : List Cond := .code yX4_canBeLast cX4_canBeLast 4 (some .int) :: ((wsX4_canBeLast_r1 ++ wsX4_canBeLast_r2) ++ wsX20)
def wsX4_waysEndingIn_r1 : List Cond := [Cond.fieldLink RX4 9 "MadeItSo$Lookalikes" "waysOf" "[I", Cond.static yX7_partsOf, Cond.initialized RX7, Cond.code yX7_partsOf cX7_partsOf 1 (some .int), Cond.methodLink RX7 239 yJ6_bitCount_0f7a4, Cond.static yJ6_bitCount_0f7a4, Cond.initialized RJ6, Cond.code yJ6_bitCount_0f7a4 cJ6_bitCount_0f7a4 1 (some .int), Cond.constant RJ6 265 (1431655765), Cond.constant RJ6 266 (858993459), Cond.constant RJ6 267 (252645135), Cond.static yX7_nextPart, Cond.code yX7_nextPart cX7_nextPart 2 (some .int), Cond.methodLink RX4 44 yX2_apart, Cond.instanceMethod yX2_apart, Cond.selects RX2 yX2_apart yX2_apart, Cond.initialized RX2, Cond.code yX2_apart cX2_apart 3 (some .boolean), Cond.fieldLink RX2 18 "MadeItSo$Drawing" "things" "I", Cond.static yX7_inHeap, Cond.code yX7_inHeap cX7_inHeap 2 (some .boolean), Cond.methodLink RX2 30 yX2_joinedTo, Cond.instanceMethod yX2_joinedTo, Cond.selects RX2 yX2_joinedTo yX2_joinedTo]
def wsX4_waysEndingIn_r2 : List Cond := [Cond.code yX2_joinedTo cX2_joinedTo 2 (some .int), Cond.fieldLink RX2 9 "MadeItSo$Drawing" "parents" "[I", Cond.fieldLink RX2 15 "MadeItSo$Drawing" "children" "[I", Cond.methodLink RX2 22 yX2_has, Cond.instanceMethod yX2_has, Cond.selects RX2 yX2_has yX2_has, Cond.code yX2_has cX2_has 2 (some .boolean), Cond.methodLink RX4 48 yJ6_bitCount_0f7a4]
def wsX4_waysEndingIn : List Cond := .code yX4_waysEndingIn cX4_waysEndingIn 9 (some .int) :: ((wsX4_waysEndingIn_r1 ++ wsX4_waysEndingIn_r2) ++ wsX40 ++ wsX20)
def wsX4_reckon_r1 : List Cond := [Cond.fieldLink RX4 9 "MadeItSo$Lookalikes" "waysOf" "[I", Cond.methodLink RX4 15 yX2_everything, Cond.instanceMethod yX2_everything, Cond.selects RX2 yX2_everything yX2_everything, Cond.initialized RX2, Cond.code yX2_everything cX2_everything 1 (some .int), Cond.fieldLink RX2 18 "MadeItSo$Drawing" "things" "I", Cond.methodLink RX4 21 yX4_canBeLast, Cond.static yX4_canBeLast, Cond.initialized RX4, Cond.code yX4_canBeLast cX4_canBeLast 4 (some .int), Cond.methodLink RX4 53 yX2_size, Cond.instanceMethod yX2_size, Cond.selects RX2 yX2_size yX2_size, Cond.code yX2_size cX2_size 1 (some .int), Cond.static yX7_inHeap, Cond.initialized RX7, Cond.code yX7_inHeap cX7_inHeap 2 (some .boolean), Cond.methodLink RX4 56 yX2_joinedTo, Cond.instanceMethod yX2_joinedTo, Cond.selects RX2 yX2_joinedTo yX2_joinedTo, Cond.code yX2_joinedTo cX2_joinedTo 2 (some .int), Cond.fieldLink RX2 9 "MadeItSo$Drawing" "parents" "[I", Cond.fieldLink RX2 15 "MadeItSo$Drawing" "children" "[I"]
def wsX4_reckon_r2 : List Cond := [Cond.methodLink RX2 22 yX2_has, Cond.instanceMethod yX2_has, Cond.selects RX2 yX2_has yX2_has, Cond.code yX2_has cX2_has 2 (some .boolean), Cond.methodLink RX4 59 yX2_sameThirds, Cond.instanceMethod yX2_sameThirds, Cond.selects RX2 yX2_sameThirds yX2_sameThirds, Cond.code yX2_sameThirds cX2_sameThirds 5 (some .boolean), Cond.methodLink RX2 58 yX2_parentsOf, Cond.instanceMethod yX2_parentsOf, Cond.selects RX2 yX2_parentsOf yX2_parentsOf, Cond.code yX2_parentsOf cX2_parentsOf 2 (some .int), Cond.methodLink RX2 61 yX2_unjoinedWith, Cond.instanceMethod yX2_unjoinedWith, Cond.selects RX2 yX2_unjoinedWith yX2_unjoinedWith, Cond.code yX2_unjoinedWith cX2_unjoinedWith 3 (some .int), Cond.methodLink RX2 30 yX2_joinedTo, Cond.static yX7_bit, Cond.code yX7_bit cX7_bit 1 (some .int), Cond.methodLink RX4 33 yX4_waysEndingIn, Cond.instanceMethod yX4_waysEndingIn, Cond.selects RX4 yX4_waysEndingIn yX4_waysEndingIn, Cond.code yX4_waysEndingIn cX4_waysEndingIn 9 (some .int), Cond.static yX7_partsOf]
def wsX4_reckon_r3 : List Cond := [Cond.code yX7_partsOf cX7_partsOf 1 (some .int), Cond.methodLink RX7 239 yJ6_bitCount_0f7a4, Cond.static yJ6_bitCount_0f7a4, Cond.initialized RJ6, Cond.code yJ6_bitCount_0f7a4 cJ6_bitCount_0f7a4 1 (some .int), Cond.constant RJ6 265 (1431655765), Cond.constant RJ6 266 (858993459), Cond.constant RJ6 267 (252645135), Cond.static yX7_nextPart, Cond.code yX7_nextPart cX7_nextPart 2 (some .int), Cond.methodLink RX4 44 yX2_apart, Cond.instanceMethod yX2_apart, Cond.selects RX2 yX2_apart yX2_apart, Cond.code yX2_apart cX2_apart 3 (some .boolean), Cond.methodLink RX4 48 yJ6_bitCount_0f7a4]
def wsX4_reckon : List Cond := .code yX4_reckon cX4_reckon 7 (some .int) :: ((wsX4_reckon_r1 ++ (wsX4_reckon_r2 ++ wsX4_reckon_r3)) ++ wsX40 ++ wsX20)
def wsX5_init : List Cond := .code yX5_init cX5_init 1 none :: ([.methodLink RX5 1 objectInit, .instanceMethod objectInit, .code objectInit ⟨#[0xb1]⟩ 1 none, .classLink RX5 7 RX0, .instantiable RX0 2, .initialized RX0, .fieldLink RX5 10 "MadeItSo$Total" "top" "LMadeItSo$Big;", .fieldLink RX5 16 "MadeItSo$Total" "bottom" "LMadeItSo$Big;", .fieldLink RX5 19 "MadeItSo$Total" "spare" "LMadeItSo$Big;", .instanceMethod yX0_init, .code yX0_init cX0_init 1 none, .methodLink RX0 3 objectInit, .arrayClass .long, .fieldLink RX0 9 "MadeItSo$Big" "limbs" "[J", .fieldLink RX0 13 "MadeItSo$Big" "used" "I"] ++ wsX00 ++ wsX50)
def wsX5_clear : List Cond := .code yX5_clear cX5_clear 1 none :: ([.fieldLink RX5 10 "MadeItSo$Total" "top" "LMadeItSo$Big;", .fieldLink RX5 16 "MadeItSo$Total" "bottom" "LMadeItSo$Big;", .methodLink RX5 22 yX0_becomeDigit, .instanceMethod yX0_becomeDigit, .selects RX0 yX0_becomeDigit yX0_becomeDigit, .initialized RX0, .code yX0_becomeDigit cX0_becomeDigit 3 none, .fieldLink RX0 13 "MadeItSo$Big" "used" "I", .fieldLink RX0 9 "MadeItSo$Big" "limbs" "[J", .methodLink RX0 17 yX0_trim, .instanceMethod yX0_trim, .selects RX0 yX0_trim yX0_trim, .code yX0_trim cX0_trim 2 none] ++ wsX50 ++ wsX00)
def wsX7_commonDivisor : List Cond := .code yX7_commonDivisor cX7_commonDivisor 11 (some .long) :: ([.methodLink RX7 199 Lib.MathLoose.max_long.x, .static Lib.MathLoose.max_long.x, .initialized "java/lang/Math", .code Lib.MathLoose.max_long.x Lib.MathLoose.max_long.code 4 (some .long)])
def wsX5_add_r1 : List Cond := [Cond.fieldLink RX5 19 "MadeItSo$Total" "spare" "LMadeItSo$Big;", Cond.fieldLink RX5 16 "MadeItSo$Total" "bottom" "LMadeItSo$Big;", Cond.fieldLink RX5 10 "MadeItSo$Total" "top" "LMadeItSo$Big;", Cond.static yX7_commonDivisor, Cond.initialized RX7, Cond.code yX7_commonDivisor cX7_commonDivisor 11 (some .long), Cond.methodLink RX7 199 Lib.MathLoose.max_long.x, Cond.static Lib.MathLoose.max_long.x, Cond.initialized "java/lang/Math", Cond.code Lib.MathLoose.max_long.x Lib.MathLoose.max_long.code 4 (some .long), Cond.methodLink RX5 32 yX0_become, Cond.instanceMethod yX0_become, Cond.selects RX0 yX0_become yX0_become, Cond.initialized RX0, Cond.code yX0_become cX0_become 4 none, Cond.fieldLink RX0 13 "MadeItSo$Big" "used" "I", Cond.methodLink RX0 20 Lib.Math.max.name, Cond.static Lib.Math.max.name, Cond.code Lib.Math.max.name Lib.Math.max.code 2 (some .int), Cond.fieldLink RX0 9 "MadeItSo$Big" "limbs" "[J", Cond.methodLink RX5 36 yX0_times, Cond.instanceMethod yX0_times, Cond.selects RX0 yX0_times yX0_times, Cond.code yX0_times cX0_times 16 none]
def wsX5_add_r2 : List Cond := [Cond.constantLong RX0 26 (1073741823), Cond.methodLink RX0 28 Lib.Math.min.name, Cond.static Lib.Math.min.name, Cond.code Lib.Math.min.name Lib.Math.min.code 2 (some .int), Cond.methodLink RX0 17 yX0_trim, Cond.instanceMethod yX0_trim, Cond.selects RX0 yX0_trim yX0_trim, Cond.code yX0_trim cX0_trim 2 none, Cond.methodLink RX5 40 yX0_plus, Cond.instanceMethod yX0_plus, Cond.selects RX0 yX0_plus yX0_plus, Cond.code yX0_plus cX0_plus 7 none]
def wsX5_add : List Cond := .code yX5_add cX5_add 13 none :: ((wsX5_add_r1 ++ wsX5_add_r2) ++ wsX50 ++ wsX00)
def wsX5_is_r1 : List Cond := [Cond.fieldLink RX5 19 "MadeItSo$Total" "spare" "LMadeItSo$Big;", Cond.fieldLink RX5 16 "MadeItSo$Total" "bottom" "LMadeItSo$Big;", Cond.fieldLink RX5 10 "MadeItSo$Total" "top" "LMadeItSo$Big;", Cond.methodLink RX5 32 yX0_become, Cond.instanceMethod yX0_become, Cond.selects RX0 yX0_become yX0_become, Cond.initialized RX0, Cond.code yX0_become cX0_become 4 none, Cond.fieldLink RX0 13 "MadeItSo$Big" "used" "I", Cond.methodLink RX0 20 Lib.Math.max.name, Cond.static Lib.Math.max.name, Cond.initialized "java/lang/Math", Cond.code Lib.Math.max.name Lib.Math.max.code 2 (some .int), Cond.fieldLink RX0 9 "MadeItSo$Big" "limbs" "[J", Cond.methodLink RX5 36 yX0_times, Cond.instanceMethod yX0_times, Cond.selects RX0 yX0_times yX0_times, Cond.code yX0_times cX0_times 16 none, Cond.constantLong RX0 26 (1073741823), Cond.methodLink RX0 28 Lib.Math.min.name, Cond.static Lib.Math.min.name, Cond.code Lib.Math.min.name Lib.Math.min.code 2 (some .int), Cond.methodLink RX0 17 yX0_trim, Cond.instanceMethod yX0_trim]
def wsX5_is_r2 : List Cond := [Cond.selects RX0 yX0_trim yX0_trim, Cond.code yX0_trim cX0_trim 2 none, Cond.methodLink RX5 43 yX0_same, Cond.instanceMethod yX0_same, Cond.selects RX0 yX0_same yX0_same, Cond.code yX0_same cX0_same 3 (some .boolean)]
def wsX5_is : List Cond := .code yX5_is cX5_is 3 (some .boolean) :: ((wsX5_is_r1 ++ wsX5_is_r2) ++ wsX50 ++ wsX00)
def wsX6_init : List Cond := .code yX6_init cX6_init 1 none :: ([.methodLink RX6 3 objectInit, .instanceMethod objectInit, .code objectInit ⟨#[0xb1]⟩ 1 none, .arrayClass .long, .fieldLink RX6 9 "MadeItSo$Weights" "ofCase" "[J", .fieldLink RX6 15 "MadeItSo$Weights" "everything" "I"] ++ wsX60)
def wsX6_split : List Cond := .code yX6_split cX6_split 6 none :: ([.fieldLink RX6 9 "MadeItSo$Weights" "ofCase" "[J"] ++ wsX60)
def wsX6_weigh_r1 : List Cond := [Cond.fieldLink RX6 15 "MadeItSo$Weights" "everything" "I", Cond.fieldLink RX6 9 "MadeItSo$Weights" "ofCase" "[J", Cond.methodLink RX6 19 yX2_everything, Cond.instanceMethod yX2_everything, Cond.selects RX2 yX2_everything yX2_everything, Cond.initialized RX2, Cond.code yX2_everything cX2_everything 1 (some .int), Cond.fieldLink RX2 18 "MadeItSo$Drawing" "things" "I", Cond.methodLink RX6 24 yX2_size, Cond.instanceMethod yX2_size, Cond.selects RX2 yX2_size yX2_size, Cond.code yX2_size cX2_size 1 (some .int), Cond.methodLink RX6 27 yX2_nextAfter, Cond.instanceMethod yX2_nextAfter, Cond.selects RX2 yX2_nextAfter yX2_nextAfter, Cond.code yX2_nextAfter cX2_nextAfter 3 (some .int), Cond.fieldLink RX2 9 "MadeItSo$Drawing" "parents" "[I", Cond.static yX7_inHeap, Cond.initialized RX7, Cond.code yX7_inHeap cX7_inHeap 2 (some .boolean), Cond.static yX7_partsOf, Cond.code yX7_partsOf cX7_partsOf 1 (some .int), Cond.methodLink RX7 239 yJ6_bitCount_0f7a4, Cond.static yJ6_bitCount_0f7a4]
def wsX6_weigh_r2 : List Cond := [Cond.initialized RJ6, Cond.code yJ6_bitCount_0f7a4 cJ6_bitCount_0f7a4 1 (some .int), Cond.constant RJ6 265 (1431655765), Cond.constant RJ6 266 (858993459), Cond.constant RJ6 267 (252645135), Cond.static yX7_bit, Cond.code yX7_bit cX7_bit 1 (some .int), Cond.methodLink RX6 37 yX1_partsUnder, Cond.instanceMethod yX1_partsUnder, Cond.selects RX1 yX1_partsUnder yX1_partsUnder, Cond.initialized RX1, Cond.code yX1_partsUnder cX1_partsUnder 5 (some .int), Cond.static yX7_heapOf, Cond.code yX7_heapOf cX7_heapOf 1 (some .int), Cond.static yX7_onesOf, Cond.code yX7_onesOf cX7_onesOf 1 (some .int), Cond.methodLink RX1 29 yX2_parentsOf, Cond.instanceMethod yX2_parentsOf, Cond.selects RX2 yX2_parentsOf yX2_parentsOf, Cond.code yX2_parentsOf cX2_parentsOf 2 (some .int), Cond.methodLink RX2 22 yX2_has, Cond.instanceMethod yX2_has, Cond.selects RX2 yX2_has yX2_has, Cond.code yX2_has cX2_has 2 (some .boolean)]
def wsX6_weigh_r3 : List Cond := [Cond.methodLink RX1 34 yX1_rowOf, Cond.static yX1_rowOf, Cond.code yX1_rowOf cX1_rowOf 5 (some .int), Cond.methodLink RX1 38 yX1_read, Cond.instanceMethod yX1_read, Cond.selects RX1 yX1_read yX1_read, Cond.code yX1_read cX1_read 3 (some .int), Cond.fieldLink RX1 9 "MadeItSo$Books" "parts" "[I", Cond.methodLink RX1 15 yX1_isPlace, Cond.static yX1_isPlace, Cond.code yX1_isPlace cX1_isPlace 2 (some .boolean), Cond.methodLink RX6 43 yX6_split, Cond.instanceMethod yX6_split, Cond.selects RX6 yX6_split yX6_split, Cond.initialized RX6, Cond.code yX6_split cX6_split 6 none, Cond.static yX7_nextPart, Cond.code yX7_nextPart cX7_nextPart 2 (some .int)]
def wsX6_weigh : List Cond := .code yX6_weigh cX6_weigh 10 none :: ((wsX6_weigh_r1 ++ (wsX6_weigh_r2 ++ wsX6_weigh_r3)) ++ wsX60 ++ wsX20 ++ wsX10)
def wsX6_having : List Cond := .code yX6_having cX6_having 9 (some .long) :: ([.fieldLink RX6 15 "MadeItSo$Weights" "everything" "I", .fieldLink RX6 9 "MadeItSo$Weights" "ofCase" "[J", .static yX7_partsOf, .initialized RX7, .code yX7_partsOf cX7_partsOf 1 (some .int), .methodLink RX7 239 yJ6_bitCount_0f7a4, .static yJ6_bitCount_0f7a4, .initialized RJ6, .code yJ6_bitCount_0f7a4 cJ6_bitCount_0f7a4 1 (some .int), .constant RJ6 265 (1431655765), .constant RJ6 266 (858993459), .constant RJ6 267 (252645135), .static yX7_nextPart, .code yX7_nextPart cX7_nextPart 2 (some .int)] ++ wsX60)
def wsX7_init_r1 : List Cond := [Cond.methodLink RX7 3 objectInit, Cond.instanceMethod objectInit, Cond.code objectInit ⟨#[0xb1]⟩ 1 none, Cond.classLink RX7 9 RX2, Cond.instantiable RX2 3, Cond.initialized RX2, Cond.fieldLink RX7 12 "MadeItSo" "drawing" "LMadeItSo$Drawing;", Cond.fieldLink RX7 16 "MadeItSo" "thinned" "LMadeItSo$Drawing;", Cond.classLink RX7 19 RX1, Cond.instantiable RX1 1, Cond.initialized RX1, Cond.fieldLink RX7 22 "MadeItSo" "books" "LMadeItSo$Books;", Cond.classLink RX7 26 RX6, Cond.instantiable RX6 2, Cond.initialized RX6, Cond.fieldLink RX7 29 "MadeItSo" "weights" "LMadeItSo$Weights;", Cond.classLink RX7 33 RX5, Cond.instantiable RX5 3, Cond.initialized RX5, Cond.fieldLink RX7 36 "MadeItSo" "total" "LMadeItSo$Total;", Cond.classLink RX7 40 RX3, Cond.instantiable RX3 2, Cond.initialized RX3, Cond.fieldLink RX7 43 "MadeItSo" "leastHeaps" "LMadeItSo$LeastHeaps;"]
def wsX7_init_r2 : List Cond := [Cond.classLink RX7 47 RX4, Cond.instantiable RX4 1, Cond.initialized RX4, Cond.fieldLink RX7 50 "MadeItSo" "lookalikes" "LMadeItSo$Lookalikes;", Cond.fieldLink RX7 54 "MadeItSo" "seenHeap" "I", Cond.fieldLink RX7 58 "MadeItSo" "aboveLine" "J", Cond.fieldLink RX7 62 "MadeItSo" "belowLine" "J", Cond.instanceMethod yX2_init, Cond.code yX2_init cX2_init 1 none, Cond.methodLink RX2 3 objectInit, Cond.arrayClass .int, Cond.fieldLink RX2 9 "MadeItSo$Drawing" "parents" "[I", Cond.fieldLink RX2 15 "MadeItSo$Drawing" "children" "[I", Cond.fieldLink RX2 18 "MadeItSo$Drawing" "things" "I", Cond.instanceMethod yX1_init, Cond.code yX1_init cX1_init 1 none, Cond.methodLink RX1 3 objectInit, Cond.fieldLink RX1 9 "MadeItSo$Books" "parts" "[I", Cond.instanceMethod yX6_init, Cond.code yX6_init cX6_init 1 none, Cond.methodLink RX6 3 objectInit, Cond.arrayClass .long, Cond.fieldLink RX6 9 "MadeItSo$Weights" "ofCase" "[J", Cond.fieldLink RX6 15 "MadeItSo$Weights" "everything" "I"]
def wsX7_init_r3 : List Cond := [Cond.instanceMethod yX5_init, Cond.code yX5_init cX5_init 1 none, Cond.methodLink RX5 1 objectInit, Cond.classLink RX5 7 RX0, Cond.instantiable RX0 2, Cond.initialized RX0, Cond.fieldLink RX5 10 "MadeItSo$Total" "top" "LMadeItSo$Big;", Cond.fieldLink RX5 16 "MadeItSo$Total" "bottom" "LMadeItSo$Big;", Cond.fieldLink RX5 19 "MadeItSo$Total" "spare" "LMadeItSo$Big;", Cond.instanceMethod yX0_init, Cond.code yX0_init cX0_init 1 none, Cond.methodLink RX0 3 objectInit, Cond.fieldLink RX0 9 "MadeItSo$Big" "limbs" "[J", Cond.fieldLink RX0 13 "MadeItSo$Big" "used" "I", Cond.instanceMethod yX3_init, Cond.code yX3_init cX3_init 1 none, Cond.methodLink RX3 3 objectInit, Cond.fieldLink RX3 9 "MadeItSo$LeastHeaps" "found" "[I", Cond.fieldLink RX3 15 "MadeItSo$LeastHeaps" "many" "I", Cond.instanceMethod yX4_init, Cond.code yX4_init cX4_init 1 none, Cond.methodLink RX4 3 objectInit, Cond.fieldLink RX4 9 "MadeItSo$Lookalikes" "waysOf" "[I"]
def wsX7_init : List Cond := .code yX7_init cX7_init 1 none :: ((wsX7_init_r1 ++ (wsX7_init_r2 ++ wsX7_init_r3)) ++ wsX20 ++ wsX70 ++ wsX10 ++ wsX60 ++ wsX50 ++ wsX30 ++ wsX40 ++ wsX00)
def wsX7_thing : List Cond := .code yX7_thing cX7_thing 3 (some .int) :: ([.fieldLink RX7 12 "MadeItSo" "drawing" "LMadeItSo$Drawing;", .fieldLink RX7 22 "MadeItSo" "books" "LMadeItSo$Books;", .fieldLink RX7 54 "MadeItSo" "seenHeap" "I", .methodLink RX7 65 yX2_grow, .instanceMethod yX2_grow, .selects RX2 yX2_grow yX2_grow, .initialized RX2, .code yX2_grow cX2_grow 1 (some .int), .fieldLink RX2 18 "MadeItSo$Drawing" "things" "I", .methodLink RX7 69 yX1_blank, .instanceMethod yX1_blank, .selects RX1 yX1_blank yX1_blank, .initialized RX1, .code yX1_blank cX1_blank 3 none, .fieldLink RX1 9 "MadeItSo$Books" "parts" "[I", .methodLink RX7 73 yX7_bit, .static yX7_bit, .initialized RX7, .code yX7_bit cX7_bit 1 (some .int)] ++ wsX70 ++ wsX20 ++ wsX10)
def wsX7_arrow_r1 : List Cond := [Cond.fieldLink RX7 12 "MadeItSo" "drawing" "LMadeItSo$Drawing;", Cond.fieldLink RX7 22 "MadeItSo" "books" "LMadeItSo$Books;", Cond.methodLink RX7 77 yX2_has, Cond.instanceMethod yX2_has, Cond.selects RX2 yX2_has yX2_has, Cond.initialized RX2, Cond.code yX2_has cX2_has 2 (some .boolean), Cond.fieldLink RX2 18 "MadeItSo$Drawing" "things" "I", Cond.methodLink RX7 81 yX2_canJoin, Cond.instanceMethod yX2_canJoin, Cond.selects RX2 yX2_canJoin yX2_canJoin, Cond.code yX2_canJoin cX2_canJoin 3 (some .boolean), Cond.methodLink RX2 30 yX2_joinedTo, Cond.instanceMethod yX2_joinedTo, Cond.selects RX2 yX2_joinedTo yX2_joinedTo, Cond.code yX2_joinedTo cX2_joinedTo 2 (some .int), Cond.fieldLink RX2 9 "MadeItSo$Drawing" "parents" "[I", Cond.fieldLink RX2 15 "MadeItSo$Drawing" "children" "[I", Cond.methodLink RX2 22 yX2_has, Cond.static yX7_inHeap, Cond.initialized RX7, Cond.code yX7_inHeap cX7_inHeap 2 (some .boolean), Cond.methodLink RX2 34 yX2_allBelow, Cond.instanceMethod yX2_allBelow]
def wsX7_arrow_r2 : List Cond := [Cond.selects RX2 yX2_allBelow yX2_allBelow, Cond.code yX2_allBelow cX2_allBelow 2 (some .int), Cond.methodLink RX2 45 yX2_childrenOf, Cond.instanceMethod yX2_childrenOf, Cond.selects RX2 yX2_childrenOf yX2_childrenOf, Cond.code yX2_childrenOf cX2_childrenOf 2 (some .int), Cond.methodLink RX2 48 yX2_withAllBelow, Cond.instanceMethod yX2_withAllBelow, Cond.selects RX2 yX2_withAllBelow yX2_withAllBelow, Cond.code yX2_withAllBelow cX2_withAllBelow 2 (some .int), Cond.methodLink RX2 51 yX2_spread, Cond.instanceMethod yX2_spread, Cond.selects RX2 yX2_spread yX2_spread, Cond.code yX2_spread cX2_spread 6 (some .int), Cond.methodLink RX2 55 yX2_gather, Cond.static yX2_gather, Cond.code yX2_gather cX2_gather 4 (some .int), Cond.methodLink RX7 85 yX2_join, Cond.instanceMethod yX2_join, Cond.selects RX2 yX2_join yX2_join, Cond.code yX2_join cX2_join 3 none, Cond.static yX7_bit, Cond.code yX7_bit cX7_bit 1 (some .int), Cond.methodLink RX7 69 yX1_blank]
def wsX7_arrow_r3 : List Cond := [Cond.instanceMethod yX1_blank, Cond.selects RX1 yX1_blank yX1_blank, Cond.initialized RX1, Cond.code yX1_blank cX1_blank 3 none, Cond.fieldLink RX1 9 "MadeItSo$Books" "parts" "[I"]
def wsX7_arrow : List Cond := .code yX7_arrow cX7_arrow 3 (some .boolean) :: ((wsX7_arrow_r1 ++ (wsX7_arrow_r2 ++ wsX7_arrow_r3)) ++ wsX70 ++ wsX20 ++ wsX10)
def wsX7_cut_r1 : List Cond := [Cond.fieldLink RX7 12 "MadeItSo" "drawing" "LMadeItSo$Drawing;", Cond.fieldLink RX7 22 "MadeItSo" "books" "LMadeItSo$Books;", Cond.methodLink RX7 89 yX2_leads, Cond.instanceMethod yX2_leads, Cond.selects RX2 yX2_leads yX2_leads, Cond.initialized RX2, Cond.code yX2_leads cX2_leads 3 (some .boolean), Cond.fieldLink RX2 15 "MadeItSo$Drawing" "children" "[I", Cond.methodLink RX2 22 yX2_has, Cond.instanceMethod yX2_has, Cond.selects RX2 yX2_has yX2_has, Cond.code yX2_has cX2_has 2 (some .boolean), Cond.fieldLink RX2 18 "MadeItSo$Drawing" "things" "I", Cond.static yX7_inHeap, Cond.initialized RX7, Cond.code yX7_inHeap cX7_inHeap 2 (some .boolean), Cond.methodLink RX7 92 yX2_part, Cond.instanceMethod yX2_part, Cond.selects RX2 yX2_part yX2_part, Cond.code yX2_part cX2_part 3 none, Cond.fieldLink RX2 9 "MadeItSo$Drawing" "parents" "[I", Cond.static yX7_bit, Cond.code yX7_bit cX7_bit 1 (some .int), Cond.methodLink RX7 69 yX1_blank]
def wsX7_cut_r2 : List Cond := [Cond.instanceMethod yX1_blank, Cond.selects RX1 yX1_blank yX1_blank, Cond.initialized RX1, Cond.code yX1_blank cX1_blank 3 none, Cond.fieldLink RX1 9 "MadeItSo$Books" "parts" "[I"]
def wsX7_cut : List Cond := .code yX7_cut cX7_cut 3 (some .boolean) :: ((wsX7_cut_r1 ++ wsX7_cut_r2) ++ wsX70 ++ wsX20 ++ wsX10)
def wsX7_turn_r1 : List Cond := [Cond.fieldLink RX7 12 "MadeItSo" "drawing" "LMadeItSo$Drawing;", Cond.fieldLink RX7 22 "MadeItSo" "books" "LMadeItSo$Books;", Cond.methodLink RX7 89 yX2_leads, Cond.instanceMethod yX2_leads, Cond.selects RX2 yX2_leads yX2_leads, Cond.initialized RX2, Cond.code yX2_leads cX2_leads 3 (some .boolean), Cond.fieldLink RX2 15 "MadeItSo$Drawing" "children" "[I", Cond.methodLink RX2 22 yX2_has, Cond.instanceMethod yX2_has, Cond.selects RX2 yX2_has yX2_has, Cond.code yX2_has cX2_has 2 (some .boolean), Cond.fieldLink RX2 18 "MadeItSo$Drawing" "things" "I", Cond.static yX7_inHeap, Cond.initialized RX7, Cond.code yX7_inHeap cX7_inHeap 2 (some .boolean), Cond.methodLink RX7 92 yX2_part, Cond.instanceMethod yX2_part, Cond.selects RX2 yX2_part yX2_part, Cond.code yX2_part cX2_part 3 none, Cond.fieldLink RX2 9 "MadeItSo$Drawing" "parents" "[I", Cond.static yX7_bit, Cond.code yX7_bit cX7_bit 1 (some .int), Cond.methodLink RX7 81 yX2_canJoin]
def wsX7_turn_r2 : List Cond := [Cond.instanceMethod yX2_canJoin, Cond.selects RX2 yX2_canJoin yX2_canJoin, Cond.code yX2_canJoin cX2_canJoin 3 (some .boolean), Cond.methodLink RX2 30 yX2_joinedTo, Cond.instanceMethod yX2_joinedTo, Cond.selects RX2 yX2_joinedTo yX2_joinedTo, Cond.code yX2_joinedTo cX2_joinedTo 2 (some .int), Cond.methodLink RX2 34 yX2_allBelow, Cond.instanceMethod yX2_allBelow, Cond.selects RX2 yX2_allBelow yX2_allBelow, Cond.code yX2_allBelow cX2_allBelow 2 (some .int), Cond.methodLink RX2 45 yX2_childrenOf, Cond.instanceMethod yX2_childrenOf, Cond.selects RX2 yX2_childrenOf yX2_childrenOf, Cond.code yX2_childrenOf cX2_childrenOf 2 (some .int), Cond.methodLink RX2 48 yX2_withAllBelow, Cond.instanceMethod yX2_withAllBelow, Cond.selects RX2 yX2_withAllBelow yX2_withAllBelow, Cond.code yX2_withAllBelow cX2_withAllBelow 2 (some .int), Cond.methodLink RX2 51 yX2_spread, Cond.instanceMethod yX2_spread, Cond.selects RX2 yX2_spread yX2_spread, Cond.code yX2_spread cX2_spread 6 (some .int), Cond.methodLink RX2 55 yX2_gather]
def wsX7_turn_r3 : List Cond := [Cond.static yX2_gather, Cond.code yX2_gather cX2_gather 4 (some .int), Cond.methodLink RX7 85 yX2_join, Cond.instanceMethod yX2_join, Cond.selects RX2 yX2_join yX2_join, Cond.code yX2_join cX2_join 3 none, Cond.methodLink RX7 69 yX1_blank, Cond.instanceMethod yX1_blank, Cond.selects RX1 yX1_blank yX1_blank, Cond.initialized RX1, Cond.code yX1_blank cX1_blank 3 none, Cond.fieldLink RX1 9 "MadeItSo$Books" "parts" "[I"]
def wsX7_turn : List Cond := .code yX7_turn cX7_turn 3 (some .boolean) :: ((wsX7_turn_r1 ++ (wsX7_turn_r2 ++ wsX7_turn_r3)) ++ wsX70 ++ wsX20 ++ wsX10)
def wsX7_hasRow : List Cond := .code yX7_hasRow cX7_hasRow 3 (some .boolean) :: ([.fieldLink RX7 12 "MadeItSo" "drawing" "LMadeItSo$Drawing;", .methodLink RX7 77 yX2_has, .instanceMethod yX2_has, .selects RX2 yX2_has yX2_has, .initialized RX2, .code yX2_has cX2_has 2 (some .boolean), .fieldLink RX2 18 "MadeItSo$Drawing" "things" "I", .methodLink RX7 109 yX2_parentsOf, .instanceMethod yX2_parentsOf, .selects RX2 yX2_parentsOf yX2_parentsOf, .code yX2_parentsOf cX2_parentsOf 2 (some .int), .fieldLink RX2 9 "MadeItSo$Drawing" "parents" "[I", .methodLink RX2 22 yX2_has, .methodLink RX7 220 yX7_partsOf, .static yX7_partsOf, .initialized RX7, .code yX7_partsOf cX7_partsOf 1 (some .int), .methodLink RX7 239 yJ6_bitCount_0f7a4, .static yJ6_bitCount_0f7a4, .initialized RJ6, .code yJ6_bitCount_0f7a4 cJ6_bitCount_0f7a4 1 (some .int), .constant RJ6 265 (1431655765), .constant RJ6 266 (858993459), .constant RJ6 267 (252645135)] ++ wsX70 ++ wsX20)
def wsX7_book_r1 : List Cond := [Cond.fieldLink RX7 22 "MadeItSo" "books" "LMadeItSo$Books;", Cond.methodLink RX7 95 yX7_hasRow, Cond.instanceMethod yX7_hasRow, Cond.selects RX7 yX7_hasRow yX7_hasRow, Cond.initialized RX7, Cond.code yX7_hasRow cX7_hasRow 3 (some .boolean), Cond.fieldLink RX7 12 "MadeItSo" "drawing" "LMadeItSo$Drawing;", Cond.methodLink RX7 77 yX2_has, Cond.instanceMethod yX2_has, Cond.selects RX2 yX2_has yX2_has, Cond.initialized RX2, Cond.code yX2_has cX2_has 2 (some .boolean), Cond.fieldLink RX2 18 "MadeItSo$Drawing" "things" "I", Cond.methodLink RX7 109 yX2_parentsOf, Cond.instanceMethod yX2_parentsOf, Cond.selects RX2 yX2_parentsOf yX2_parentsOf, Cond.code yX2_parentsOf cX2_parentsOf 2 (some .int), Cond.fieldLink RX2 9 "MadeItSo$Drawing" "parents" "[I", Cond.methodLink RX2 22 yX2_has, Cond.methodLink RX7 220 yX7_partsOf, Cond.static yX7_partsOf, Cond.code yX7_partsOf cX7_partsOf 1 (some .int), Cond.methodLink RX7 239 yJ6_bitCount_0f7a4, Cond.static yJ6_bitCount_0f7a4]
def wsX7_book_r2 : List Cond := [Cond.initialized RJ6, Cond.code yJ6_bitCount_0f7a4 cJ6_bitCount_0f7a4 1 (some .int), Cond.constant RJ6 265 (1431655765), Cond.constant RJ6 266 (858993459), Cond.constant RJ6 267 (252645135), Cond.methodLink RX7 98 yX1_write, Cond.instanceMethod yX1_write, Cond.selects RX1 yX1_write yX1_write, Cond.initialized RX1, Cond.code yX1_write cX1_write 4 none, Cond.fieldLink RX1 9 "MadeItSo$Books" "parts" "[I", Cond.methodLink RX1 15 yX1_isPlace, Cond.static yX1_isPlace, Cond.code yX1_isPlace cX1_isPlace 2 (some .boolean)]
def wsX7_book : List Cond := .code yX7_book cX7_book 4 (some .boolean) :: ((wsX7_book_r1 ++ wsX7_book_r2) ++ wsX70 ++ wsX20 ++ wsX10)
def wsX7_booked_r1 : List Cond := [Cond.fieldLink RX7 22 "MadeItSo" "books" "LMadeItSo$Books;", Cond.methodLink RX7 95 yX7_hasRow, Cond.instanceMethod yX7_hasRow, Cond.selects RX7 yX7_hasRow yX7_hasRow, Cond.initialized RX7, Cond.code yX7_hasRow cX7_hasRow 3 (some .boolean), Cond.fieldLink RX7 12 "MadeItSo" "drawing" "LMadeItSo$Drawing;", Cond.methodLink RX7 77 yX2_has, Cond.instanceMethod yX2_has, Cond.selects RX2 yX2_has yX2_has, Cond.initialized RX2, Cond.code yX2_has cX2_has 2 (some .boolean), Cond.fieldLink RX2 18 "MadeItSo$Drawing" "things" "I", Cond.methodLink RX7 109 yX2_parentsOf, Cond.instanceMethod yX2_parentsOf, Cond.selects RX2 yX2_parentsOf yX2_parentsOf, Cond.code yX2_parentsOf cX2_parentsOf 2 (some .int), Cond.fieldLink RX2 9 "MadeItSo$Drawing" "parents" "[I", Cond.methodLink RX2 22 yX2_has, Cond.methodLink RX7 220 yX7_partsOf, Cond.static yX7_partsOf, Cond.code yX7_partsOf cX7_partsOf 1 (some .int), Cond.methodLink RX7 239 yJ6_bitCount_0f7a4, Cond.static yJ6_bitCount_0f7a4]
def wsX7_booked_r2 : List Cond := [Cond.initialized RJ6, Cond.code yJ6_bitCount_0f7a4 cJ6_bitCount_0f7a4 1 (some .int), Cond.constant RJ6 265 (1431655765), Cond.constant RJ6 266 (858993459), Cond.constant RJ6 267 (252645135), Cond.methodLink RX7 102 yX1_read, Cond.instanceMethod yX1_read, Cond.selects RX1 yX1_read yX1_read, Cond.initialized RX1, Cond.code yX1_read cX1_read 3 (some .int), Cond.fieldLink RX1 9 "MadeItSo$Books" "parts" "[I", Cond.methodLink RX1 15 yX1_isPlace, Cond.static yX1_isPlace, Cond.code yX1_isPlace cX1_isPlace 2 (some .boolean)]
def wsX7_booked : List Cond := .code yX7_booked cX7_booked 3 (some .int) :: ((wsX7_booked_r1 ++ wsX7_booked_r2) ++ wsX70 ++ wsX20 ++ wsX10)
def wsX7_told_r1 : List Cond := [Cond.fieldLink RX7 12 "MadeItSo" "drawing" "LMadeItSo$Drawing;", Cond.fieldLink RX7 54 "MadeItSo" "seenHeap" "I", Cond.methodLink RX7 77 yX2_has, Cond.instanceMethod yX2_has, Cond.selects RX2 yX2_has yX2_has, Cond.initialized RX2, Cond.code yX2_has cX2_has 2 (some .boolean), Cond.fieldLink RX2 18 "MadeItSo$Drawing" "things" "I", Cond.methodLink RX7 106 yX7_inHeap, Cond.static yX7_inHeap, Cond.initialized RX7, Cond.code yX7_inHeap cX7_inHeap 2 (some .boolean), Cond.methodLink RX7 109 yX2_parentsOf, Cond.instanceMethod yX2_parentsOf, Cond.selects RX2 yX2_parentsOf yX2_parentsOf, Cond.code yX2_parentsOf cX2_parentsOf 2 (some .int), Cond.fieldLink RX2 9 "MadeItSo$Drawing" "parents" "[I", Cond.methodLink RX2 22 yX2_has, Cond.methodLink RX7 112 yX2_childrenOf, Cond.instanceMethod yX2_childrenOf, Cond.selects RX2 yX2_childrenOf yX2_childrenOf, Cond.code yX2_childrenOf cX2_childrenOf 2 (some .int), Cond.fieldLink RX2 15 "MadeItSo$Drawing" "children" "[I", Cond.methodLink RX7 115 yX2_allBelow]
def wsX7_told_r2 : List Cond := [Cond.instanceMethod yX2_allBelow, Cond.selects RX2 yX2_allBelow yX2_allBelow, Cond.code yX2_allBelow cX2_allBelow 2 (some .int), Cond.methodLink RX2 45 yX2_childrenOf, Cond.methodLink RX2 48 yX2_withAllBelow, Cond.instanceMethod yX2_withAllBelow, Cond.selects RX2 yX2_withAllBelow yX2_withAllBelow, Cond.code yX2_withAllBelow cX2_withAllBelow 2 (some .int), Cond.methodLink RX2 51 yX2_spread, Cond.instanceMethod yX2_spread, Cond.selects RX2 yX2_spread yX2_spread, Cond.code yX2_spread cX2_spread 6 (some .int), Cond.methodLink RX2 55 yX2_gather, Cond.static yX2_gather, Cond.code yX2_gather cX2_gather 4 (some .int)]
def wsX7_told : List Cond := .code yX7_told cX7_told 3 (some .int) :: ((wsX7_told_r1 ++ wsX7_told_r2) ++ wsX70 ++ wsX20)
def wsX7_isHeap : List Cond := .code yX7_isHeap cX7_isHeap 2 (some .boolean) :: ([.fieldLink RX7 12 "MadeItSo" "drawing" "LMadeItSo$Drawing;", .methodLink RX7 223 yX2_everything, .instanceMethod yX2_everything, .selects RX2 yX2_everything yX2_everything, .initialized RX2, .code yX2_everything cX2_everything 1 (some .int), .fieldLink RX2 18 "MadeItSo$Drawing" "things" "I"] ++ wsX70 ++ wsX20)
def wsX7_isSetting : List Cond := .code yX7_isSetting cX7_isSetting 2 (some .boolean) :: ([.methodLink RX7 127 yX7_heapOf, .static yX7_heapOf, .initialized RX7, .code yX7_heapOf cX7_heapOf 1 (some .int), .methodLink RX7 144 yX7_isHeap, .instanceMethod yX7_isHeap, .selects RX7 yX7_isHeap yX7_isHeap, .code yX7_isHeap cX7_isHeap 2 (some .boolean), .fieldLink RX7 12 "MadeItSo" "drawing" "LMadeItSo$Drawing;", .methodLink RX7 223 yX2_everything, .instanceMethod yX2_everything, .selects RX2 yX2_everything yX2_everything, .initialized RX2, .code yX2_everything cX2_everything 1 (some .int), .fieldLink RX2 18 "MadeItSo$Drawing" "things" "I", .methodLink RX7 130 yX7_onesOf, .static yX7_onesOf, .code yX7_onesOf cX7_onesOf 1 (some .int)] ++ wsX70 ++ wsX20)
def wsX7_weight_r1 : List Cond := [Cond.constantLong RX7 121 (-1), Cond.fieldLink RX7 29 "MadeItSo" "weights" "LMadeItSo$Weights;", Cond.fieldLink RX7 12 "MadeItSo" "drawing" "LMadeItSo$Drawing;", Cond.fieldLink RX7 22 "MadeItSo" "books" "LMadeItSo$Books;", Cond.methodLink RX7 118 yX7_isSetting, Cond.instanceMethod yX7_isSetting, Cond.selects RX7 yX7_isSetting yX7_isSetting, Cond.initialized RX7, Cond.code yX7_isSetting cX7_isSetting 2 (some .boolean), Cond.methodLink RX7 127 yX7_heapOf, Cond.static yX7_heapOf, Cond.code yX7_heapOf cX7_heapOf 1 (some .int), Cond.methodLink RX7 144 yX7_isHeap, Cond.instanceMethod yX7_isHeap, Cond.selects RX7 yX7_isHeap yX7_isHeap, Cond.code yX7_isHeap cX7_isHeap 2 (some .boolean), Cond.methodLink RX7 223 yX2_everything, Cond.instanceMethod yX2_everything, Cond.selects RX2 yX2_everything yX2_everything, Cond.initialized RX2, Cond.code yX2_everything cX2_everything 1 (some .int), Cond.fieldLink RX2 18 "MadeItSo$Drawing" "things" "I", Cond.methodLink RX7 130 yX7_onesOf, Cond.static yX7_onesOf]
def wsX7_weight_r2 : List Cond := [Cond.code yX7_onesOf cX7_onesOf 1 (some .int), Cond.methodLink RX7 123 yX6_weigh, Cond.instanceMethod yX6_weigh, Cond.selects RX6 yX6_weigh yX6_weigh, Cond.initialized RX6, Cond.code yX6_weigh cX6_weigh 10 none, Cond.fieldLink RX6 15 "MadeItSo$Weights" "everything" "I", Cond.fieldLink RX6 9 "MadeItSo$Weights" "ofCase" "[J", Cond.methodLink RX6 19 yX2_everything, Cond.methodLink RX6 24 yX2_size, Cond.instanceMethod yX2_size, Cond.selects RX2 yX2_size yX2_size, Cond.code yX2_size cX2_size 1 (some .int), Cond.methodLink RX6 27 yX2_nextAfter, Cond.instanceMethod yX2_nextAfter, Cond.selects RX2 yX2_nextAfter yX2_nextAfter, Cond.code yX2_nextAfter cX2_nextAfter 3 (some .int), Cond.fieldLink RX2 9 "MadeItSo$Drawing" "parents" "[I", Cond.static yX7_inHeap, Cond.code yX7_inHeap cX7_inHeap 2 (some .boolean), Cond.static yX7_partsOf, Cond.code yX7_partsOf cX7_partsOf 1 (some .int), Cond.methodLink RX7 239 yJ6_bitCount_0f7a4, Cond.static yJ6_bitCount_0f7a4]
def wsX7_weight_r3 : List Cond := [Cond.initialized RJ6, Cond.code yJ6_bitCount_0f7a4 cJ6_bitCount_0f7a4 1 (some .int), Cond.constant RJ6 265 (1431655765), Cond.constant RJ6 266 (858993459), Cond.constant RJ6 267 (252645135), Cond.static yX7_bit, Cond.code yX7_bit cX7_bit 1 (some .int), Cond.methodLink RX6 37 yX1_partsUnder, Cond.instanceMethod yX1_partsUnder, Cond.selects RX1 yX1_partsUnder yX1_partsUnder, Cond.initialized RX1, Cond.code yX1_partsUnder cX1_partsUnder 5 (some .int), Cond.methodLink RX1 29 yX2_parentsOf, Cond.instanceMethod yX2_parentsOf, Cond.selects RX2 yX2_parentsOf yX2_parentsOf, Cond.code yX2_parentsOf cX2_parentsOf 2 (some .int), Cond.methodLink RX2 22 yX2_has, Cond.instanceMethod yX2_has, Cond.selects RX2 yX2_has yX2_has, Cond.code yX2_has cX2_has 2 (some .boolean), Cond.methodLink RX1 34 yX1_rowOf, Cond.static yX1_rowOf, Cond.code yX1_rowOf cX1_rowOf 5 (some .int), Cond.methodLink RX1 38 yX1_read]
def wsX7_weight_r4 : List Cond := [Cond.instanceMethod yX1_read, Cond.selects RX1 yX1_read yX1_read, Cond.code yX1_read cX1_read 3 (some .int), Cond.fieldLink RX1 9 "MadeItSo$Books" "parts" "[I", Cond.methodLink RX1 15 yX1_isPlace, Cond.static yX1_isPlace, Cond.code yX1_isPlace cX1_isPlace 2 (some .boolean), Cond.methodLink RX6 43 yX6_split, Cond.instanceMethod yX6_split, Cond.selects RX6 yX6_split yX6_split, Cond.code yX6_split cX6_split 6 none, Cond.static yX7_nextPart, Cond.code yX7_nextPart cX7_nextPart 2 (some .int), Cond.methodLink RX7 133 yX6_having, Cond.instanceMethod yX6_having, Cond.selects RX6 yX6_having yX6_having, Cond.code yX6_having cX6_having 9 (some .long)]
def wsX7_weight : List Cond := .code yX7_weight cX7_weight 3 (some .long) :: ((wsX7_weight_r1 ++ (wsX7_weight_r2 ++ (wsX7_weight_r3 ++ wsX7_weight_r4))) ++ wsX70 ++ wsX20 ++ wsX60 ++ wsX10)
def wsX7_clash : List Cond := .code yX7_clash cX7_clash 2 (some .boolean) :: ([.methodLink RX7 127 yX7_heapOf, .static yX7_heapOf, .initialized RX7, .code yX7_heapOf cX7_heapOf 1 (some .int), .methodLink RX7 130 yX7_onesOf, .static yX7_onesOf, .code yX7_onesOf cX7_onesOf 1 (some .int)])
def wsX7_chance_r1 : List Cond := [Cond.fieldLink RX7 58 "MadeItSo" "aboveLine" "J", Cond.fieldLink RX7 62 "MadeItSo" "belowLine" "J", Cond.fieldLink RX7 29 "MadeItSo" "weights" "LMadeItSo$Weights;", Cond.fieldLink RX7 12 "MadeItSo" "drawing" "LMadeItSo$Drawing;", Cond.fieldLink RX7 22 "MadeItSo" "books" "LMadeItSo$Books;", Cond.methodLink RX7 118 yX7_isSetting, Cond.instanceMethod yX7_isSetting, Cond.selects RX7 yX7_isSetting yX7_isSetting, Cond.initialized RX7, Cond.code yX7_isSetting cX7_isSetting 2 (some .boolean), Cond.methodLink RX7 127 yX7_heapOf, Cond.static yX7_heapOf, Cond.code yX7_heapOf cX7_heapOf 1 (some .int), Cond.methodLink RX7 144 yX7_isHeap, Cond.instanceMethod yX7_isHeap, Cond.selects RX7 yX7_isHeap yX7_isHeap, Cond.code yX7_isHeap cX7_isHeap 2 (some .boolean), Cond.methodLink RX7 223 yX2_everything, Cond.instanceMethod yX2_everything, Cond.selects RX2 yX2_everything yX2_everything, Cond.initialized RX2, Cond.code yX2_everything cX2_everything 1 (some .int), Cond.fieldLink RX2 18 "MadeItSo$Drawing" "things" "I", Cond.methodLink RX7 130 yX7_onesOf]
def wsX7_chance_r2 : List Cond := [Cond.static yX7_onesOf, Cond.code yX7_onesOf cX7_onesOf 1 (some .int), Cond.methodLink RX7 123 yX6_weigh, Cond.instanceMethod yX6_weigh, Cond.selects RX6 yX6_weigh yX6_weigh, Cond.initialized RX6, Cond.code yX6_weigh cX6_weigh 10 none, Cond.fieldLink RX6 15 "MadeItSo$Weights" "everything" "I", Cond.fieldLink RX6 9 "MadeItSo$Weights" "ofCase" "[J", Cond.methodLink RX6 19 yX2_everything, Cond.methodLink RX6 24 yX2_size, Cond.instanceMethod yX2_size, Cond.selects RX2 yX2_size yX2_size, Cond.code yX2_size cX2_size 1 (some .int), Cond.methodLink RX6 27 yX2_nextAfter, Cond.instanceMethod yX2_nextAfter, Cond.selects RX2 yX2_nextAfter yX2_nextAfter, Cond.code yX2_nextAfter cX2_nextAfter 3 (some .int), Cond.fieldLink RX2 9 "MadeItSo$Drawing" "parents" "[I", Cond.static yX7_inHeap, Cond.code yX7_inHeap cX7_inHeap 2 (some .boolean), Cond.static yX7_partsOf, Cond.code yX7_partsOf cX7_partsOf 1 (some .int), Cond.methodLink RX7 239 yJ6_bitCount_0f7a4]
def wsX7_chance_r3 : List Cond := [Cond.static yJ6_bitCount_0f7a4, Cond.initialized RJ6, Cond.code yJ6_bitCount_0f7a4 cJ6_bitCount_0f7a4 1 (some .int), Cond.constant RJ6 265 (1431655765), Cond.constant RJ6 266 (858993459), Cond.constant RJ6 267 (252645135), Cond.static yX7_bit, Cond.code yX7_bit cX7_bit 1 (some .int), Cond.methodLink RX6 37 yX1_partsUnder, Cond.instanceMethod yX1_partsUnder, Cond.selects RX1 yX1_partsUnder yX1_partsUnder, Cond.initialized RX1, Cond.code yX1_partsUnder cX1_partsUnder 5 (some .int), Cond.methodLink RX1 29 yX2_parentsOf, Cond.instanceMethod yX2_parentsOf, Cond.selects RX2 yX2_parentsOf yX2_parentsOf, Cond.code yX2_parentsOf cX2_parentsOf 2 (some .int), Cond.methodLink RX2 22 yX2_has, Cond.instanceMethod yX2_has, Cond.selects RX2 yX2_has yX2_has, Cond.code yX2_has cX2_has 2 (some .boolean), Cond.methodLink RX1 34 yX1_rowOf, Cond.static yX1_rowOf, Cond.code yX1_rowOf cX1_rowOf 5 (some .int)]
def wsX7_chance_r4 : List Cond := [Cond.methodLink RX1 38 yX1_read, Cond.instanceMethod yX1_read, Cond.selects RX1 yX1_read yX1_read, Cond.code yX1_read cX1_read 3 (some .int), Cond.fieldLink RX1 9 "MadeItSo$Books" "parts" "[I", Cond.methodLink RX1 15 yX1_isPlace, Cond.static yX1_isPlace, Cond.code yX1_isPlace cX1_isPlace 2 (some .boolean), Cond.methodLink RX6 43 yX6_split, Cond.instanceMethod yX6_split, Cond.selects RX6 yX6_split yX6_split, Cond.code yX6_split cX6_split 6 none, Cond.static yX7_nextPart, Cond.code yX7_nextPart cX7_nextPart 2 (some .int), Cond.methodLink RX7 133 yX6_having, Cond.instanceMethod yX6_having, Cond.selects RX6 yX6_having yX6_having, Cond.code yX6_having cX6_having 9 (some .long), Cond.methodLink RX7 137 yX7_clash, Cond.static yX7_clash, Cond.code yX7_clash cX7_clash 2 (some .boolean), Cond.methodLink RX7 140 yX7_commonDivisor, Cond.static yX7_commonDivisor, Cond.code yX7_commonDivisor cX7_commonDivisor 11 (some .long)]
def wsX7_chance_r5 : List Cond := [Cond.methodLink RX7 199 Lib.MathLoose.max_long.x, Cond.static Lib.MathLoose.max_long.x, Cond.initialized "java/lang/Math", Cond.code Lib.MathLoose.max_long.x Lib.MathLoose.max_long.code 4 (some .long)]
def wsX7_chance : List Cond := .code yX7_chance cX7_chance 10 (some .int) :: ((wsX7_chance_r1 ++ (wsX7_chance_r2 ++ (wsX7_chance_r3 ++ (wsX7_chance_r4 ++ wsX7_chance_r5)))) ++ wsX70 ++ wsX20 ++ wsX60 ++ wsX10)
def wsX7_above : List Cond := .code yX7_above cX7_above 1 (some .long) :: ([.fieldLink RX7 58 "MadeItSo" "aboveLine" "J"] ++ wsX70)
def wsX7_below : List Cond := .code yX7_below cX7_below 1 (some .long) :: ([.fieldLink RX7 62 "MadeItSo" "belowLine" "J"] ++ wsX70)
def wsX7_bars_r1 : List Cond := [Cond.fieldLink RX7 12 "MadeItSo" "drawing" "LMadeItSo$Drawing;", Cond.methodLink RX7 144 yX7_isHeap, Cond.instanceMethod yX7_isHeap, Cond.selects RX7 yX7_isHeap yX7_isHeap, Cond.initialized RX7, Cond.code yX7_isHeap cX7_isHeap 2 (some .boolean), Cond.methodLink RX7 223 yX2_everything, Cond.instanceMethod yX2_everything, Cond.selects RX2 yX2_everything yX2_everything, Cond.initialized RX2, Cond.code yX2_everything cX2_everything 1 (some .int), Cond.fieldLink RX2 18 "MadeItSo$Drawing" "things" "I", Cond.methodLink RX7 147 yX2_barred, Cond.instanceMethod yX2_barred, Cond.selects RX2 yX2_barred yX2_barred, Cond.code yX2_barred cX2_barred 12 (some .boolean), Cond.fieldLink RX2 9 "MadeItSo$Drawing" "parents" "[I", Cond.fieldLink RX2 15 "MadeItSo$Drawing" "children" "[I", Cond.methodLink RX2 51 yX2_spread, Cond.instanceMethod yX2_spread, Cond.selects RX2 yX2_spread yX2_spread, Cond.code yX2_spread cX2_spread 6 (some .int), Cond.methodLink RX2 55 yX2_gather, Cond.static yX2_gather]
def wsX7_bars_r2 : List Cond := [Cond.code yX2_gather cX2_gather 4 (some .int), Cond.static yX7_inHeap, Cond.code yX7_inHeap cX7_inHeap 2 (some .boolean)]
def wsX7_bars : List Cond := .code yX7_bars cX7_bars 4 (some .boolean) :: ((wsX7_bars_r1 ++ wsX7_bars_r2) ++ wsX70 ++ wsX20)
def wsX7_areTwo : List Cond := .code yX7_areTwo cX7_areTwo 3 (some .boolean) :: ([.fieldLink RX7 12 "MadeItSo" "drawing" "LMadeItSo$Drawing;", .methodLink RX7 77 yX2_has, .instanceMethod yX2_has, .selects RX2 yX2_has yX2_has, .initialized RX2, .code yX2_has cX2_has 2 (some .boolean), .fieldLink RX2 18 "MadeItSo$Drawing" "things" "I"] ++ wsX70 ++ wsX20)
def wsX7_least_r1 : List Cond := [Cond.fieldLink RX7 43 "MadeItSo" "leastHeaps" "LMadeItSo$LeastHeaps;", Cond.fieldLink RX7 12 "MadeItSo" "drawing" "LMadeItSo$Drawing;", Cond.fieldLink RX7 54 "MadeItSo" "seenHeap" "I", Cond.methodLink RX7 151 yX7_areTwo, Cond.instanceMethod yX7_areTwo, Cond.selects RX7 yX7_areTwo yX7_areTwo, Cond.initialized RX7, Cond.code yX7_areTwo cX7_areTwo 3 (some .boolean), Cond.methodLink RX7 77 yX2_has, Cond.instanceMethod yX2_has, Cond.selects RX2 yX2_has yX2_has, Cond.initialized RX2, Cond.code yX2_has cX2_has 2 (some .boolean), Cond.fieldLink RX2 18 "MadeItSo$Drawing" "things" "I", Cond.methodLink RX7 154 yX3_seek, Cond.instanceMethod yX3_seek, Cond.selects RX3 yX3_seek yX3_seek, Cond.initialized RX3, Cond.code yX3_seek cX3_seek 9 none, Cond.fieldLink RX3 15 "MadeItSo$LeastHeaps" "many" "I", Cond.fieldLink RX3 9 "MadeItSo$LeastHeaps" "found" "[I", Cond.static yX7_bit, Cond.code yX7_bit cX7_bit 1 (some .int), Cond.static yX7_partsOf]
def wsX7_least_r2 : List Cond := [Cond.code yX7_partsOf cX7_partsOf 1 (some .int), Cond.methodLink RX7 239 yJ6_bitCount_0f7a4, Cond.static yJ6_bitCount_0f7a4, Cond.initialized RJ6, Cond.code yJ6_bitCount_0f7a4 cJ6_bitCount_0f7a4 1 (some .int), Cond.constant RJ6 265 (1431655765), Cond.constant RJ6 266 (858993459), Cond.constant RJ6 267 (252645135), Cond.methodLink RX3 26 yX3_holdsOne, Cond.instanceMethod yX3_holdsOne, Cond.selects RX3 yX3_holdsOne yX3_holdsOne, Cond.code yX3_holdsOne cX3_holdsOne 3 (some .boolean), Cond.methodLink RX3 30 yX2_barred, Cond.instanceMethod yX2_barred, Cond.selects RX2 yX2_barred yX2_barred, Cond.code yX2_barred cX2_barred 12 (some .boolean), Cond.fieldLink RX2 9 "MadeItSo$Drawing" "parents" "[I", Cond.fieldLink RX2 15 "MadeItSo$Drawing" "children" "[I", Cond.methodLink RX2 51 yX2_spread, Cond.instanceMethod yX2_spread, Cond.selects RX2 yX2_spread yX2_spread, Cond.code yX2_spread cX2_spread 6 (some .int), Cond.methodLink RX2 55 yX2_gather, Cond.static yX2_gather]
def wsX7_least_r3 : List Cond := [Cond.code yX2_gather cX2_gather 4 (some .int), Cond.static yX7_inHeap, Cond.code yX7_inHeap cX7_inHeap 2 (some .boolean), Cond.static yX7_nextPart, Cond.code yX7_nextPart cX7_nextPart 2 (some .int), Cond.methodLink RX7 158 yX3_size, Cond.instanceMethod yX3_size, Cond.selects RX3 yX3_size yX3_size, Cond.code yX3_size cX3_size 1 (some .int)]
def wsX7_least : List Cond := .code yX7_least cX7_least 3 (some .int) :: ((wsX7_least_r1 ++ (wsX7_least_r2 ++ wsX7_least_r3)) ++ wsX70 ++ wsX20 ++ wsX30)
def wsX7_leastAt_r1 : List Cond := [Cond.fieldLink RX7 43 "MadeItSo" "leastHeaps" "LMadeItSo$LeastHeaps;", Cond.fieldLink RX7 12 "MadeItSo" "drawing" "LMadeItSo$Drawing;", Cond.fieldLink RX7 54 "MadeItSo" "seenHeap" "I", Cond.methodLink RX7 151 yX7_areTwo, Cond.instanceMethod yX7_areTwo, Cond.selects RX7 yX7_areTwo yX7_areTwo, Cond.initialized RX7, Cond.code yX7_areTwo cX7_areTwo 3 (some .boolean), Cond.methodLink RX7 77 yX2_has, Cond.instanceMethod yX2_has, Cond.selects RX2 yX2_has yX2_has, Cond.initialized RX2, Cond.code yX2_has cX2_has 2 (some .boolean), Cond.fieldLink RX2 18 "MadeItSo$Drawing" "things" "I", Cond.methodLink RX7 154 yX3_seek, Cond.instanceMethod yX3_seek, Cond.selects RX3 yX3_seek yX3_seek, Cond.initialized RX3, Cond.code yX3_seek cX3_seek 9 none, Cond.fieldLink RX3 15 "MadeItSo$LeastHeaps" "many" "I", Cond.fieldLink RX3 9 "MadeItSo$LeastHeaps" "found" "[I", Cond.static yX7_bit, Cond.code yX7_bit cX7_bit 1 (some .int), Cond.static yX7_partsOf]
def wsX7_leastAt_r2 : List Cond := [Cond.code yX7_partsOf cX7_partsOf 1 (some .int), Cond.methodLink RX7 239 yJ6_bitCount_0f7a4, Cond.static yJ6_bitCount_0f7a4, Cond.initialized RJ6, Cond.code yJ6_bitCount_0f7a4 cJ6_bitCount_0f7a4 1 (some .int), Cond.constant RJ6 265 (1431655765), Cond.constant RJ6 266 (858993459), Cond.constant RJ6 267 (252645135), Cond.methodLink RX3 26 yX3_holdsOne, Cond.instanceMethod yX3_holdsOne, Cond.selects RX3 yX3_holdsOne yX3_holdsOne, Cond.code yX3_holdsOne cX3_holdsOne 3 (some .boolean), Cond.methodLink RX3 30 yX2_barred, Cond.instanceMethod yX2_barred, Cond.selects RX2 yX2_barred yX2_barred, Cond.code yX2_barred cX2_barred 12 (some .boolean), Cond.fieldLink RX2 9 "MadeItSo$Drawing" "parents" "[I", Cond.fieldLink RX2 15 "MadeItSo$Drawing" "children" "[I", Cond.methodLink RX2 51 yX2_spread, Cond.instanceMethod yX2_spread, Cond.selects RX2 yX2_spread yX2_spread, Cond.code yX2_spread cX2_spread 6 (some .int), Cond.methodLink RX2 55 yX2_gather, Cond.static yX2_gather]
def wsX7_leastAt_r3 : List Cond := [Cond.code yX2_gather cX2_gather 4 (some .int), Cond.static yX7_inHeap, Cond.code yX7_inHeap cX7_inHeap 2 (some .boolean), Cond.static yX7_nextPart, Cond.code yX7_nextPart cX7_nextPart 2 (some .int), Cond.methodLink RX7 161 yX3_at, Cond.instanceMethod yX3_at, Cond.selects RX3 yX3_at yX3_at, Cond.code yX3_at cX3_at 2 (some .int)]
def wsX7_leastAt : List Cond := .code yX7_leastAt cX7_leastAt 4 (some .int) :: ((wsX7_leastAt_r1 ++ (wsX7_leastAt_r2 ++ wsX7_leastAt_r3)) ++ wsX70 ++ wsX20 ++ wsX30)
def wsX7_fit_r1 : List Cond := [Cond.fieldLink RX7 54 "MadeItSo" "seenHeap" "I", Cond.fieldLink RX7 12 "MadeItSo" "drawing" "LMadeItSo$Drawing;", Cond.fieldLink RX7 16 "MadeItSo" "thinned" "LMadeItSo$Drawing;", Cond.methodLink RX7 151 yX7_areTwo, Cond.instanceMethod yX7_areTwo, Cond.selects RX7 yX7_areTwo yX7_areTwo, Cond.initialized RX7, Cond.code yX7_areTwo cX7_areTwo 3 (some .boolean), Cond.methodLink RX7 77 yX2_has, Cond.instanceMethod yX2_has, Cond.selects RX2 yX2_has yX2_has, Cond.initialized RX2, Cond.code yX2_has cX2_has 2 (some .boolean), Cond.fieldLink RX2 18 "MadeItSo$Drawing" "things" "I", Cond.methodLink RX7 144 yX7_isHeap, Cond.instanceMethod yX7_isHeap, Cond.selects RX7 yX7_isHeap yX7_isHeap, Cond.code yX7_isHeap cX7_isHeap 2 (some .boolean), Cond.methodLink RX7 223 yX2_everything, Cond.instanceMethod yX2_everything, Cond.selects RX2 yX2_everything yX2_everything, Cond.code yX2_everything cX2_everything 1 (some .int), Cond.methodLink RX7 106 yX7_inHeap, Cond.static yX7_inHeap]
def wsX7_fit_r2 : List Cond := [Cond.code yX7_inHeap cX7_inHeap 2 (some .boolean), Cond.methodLink RX7 115 yX2_allBelow, Cond.instanceMethod yX2_allBelow, Cond.selects RX2 yX2_allBelow yX2_allBelow, Cond.code yX2_allBelow cX2_allBelow 2 (some .int), Cond.methodLink RX2 45 yX2_childrenOf, Cond.instanceMethod yX2_childrenOf, Cond.selects RX2 yX2_childrenOf yX2_childrenOf, Cond.code yX2_childrenOf cX2_childrenOf 2 (some .int), Cond.fieldLink RX2 15 "MadeItSo$Drawing" "children" "[I", Cond.methodLink RX2 22 yX2_has, Cond.methodLink RX2 48 yX2_withAllBelow, Cond.instanceMethod yX2_withAllBelow, Cond.selects RX2 yX2_withAllBelow yX2_withAllBelow, Cond.code yX2_withAllBelow cX2_withAllBelow 2 (some .int), Cond.methodLink RX2 51 yX2_spread, Cond.instanceMethod yX2_spread, Cond.selects RX2 yX2_spread yX2_spread, Cond.code yX2_spread cX2_spread 6 (some .int), Cond.methodLink RX2 55 yX2_gather, Cond.static yX2_gather, Cond.code yX2_gather cX2_gather 4 (some .int), Cond.methodLink RX7 73 yX7_bit, Cond.static yX7_bit]
def wsX7_fit_r3 : List Cond := [Cond.code yX7_bit cX7_bit 1 (some .int), Cond.methodLink RX7 147 yX2_barred, Cond.instanceMethod yX2_barred, Cond.selects RX2 yX2_barred yX2_barred, Cond.code yX2_barred cX2_barred 12 (some .boolean), Cond.fieldLink RX2 9 "MadeItSo$Drawing" "parents" "[I", Cond.methodLink RX7 164 yX2_road, Cond.instanceMethod yX2_road, Cond.selects RX2 yX2_road yX2_road, Cond.code yX2_road cX2_road 3 (some .int), Cond.methodLink RX2 34 yX2_allBelow, Cond.methodLink RX7 167 yX2_withAllBelow, Cond.methodLink RX7 170 yX2_copyWithout, Cond.instanceMethod yX2_copyWithout, Cond.selects RX2 yX2_copyWithout yX2_copyWithout, Cond.code yX2_copyWithout cX2_copyWithout 5 none]
def wsX7_fit : List Cond := .code yX7_fit cX7_fit 5 (some .boolean) :: ((wsX7_fit_r1 ++ (wsX7_fit_r2 ++ wsX7_fit_r3)) ++ wsX70 ++ wsX20)
def wsX7_isBit : List Cond := .code yX7_isBit cX7_isBit 1 (some .boolean) :: ([])
def wsX7_settingOf : List Cond := .code yX7_settingOf cX7_settingOf 2 (some .int) :: ([.methodLink RX7 73 yX7_bit, .static yX7_bit, .initialized RX7, .code yX7_bit cX7_bit 1 (some .int)])
def wsX7_sumOver_r1 : List Cond := [Cond.fieldLink RX7 36 "MadeItSo" "total" "LMadeItSo$Total;", Cond.fieldLink RX7 29 "MadeItSo" "weights" "LMadeItSo$Weights;", Cond.methodLink RX7 226 yX5_clear, Cond.instanceMethod yX5_clear, Cond.selects RX5 yX5_clear yX5_clear, Cond.initialized RX5, Cond.code yX5_clear cX5_clear 1 none, Cond.fieldLink RX5 10 "MadeItSo$Total" "top" "LMadeItSo$Big;", Cond.fieldLink RX5 16 "MadeItSo$Total" "bottom" "LMadeItSo$Big;", Cond.methodLink RX5 22 yX0_becomeDigit, Cond.instanceMethod yX0_becomeDigit, Cond.selects RX0 yX0_becomeDigit yX0_becomeDigit, Cond.initialized RX0, Cond.code yX0_becomeDigit cX0_becomeDigit 3 none, Cond.fieldLink RX0 13 "MadeItSo$Big" "used" "I", Cond.fieldLink RX0 9 "MadeItSo$Big" "limbs" "[J", Cond.methodLink RX0 17 yX0_trim, Cond.instanceMethod yX0_trim, Cond.selects RX0 yX0_trim yX0_trim, Cond.code yX0_trim cX0_trim 2 none, Cond.methodLink RX7 220 yX7_partsOf, Cond.static yX7_partsOf, Cond.initialized RX7, Cond.code yX7_partsOf cX7_partsOf 1 (some .int)]
def wsX7_sumOver_r2 : List Cond := [Cond.methodLink RX7 239 yJ6_bitCount_0f7a4, Cond.static yJ6_bitCount_0f7a4, Cond.initialized RJ6, Cond.code yJ6_bitCount_0f7a4 cJ6_bitCount_0f7a4 1 (some .int), Cond.constant RJ6 265 (1431655765), Cond.constant RJ6 266 (858993459), Cond.constant RJ6 267 (252645135), Cond.methodLink RX7 133 yX6_having, Cond.instanceMethod yX6_having, Cond.selects RX6 yX6_having yX6_having, Cond.initialized RX6, Cond.code yX6_having cX6_having 9 (some .long), Cond.fieldLink RX6 15 "MadeItSo$Weights" "everything" "I", Cond.fieldLink RX6 9 "MadeItSo$Weights" "ofCase" "[J", Cond.static yX7_nextPart, Cond.code yX7_nextPart cX7_nextPart 2 (some .int), Cond.methodLink RX7 127 yX7_heapOf, Cond.static yX7_heapOf, Cond.code yX7_heapOf cX7_heapOf 1 (some .int), Cond.methodLink RX7 130 yX7_onesOf, Cond.static yX7_onesOf, Cond.code yX7_onesOf cX7_onesOf 1 (some .int), Cond.methodLink RX7 137 yX7_clash, Cond.static yX7_clash]
def wsX7_sumOver_r3 : List Cond := [Cond.code yX7_clash cX7_clash 2 (some .boolean), Cond.methodLink RX7 229 yX5_add, Cond.instanceMethod yX5_add, Cond.selects RX5 yX5_add yX5_add, Cond.code yX5_add cX5_add 13 none, Cond.fieldLink RX5 19 "MadeItSo$Total" "spare" "LMadeItSo$Big;", Cond.static yX7_commonDivisor, Cond.code yX7_commonDivisor cX7_commonDivisor 11 (some .long), Cond.methodLink RX7 199 Lib.MathLoose.max_long.x, Cond.static Lib.MathLoose.max_long.x, Cond.initialized "java/lang/Math", Cond.code Lib.MathLoose.max_long.x Lib.MathLoose.max_long.code 4 (some .long), Cond.methodLink RX5 32 yX0_become, Cond.instanceMethod yX0_become, Cond.selects RX0 yX0_become yX0_become, Cond.code yX0_become cX0_become 4 none, Cond.methodLink RX0 20 Lib.Math.max.name, Cond.static Lib.Math.max.name, Cond.code Lib.Math.max.name Lib.Math.max.code 2 (some .int), Cond.methodLink RX5 36 yX0_times, Cond.instanceMethod yX0_times, Cond.selects RX0 yX0_times yX0_times, Cond.code yX0_times cX0_times 16 none, Cond.constantLong RX0 26 (1073741823)]
def wsX7_sumOver_r4 : List Cond := [Cond.methodLink RX0 28 Lib.Math.min.name, Cond.static Lib.Math.min.name, Cond.code Lib.Math.min.name Lib.Math.min.code 2 (some .int), Cond.methodLink RX5 40 yX0_plus, Cond.instanceMethod yX0_plus, Cond.selects RX0 yX0_plus yX0_plus, Cond.code yX0_plus cX0_plus 7 none, Cond.methodLink RX7 233 yX7_nextPart]
def wsX7_sumOver : List Cond := .code yX7_sumOver cX7_sumOver 12 (some .boolean) :: ((wsX7_sumOver_r1 ++ (wsX7_sumOver_r2 ++ (wsX7_sumOver_r3 ++ wsX7_sumOver_r4))) ++ wsX70 ++ wsX50 ++ wsX00 ++ wsX60)
def wsX7_agrees_r1 : List Cond := [Cond.fieldLink RX7 12 "MadeItSo" "drawing" "LMadeItSo$Drawing;", Cond.fieldLink RX7 29 "MadeItSo" "weights" "LMadeItSo$Weights;", Cond.fieldLink RX7 22 "MadeItSo" "books" "LMadeItSo$Books;", Cond.fieldLink RX7 36 "MadeItSo" "total" "LMadeItSo$Total;", Cond.methodLink RX7 77 yX2_has, Cond.instanceMethod yX2_has, Cond.selects RX2 yX2_has yX2_has, Cond.initialized RX2, Cond.code yX2_has cX2_has 2 (some .boolean), Cond.fieldLink RX2 18 "MadeItSo$Drawing" "things" "I", Cond.methodLink RX7 144 yX7_isHeap, Cond.instanceMethod yX7_isHeap, Cond.selects RX7 yX7_isHeap yX7_isHeap, Cond.initialized RX7, Cond.code yX7_isHeap cX7_isHeap 2 (some .boolean), Cond.methodLink RX7 223 yX2_everything, Cond.instanceMethod yX2_everything, Cond.selects RX2 yX2_everything yX2_everything, Cond.code yX2_everything cX2_everything 1 (some .int), Cond.methodLink RX7 106 yX7_inHeap, Cond.static yX7_inHeap, Cond.code yX7_inHeap cX7_inHeap 2 (some .boolean), Cond.methodLink RX7 174 yX7_isBit, Cond.static yX7_isBit]
def wsX7_agrees_r2 : List Cond := [Cond.code yX7_isBit cX7_isBit 1 (some .boolean), Cond.methodLink RX7 177 yX7_settingOf, Cond.static yX7_settingOf, Cond.code yX7_settingOf cX7_settingOf 2 (some .int), Cond.methodLink RX7 73 yX7_bit, Cond.static yX7_bit, Cond.code yX7_bit cX7_bit 1 (some .int), Cond.methodLink RX7 123 yX6_weigh, Cond.instanceMethod yX6_weigh, Cond.selects RX6 yX6_weigh yX6_weigh, Cond.initialized RX6, Cond.code yX6_weigh cX6_weigh 10 none, Cond.fieldLink RX6 15 "MadeItSo$Weights" "everything" "I", Cond.fieldLink RX6 9 "MadeItSo$Weights" "ofCase" "[J", Cond.methodLink RX6 19 yX2_everything, Cond.methodLink RX6 24 yX2_size, Cond.instanceMethod yX2_size, Cond.selects RX2 yX2_size yX2_size, Cond.code yX2_size cX2_size 1 (some .int), Cond.methodLink RX6 27 yX2_nextAfter, Cond.instanceMethod yX2_nextAfter, Cond.selects RX2 yX2_nextAfter yX2_nextAfter, Cond.code yX2_nextAfter cX2_nextAfter 3 (some .int), Cond.fieldLink RX2 9 "MadeItSo$Drawing" "parents" "[I"]
def wsX7_agrees_r3 : List Cond := [Cond.static yX7_partsOf, Cond.code yX7_partsOf cX7_partsOf 1 (some .int), Cond.methodLink RX7 239 yJ6_bitCount_0f7a4, Cond.static yJ6_bitCount_0f7a4, Cond.initialized RJ6, Cond.code yJ6_bitCount_0f7a4 cJ6_bitCount_0f7a4 1 (some .int), Cond.constant RJ6 265 (1431655765), Cond.constant RJ6 266 (858993459), Cond.constant RJ6 267 (252645135), Cond.methodLink RX6 37 yX1_partsUnder, Cond.instanceMethod yX1_partsUnder, Cond.selects RX1 yX1_partsUnder yX1_partsUnder, Cond.initialized RX1, Cond.code yX1_partsUnder cX1_partsUnder 5 (some .int), Cond.static yX7_heapOf, Cond.code yX7_heapOf cX7_heapOf 1 (some .int), Cond.static yX7_onesOf, Cond.code yX7_onesOf cX7_onesOf 1 (some .int), Cond.methodLink RX1 29 yX2_parentsOf, Cond.instanceMethod yX2_parentsOf, Cond.selects RX2 yX2_parentsOf yX2_parentsOf, Cond.code yX2_parentsOf cX2_parentsOf 2 (some .int), Cond.methodLink RX2 22 yX2_has, Cond.methodLink RX1 34 yX1_rowOf]
def wsX7_agrees_r4 : List Cond := [Cond.static yX1_rowOf, Cond.code yX1_rowOf cX1_rowOf 5 (some .int), Cond.methodLink RX1 38 yX1_read, Cond.instanceMethod yX1_read, Cond.selects RX1 yX1_read yX1_read, Cond.code yX1_read cX1_read 3 (some .int), Cond.fieldLink RX1 9 "MadeItSo$Books" "parts" "[I", Cond.methodLink RX1 15 yX1_isPlace, Cond.static yX1_isPlace, Cond.code yX1_isPlace cX1_isPlace 2 (some .boolean), Cond.methodLink RX6 43 yX6_split, Cond.instanceMethod yX6_split, Cond.selects RX6 yX6_split yX6_split, Cond.code yX6_split cX6_split 6 none, Cond.static yX7_nextPart, Cond.code yX7_nextPart cX7_nextPart 2 (some .int), Cond.methodLink RX7 130 yX7_onesOf, Cond.methodLink RX7 133 yX6_having, Cond.instanceMethod yX6_having, Cond.selects RX6 yX6_having yX6_having, Cond.code yX6_having cX6_having 9 (some .long), Cond.methodLink RX7 180 yX7_sumOver, Cond.instanceMethod yX7_sumOver, Cond.selects RX7 yX7_sumOver yX7_sumOver]
def wsX7_agrees_r5 : List Cond := [Cond.code yX7_sumOver cX7_sumOver 12 (some .boolean), Cond.methodLink RX7 226 yX5_clear, Cond.instanceMethod yX5_clear, Cond.selects RX5 yX5_clear yX5_clear, Cond.initialized RX5, Cond.code yX5_clear cX5_clear 1 none, Cond.fieldLink RX5 10 "MadeItSo$Total" "top" "LMadeItSo$Big;", Cond.fieldLink RX5 16 "MadeItSo$Total" "bottom" "LMadeItSo$Big;", Cond.methodLink RX5 22 yX0_becomeDigit, Cond.instanceMethod yX0_becomeDigit, Cond.selects RX0 yX0_becomeDigit yX0_becomeDigit, Cond.initialized RX0, Cond.code yX0_becomeDigit cX0_becomeDigit 3 none, Cond.fieldLink RX0 13 "MadeItSo$Big" "used" "I", Cond.fieldLink RX0 9 "MadeItSo$Big" "limbs" "[J", Cond.methodLink RX0 17 yX0_trim, Cond.instanceMethod yX0_trim, Cond.selects RX0 yX0_trim yX0_trim, Cond.code yX0_trim cX0_trim 2 none, Cond.methodLink RX7 220 yX7_partsOf, Cond.methodLink RX7 127 yX7_heapOf, Cond.methodLink RX7 137 yX7_clash, Cond.static yX7_clash, Cond.code yX7_clash cX7_clash 2 (some .boolean)]
def wsX7_agrees_r6 : List Cond := [Cond.methodLink RX7 229 yX5_add, Cond.instanceMethod yX5_add, Cond.selects RX5 yX5_add yX5_add, Cond.code yX5_add cX5_add 13 none, Cond.fieldLink RX5 19 "MadeItSo$Total" "spare" "LMadeItSo$Big;", Cond.static yX7_commonDivisor, Cond.code yX7_commonDivisor cX7_commonDivisor 11 (some .long), Cond.methodLink RX7 199 Lib.MathLoose.max_long.x, Cond.static Lib.MathLoose.max_long.x, Cond.initialized "java/lang/Math", Cond.code Lib.MathLoose.max_long.x Lib.MathLoose.max_long.code 4 (some .long), Cond.methodLink RX5 32 yX0_become, Cond.instanceMethod yX0_become, Cond.selects RX0 yX0_become yX0_become, Cond.code yX0_become cX0_become 4 none, Cond.methodLink RX0 20 Lib.Math.max.name, Cond.static Lib.Math.max.name, Cond.code Lib.Math.max.name Lib.Math.max.code 2 (some .int), Cond.methodLink RX5 36 yX0_times, Cond.instanceMethod yX0_times, Cond.selects RX0 yX0_times yX0_times, Cond.code yX0_times cX0_times 16 none, Cond.constantLong RX0 26 (1073741823), Cond.methodLink RX0 28 Lib.Math.min.name]
def wsX7_agrees_r7 : List Cond := [Cond.static Lib.Math.min.name, Cond.code Lib.Math.min.name Lib.Math.min.code 2 (some .int), Cond.methodLink RX5 40 yX0_plus, Cond.instanceMethod yX0_plus, Cond.selects RX0 yX0_plus yX0_plus, Cond.code yX0_plus cX0_plus 7 none, Cond.methodLink RX7 233 yX7_nextPart, Cond.methodLink RX7 183 yX5_is, Cond.instanceMethod yX5_is, Cond.selects RX5 yX5_is yX5_is, Cond.code yX5_is cX5_is 3 (some .boolean), Cond.methodLink RX5 43 yX0_same, Cond.instanceMethod yX0_same, Cond.selects RX0 yX0_same yX0_same, Cond.code yX0_same cX0_same 3 (some .boolean)]
def wsX7_agrees : List Cond := .code yX7_agrees cX7_agrees 8 (some .int) :: ((wsX7_agrees_r1 ++ (wsX7_agrees_r2 ++ (wsX7_agrees_r3 ++ (wsX7_agrees_r4 ++ (wsX7_agrees_r5 ++ (wsX7_agrees_r6 ++ wsX7_agrees_r7)))))) ++ wsX70 ++ wsX20 ++ wsX60 ++ wsX10 ++ wsX50 ++ wsX00)
def wsX7_alike_r1 : List Cond := [Cond.fieldLink RX7 50 "MadeItSo" "lookalikes" "LMadeItSo$Lookalikes;", Cond.fieldLink RX7 12 "MadeItSo" "drawing" "LMadeItSo$Drawing;", Cond.methodLink RX7 187 yX4_reckon, Cond.instanceMethod yX4_reckon, Cond.selects RX4 yX4_reckon yX4_reckon, Cond.initialized RX4, Cond.code yX4_reckon cX4_reckon 7 (some .int), Cond.fieldLink RX4 9 "MadeItSo$Lookalikes" "waysOf" "[I", Cond.methodLink RX4 15 yX2_everything, Cond.instanceMethod yX2_everything, Cond.selects RX2 yX2_everything yX2_everything, Cond.initialized RX2, Cond.code yX2_everything cX2_everything 1 (some .int), Cond.fieldLink RX2 18 "MadeItSo$Drawing" "things" "I", Cond.methodLink RX4 21 yX4_canBeLast, Cond.static yX4_canBeLast, Cond.code yX4_canBeLast cX4_canBeLast 4 (some .int), Cond.methodLink RX4 53 yX2_size, Cond.instanceMethod yX2_size, Cond.selects RX2 yX2_size yX2_size, Cond.code yX2_size cX2_size 1 (some .int), Cond.static yX7_inHeap, Cond.initialized RX7, Cond.code yX7_inHeap cX7_inHeap 2 (some .boolean)]
def wsX7_alike_r2 : List Cond := [Cond.methodLink RX4 56 yX2_joinedTo, Cond.instanceMethod yX2_joinedTo, Cond.selects RX2 yX2_joinedTo yX2_joinedTo, Cond.code yX2_joinedTo cX2_joinedTo 2 (some .int), Cond.fieldLink RX2 9 "MadeItSo$Drawing" "parents" "[I", Cond.fieldLink RX2 15 "MadeItSo$Drawing" "children" "[I", Cond.methodLink RX2 22 yX2_has, Cond.instanceMethod yX2_has, Cond.selects RX2 yX2_has yX2_has, Cond.code yX2_has cX2_has 2 (some .boolean), Cond.methodLink RX4 59 yX2_sameThirds, Cond.instanceMethod yX2_sameThirds, Cond.selects RX2 yX2_sameThirds yX2_sameThirds, Cond.code yX2_sameThirds cX2_sameThirds 5 (some .boolean), Cond.methodLink RX2 58 yX2_parentsOf, Cond.instanceMethod yX2_parentsOf, Cond.selects RX2 yX2_parentsOf yX2_parentsOf, Cond.code yX2_parentsOf cX2_parentsOf 2 (some .int), Cond.methodLink RX2 61 yX2_unjoinedWith, Cond.instanceMethod yX2_unjoinedWith, Cond.selects RX2 yX2_unjoinedWith yX2_unjoinedWith, Cond.code yX2_unjoinedWith cX2_unjoinedWith 3 (some .int), Cond.methodLink RX2 30 yX2_joinedTo, Cond.static yX7_bit]
def wsX7_alike_r3 : List Cond := [Cond.code yX7_bit cX7_bit 1 (some .int), Cond.methodLink RX4 33 yX4_waysEndingIn, Cond.instanceMethod yX4_waysEndingIn, Cond.selects RX4 yX4_waysEndingIn yX4_waysEndingIn, Cond.code yX4_waysEndingIn cX4_waysEndingIn 9 (some .int), Cond.static yX7_partsOf, Cond.code yX7_partsOf cX7_partsOf 1 (some .int), Cond.methodLink RX7 239 yJ6_bitCount_0f7a4, Cond.static yJ6_bitCount_0f7a4, Cond.initialized RJ6, Cond.code yJ6_bitCount_0f7a4 cJ6_bitCount_0f7a4 1 (some .int), Cond.constant RJ6 265 (1431655765), Cond.constant RJ6 266 (858993459), Cond.constant RJ6 267 (252645135), Cond.static yX7_nextPart, Cond.code yX7_nextPart cX7_nextPart 2 (some .int), Cond.methodLink RX4 44 yX2_apart, Cond.instanceMethod yX2_apart, Cond.selects RX2 yX2_apart yX2_apart, Cond.code yX2_apart cX2_apart 3 (some .boolean), Cond.methodLink RX4 48 yJ6_bitCount_0f7a4]
def wsX7_alike : List Cond := .code yX7_alike cX7_alike 1 (some .int) :: ((wsX7_alike_r1 ++ (wsX7_alike_r2 ++ wsX7_alike_r3)) ++ wsX70 ++ wsX40 ++ wsX20)
def wsX7_fixed_r1 : List Cond := [Cond.fieldLink RX7 12 "MadeItSo" "drawing" "LMadeItSo$Drawing;", Cond.fieldLink RX7 50 "MadeItSo" "lookalikes" "LMadeItSo$Lookalikes;", Cond.methodLink RX7 89 yX2_leads, Cond.instanceMethod yX2_leads, Cond.selects RX2 yX2_leads yX2_leads, Cond.initialized RX2, Cond.code yX2_leads cX2_leads 3 (some .boolean), Cond.fieldLink RX2 15 "MadeItSo$Drawing" "children" "[I", Cond.methodLink RX2 22 yX2_has, Cond.instanceMethod yX2_has, Cond.selects RX2 yX2_has yX2_has, Cond.code yX2_has cX2_has 2 (some .boolean), Cond.fieldLink RX2 18 "MadeItSo$Drawing" "things" "I", Cond.static yX7_inHeap, Cond.initialized RX7, Cond.code yX7_inHeap cX7_inHeap 2 (some .boolean), Cond.methodLink RX7 187 yX4_reckon, Cond.instanceMethod yX4_reckon, Cond.selects RX4 yX4_reckon yX4_reckon, Cond.initialized RX4, Cond.code yX4_reckon cX4_reckon 7 (some .int), Cond.fieldLink RX4 9 "MadeItSo$Lookalikes" "waysOf" "[I", Cond.methodLink RX4 15 yX2_everything, Cond.instanceMethod yX2_everything]
def wsX7_fixed_r2 : List Cond := [Cond.selects RX2 yX2_everything yX2_everything, Cond.code yX2_everything cX2_everything 1 (some .int), Cond.methodLink RX4 21 yX4_canBeLast, Cond.static yX4_canBeLast, Cond.code yX4_canBeLast cX4_canBeLast 4 (some .int), Cond.methodLink RX4 53 yX2_size, Cond.instanceMethod yX2_size, Cond.selects RX2 yX2_size yX2_size, Cond.code yX2_size cX2_size 1 (some .int), Cond.methodLink RX4 56 yX2_joinedTo, Cond.instanceMethod yX2_joinedTo, Cond.selects RX2 yX2_joinedTo yX2_joinedTo, Cond.code yX2_joinedTo cX2_joinedTo 2 (some .int), Cond.fieldLink RX2 9 "MadeItSo$Drawing" "parents" "[I", Cond.methodLink RX4 59 yX2_sameThirds, Cond.instanceMethod yX2_sameThirds, Cond.selects RX2 yX2_sameThirds yX2_sameThirds, Cond.code yX2_sameThirds cX2_sameThirds 5 (some .boolean), Cond.methodLink RX2 58 yX2_parentsOf, Cond.instanceMethod yX2_parentsOf, Cond.selects RX2 yX2_parentsOf yX2_parentsOf, Cond.code yX2_parentsOf cX2_parentsOf 2 (some .int), Cond.methodLink RX2 61 yX2_unjoinedWith, Cond.instanceMethod yX2_unjoinedWith]
def wsX7_fixed_r3 : List Cond := [Cond.selects RX2 yX2_unjoinedWith yX2_unjoinedWith, Cond.code yX2_unjoinedWith cX2_unjoinedWith 3 (some .int), Cond.methodLink RX2 30 yX2_joinedTo, Cond.static yX7_bit, Cond.code yX7_bit cX7_bit 1 (some .int), Cond.methodLink RX4 33 yX4_waysEndingIn, Cond.instanceMethod yX4_waysEndingIn, Cond.selects RX4 yX4_waysEndingIn yX4_waysEndingIn, Cond.code yX4_waysEndingIn cX4_waysEndingIn 9 (some .int), Cond.static yX7_partsOf, Cond.code yX7_partsOf cX7_partsOf 1 (some .int), Cond.methodLink RX7 239 yJ6_bitCount_0f7a4, Cond.static yJ6_bitCount_0f7a4, Cond.initialized RJ6, Cond.code yJ6_bitCount_0f7a4 cJ6_bitCount_0f7a4 1 (some .int), Cond.constant RJ6 265 (1431655765), Cond.constant RJ6 266 (858993459), Cond.constant RJ6 267 (252645135), Cond.static yX7_nextPart, Cond.code yX7_nextPart cX7_nextPart 2 (some .int), Cond.methodLink RX4 44 yX2_apart, Cond.instanceMethod yX2_apart, Cond.selects RX2 yX2_apart yX2_apart, Cond.code yX2_apart cX2_apart 3 (some .boolean)]
def wsX7_fixed_r4 : List Cond := [Cond.methodLink RX4 48 yJ6_bitCount_0f7a4]
def wsX7_fixed : List Cond := .code yX7_fixed cX7_fixed 3 (some .boolean) :: ((wsX7_fixed_r1 ++ (wsX7_fixed_r2 ++ (wsX7_fixed_r3 ++ wsX7_fixed_r4))) ++ wsX70 ++ wsX20 ++ wsX40)
def wsX7_leastOfBoth_r1 : List Cond := [Cond.fieldLink RX7 29 "MadeItSo" "weights" "LMadeItSo$Weights;", Cond.methodLink RX7 199 Lib.MathLoose.max_long.x, Cond.static Lib.MathLoose.max_long.x, Cond.initialized "java/lang/Math", Cond.code Lib.MathLoose.max_long.x Lib.MathLoose.max_long.code 4 (some .long), Cond.methodLink RX7 73 yX7_bit, Cond.static yX7_bit, Cond.initialized RX7, Cond.code yX7_bit cX7_bit 1 (some .int), Cond.methodLink RX7 133 yX6_having, Cond.instanceMethod yX6_having, Cond.selects RX6 yX6_having yX6_having, Cond.initialized RX6, Cond.code yX6_having cX6_having 9 (some .long), Cond.fieldLink RX6 15 "MadeItSo$Weights" "everything" "I", Cond.fieldLink RX6 9 "MadeItSo$Weights" "ofCase" "[J", Cond.static yX7_partsOf, Cond.code yX7_partsOf cX7_partsOf 1 (some .int), Cond.methodLink RX7 239 yJ6_bitCount_0f7a4, Cond.static yJ6_bitCount_0f7a4, Cond.initialized RJ6, Cond.code yJ6_bitCount_0f7a4 cJ6_bitCount_0f7a4 1 (some .int), Cond.constant RJ6 265 (1431655765), Cond.constant RJ6 266 (858993459)]
def wsX7_leastOfBoth_r2 : List Cond := [Cond.constant RJ6 267 (252645135), Cond.static yX7_nextPart, Cond.code yX7_nextPart cX7_nextPart 2 (some .int)]
def wsX7_leastOfBoth : List Cond := .code yX7_leastOfBoth cX7_leastOfBoth 10 (some .long) :: ((wsX7_leastOfBoth_r1 ++ wsX7_leastOfBoth_r2) ++ wsX70 ++ wsX60)
def wsX7_mostOfBoth_r1 : List Cond := [Cond.fieldLink RX7 29 "MadeItSo" "weights" "LMadeItSo$Weights;", Cond.methodLink RX7 236 Lib.MathLoose.min_long.x, Cond.static Lib.MathLoose.min_long.x, Cond.initialized "java/lang/Math", Cond.code Lib.MathLoose.min_long.x Lib.MathLoose.min_long.code 4 (some .long), Cond.methodLink RX7 73 yX7_bit, Cond.static yX7_bit, Cond.initialized RX7, Cond.code yX7_bit cX7_bit 1 (some .int), Cond.methodLink RX7 133 yX6_having, Cond.instanceMethod yX6_having, Cond.selects RX6 yX6_having yX6_having, Cond.initialized RX6, Cond.code yX6_having cX6_having 9 (some .long), Cond.fieldLink RX6 15 "MadeItSo$Weights" "everything" "I", Cond.fieldLink RX6 9 "MadeItSo$Weights" "ofCase" "[J", Cond.static yX7_partsOf, Cond.code yX7_partsOf cX7_partsOf 1 (some .int), Cond.methodLink RX7 239 yJ6_bitCount_0f7a4, Cond.static yJ6_bitCount_0f7a4, Cond.initialized RJ6, Cond.code yJ6_bitCount_0f7a4 cJ6_bitCount_0f7a4 1 (some .int), Cond.constant RJ6 265 (1431655765), Cond.constant RJ6 266 (858993459)]
def wsX7_mostOfBoth_r2 : List Cond := [Cond.constant RJ6 267 (252645135), Cond.static yX7_nextPart, Cond.code yX7_nextPart cX7_nextPart 2 (some .int)]
def wsX7_mostOfBoth : List Cond := .code yX7_mostOfBoth cX7_mostOfBoth 14 (some .long) :: ((wsX7_mostOfBoth_r1 ++ wsX7_mostOfBoth_r2) ++ wsX70 ++ wsX60)
def wsX7_mostOfNeed_r1 : List Cond := [Cond.fieldLink RX7 29 "MadeItSo" "weights" "LMadeItSo$Weights;", Cond.methodLink RX7 236 Lib.MathLoose.min_long.x, Cond.static Lib.MathLoose.min_long.x, Cond.initialized "java/lang/Math", Cond.code Lib.MathLoose.min_long.x Lib.MathLoose.min_long.code 4 (some .long), Cond.methodLink RX7 73 yX7_bit, Cond.static yX7_bit, Cond.initialized RX7, Cond.code yX7_bit cX7_bit 1 (some .int), Cond.methodLink RX7 133 yX6_having, Cond.instanceMethod yX6_having, Cond.selects RX6 yX6_having yX6_having, Cond.initialized RX6, Cond.code yX6_having cX6_having 9 (some .long), Cond.fieldLink RX6 15 "MadeItSo$Weights" "everything" "I", Cond.fieldLink RX6 9 "MadeItSo$Weights" "ofCase" "[J", Cond.static yX7_partsOf, Cond.code yX7_partsOf cX7_partsOf 1 (some .int), Cond.methodLink RX7 239 yJ6_bitCount_0f7a4, Cond.static yJ6_bitCount_0f7a4, Cond.initialized RJ6, Cond.code yJ6_bitCount_0f7a4 cJ6_bitCount_0f7a4 1 (some .int), Cond.constant RJ6 265 (1431655765), Cond.constant RJ6 266 (858993459)]
def wsX7_mostOfNeed_r2 : List Cond := [Cond.constant RJ6 267 (252645135), Cond.static yX7_nextPart, Cond.code yX7_nextPart cX7_nextPart 2 (some .int)]
def wsX7_mostOfNeed : List Cond := .code yX7_mostOfNeed cX7_mostOfNeed 8 (some .long) :: ((wsX7_mostOfNeed_r1 ++ wsX7_mostOfNeed_r2) ++ wsX70 ++ wsX60)
def wsX7_otherwise_r1 : List Cond := [Cond.constantLong RX7 121 (-1), Cond.fieldLink RX7 29 "MadeItSo" "weights" "LMadeItSo$Weights;", Cond.fieldLink RX7 12 "MadeItSo" "drawing" "LMadeItSo$Drawing;", Cond.fieldLink RX7 22 "MadeItSo" "books" "LMadeItSo$Books;", Cond.methodLink RX7 199 Lib.MathLoose.max_long.x, Cond.static Lib.MathLoose.max_long.x, Cond.initialized "java/lang/Math", Cond.code Lib.MathLoose.max_long.x Lib.MathLoose.max_long.code 4 (some .long), Cond.methodLink RX7 151 yX7_areTwo, Cond.instanceMethod yX7_areTwo, Cond.selects RX7 yX7_areTwo yX7_areTwo, Cond.initialized RX7, Cond.code yX7_areTwo cX7_areTwo 3 (some .boolean), Cond.methodLink RX7 77 yX2_has, Cond.instanceMethod yX2_has, Cond.selects RX2 yX2_has yX2_has, Cond.initialized RX2, Cond.code yX2_has cX2_has 2 (some .boolean), Cond.fieldLink RX2 18 "MadeItSo$Drawing" "things" "I", Cond.methodLink RX7 177 yX7_settingOf, Cond.static yX7_settingOf, Cond.code yX7_settingOf cX7_settingOf 2 (some .int), Cond.methodLink RX7 73 yX7_bit, Cond.static yX7_bit]
def wsX7_otherwise_r2 : List Cond := [Cond.code yX7_bit cX7_bit 1 (some .int), Cond.methodLink RX7 123 yX6_weigh, Cond.instanceMethod yX6_weigh, Cond.selects RX6 yX6_weigh yX6_weigh, Cond.initialized RX6, Cond.code yX6_weigh cX6_weigh 10 none, Cond.fieldLink RX6 15 "MadeItSo$Weights" "everything" "I", Cond.fieldLink RX6 9 "MadeItSo$Weights" "ofCase" "[J", Cond.methodLink RX6 19 yX2_everything, Cond.instanceMethod yX2_everything, Cond.selects RX2 yX2_everything yX2_everything, Cond.code yX2_everything cX2_everything 1 (some .int), Cond.methodLink RX6 24 yX2_size, Cond.instanceMethod yX2_size, Cond.selects RX2 yX2_size yX2_size, Cond.code yX2_size cX2_size 1 (some .int), Cond.methodLink RX6 27 yX2_nextAfter, Cond.instanceMethod yX2_nextAfter, Cond.selects RX2 yX2_nextAfter yX2_nextAfter, Cond.code yX2_nextAfter cX2_nextAfter 3 (some .int), Cond.fieldLink RX2 9 "MadeItSo$Drawing" "parents" "[I", Cond.static yX7_inHeap, Cond.code yX7_inHeap cX7_inHeap 2 (some .boolean), Cond.static yX7_partsOf]
def wsX7_otherwise_r3 : List Cond := [Cond.code yX7_partsOf cX7_partsOf 1 (some .int), Cond.methodLink RX7 239 yJ6_bitCount_0f7a4, Cond.static yJ6_bitCount_0f7a4, Cond.initialized RJ6, Cond.code yJ6_bitCount_0f7a4 cJ6_bitCount_0f7a4 1 (some .int), Cond.constant RJ6 265 (1431655765), Cond.constant RJ6 266 (858993459), Cond.constant RJ6 267 (252645135), Cond.methodLink RX6 37 yX1_partsUnder, Cond.instanceMethod yX1_partsUnder, Cond.selects RX1 yX1_partsUnder yX1_partsUnder, Cond.initialized RX1, Cond.code yX1_partsUnder cX1_partsUnder 5 (some .int), Cond.static yX7_heapOf, Cond.code yX7_heapOf cX7_heapOf 1 (some .int), Cond.static yX7_onesOf, Cond.code yX7_onesOf cX7_onesOf 1 (some .int), Cond.methodLink RX1 29 yX2_parentsOf, Cond.instanceMethod yX2_parentsOf, Cond.selects RX2 yX2_parentsOf yX2_parentsOf, Cond.code yX2_parentsOf cX2_parentsOf 2 (some .int), Cond.methodLink RX2 22 yX2_has, Cond.methodLink RX1 34 yX1_rowOf, Cond.static yX1_rowOf]
def wsX7_otherwise_r4 : List Cond := [Cond.code yX1_rowOf cX1_rowOf 5 (some .int), Cond.methodLink RX1 38 yX1_read, Cond.instanceMethod yX1_read, Cond.selects RX1 yX1_read yX1_read, Cond.code yX1_read cX1_read 3 (some .int), Cond.fieldLink RX1 9 "MadeItSo$Books" "parts" "[I", Cond.methodLink RX1 15 yX1_isPlace, Cond.static yX1_isPlace, Cond.code yX1_isPlace cX1_isPlace 2 (some .boolean), Cond.methodLink RX6 43 yX6_split, Cond.instanceMethod yX6_split, Cond.selects RX6 yX6_split yX6_split, Cond.code yX6_split cX6_split 6 none, Cond.static yX7_nextPart, Cond.code yX7_nextPart cX7_nextPart 2 (some .int), Cond.methodLink RX7 133 yX6_having, Cond.instanceMethod yX6_having, Cond.selects RX6 yX6_having yX6_having, Cond.code yX6_having cX6_having 9 (some .long), Cond.methodLink RX7 191 yX7_leastOfBoth, Cond.instanceMethod yX7_leastOfBoth, Cond.selects RX7 yX7_leastOfBoth yX7_leastOfBoth, Cond.code yX7_leastOfBoth cX7_leastOfBoth 10 (some .long), Cond.methodLink RX7 195 yX7_mostOfBoth]
def wsX7_otherwise_r5 : List Cond := [Cond.instanceMethod yX7_mostOfBoth, Cond.selects RX7 yX7_mostOfBoth yX7_mostOfBoth, Cond.code yX7_mostOfBoth cX7_mostOfBoth 14 (some .long), Cond.methodLink RX7 236 Lib.MathLoose.min_long.x, Cond.static Lib.MathLoose.min_long.x, Cond.code Lib.MathLoose.min_long.x Lib.MathLoose.min_long.code 4 (some .long), Cond.methodLink RX7 204 yX7_mostOfNeed, Cond.instanceMethod yX7_mostOfNeed, Cond.selects RX7 yX7_mostOfNeed yX7_mostOfNeed, Cond.code yX7_mostOfNeed cX7_mostOfNeed 8 (some .long)]
def wsX7_otherwise : List Cond := .code yX7_otherwise cX7_otherwise 8 (some .long) :: ((wsX7_otherwise_r1 ++ (wsX7_otherwise_r2 ++ (wsX7_otherwise_r3 ++ (wsX7_otherwise_r4 ++ wsX7_otherwise_r5)))) ++ wsX70 ++ wsX20 ++ wsX60 ++ wsX10)
def wsX7_draw_r1 : List Cond := [Cond.fieldLink RX7 12 "MadeItSo" "drawing" "LMadeItSo$Drawing;", Cond.constant RX7 212 (1103515245), Cond.fieldLink RX7 22 "MadeItSo" "books" "LMadeItSo$Books;", Cond.methodLink RX7 118 yX7_isSetting, Cond.instanceMethod yX7_isSetting, Cond.selects RX7 yX7_isSetting yX7_isSetting, Cond.initialized RX7, Cond.code yX7_isSetting cX7_isSetting 2 (some .boolean), Cond.methodLink RX7 127 yX7_heapOf, Cond.static yX7_heapOf, Cond.code yX7_heapOf cX7_heapOf 1 (some .int), Cond.methodLink RX7 144 yX7_isHeap, Cond.instanceMethod yX7_isHeap, Cond.selects RX7 yX7_isHeap yX7_isHeap, Cond.code yX7_isHeap cX7_isHeap 2 (some .boolean), Cond.methodLink RX7 223 yX2_everything, Cond.instanceMethod yX2_everything, Cond.selects RX2 yX2_everything yX2_everything, Cond.initialized RX2, Cond.code yX2_everything cX2_everything 1 (some .int), Cond.fieldLink RX2 18 "MadeItSo$Drawing" "things" "I", Cond.methodLink RX7 130 yX7_onesOf, Cond.static yX7_onesOf, Cond.code yX7_onesOf cX7_onesOf 1 (some .int)]
def wsX7_draw_r2 : List Cond := [Cond.methodLink RX7 208 yX2_size, Cond.instanceMethod yX2_size, Cond.selects RX2 yX2_size yX2_size, Cond.code yX2_size cX2_size 1 (some .int), Cond.methodLink RX7 209 yX2_nextAfter, Cond.instanceMethod yX2_nextAfter, Cond.selects RX2 yX2_nextAfter yX2_nextAfter, Cond.code yX2_nextAfter cX2_nextAfter 3 (some .int), Cond.fieldLink RX2 9 "MadeItSo$Drawing" "parents" "[I", Cond.static yX7_inHeap, Cond.code yX7_inHeap cX7_inHeap 2 (some .boolean), Cond.methodLink RX7 213 yX1_partsUnder, Cond.instanceMethod yX1_partsUnder, Cond.selects RX1 yX1_partsUnder yX1_partsUnder, Cond.initialized RX1, Cond.code yX1_partsUnder cX1_partsUnder 5 (some .int), Cond.methodLink RX1 29 yX2_parentsOf, Cond.instanceMethod yX2_parentsOf, Cond.selects RX2 yX2_parentsOf yX2_parentsOf, Cond.code yX2_parentsOf cX2_parentsOf 2 (some .int), Cond.methodLink RX2 22 yX2_has, Cond.instanceMethod yX2_has, Cond.selects RX2 yX2_has yX2_has, Cond.code yX2_has cX2_has 2 (some .boolean)]
def wsX7_draw_r3 : List Cond := [Cond.methodLink RX1 34 yX1_rowOf, Cond.static yX1_rowOf, Cond.code yX1_rowOf cX1_rowOf 5 (some .int), Cond.methodLink RX1 38 yX1_read, Cond.instanceMethod yX1_read, Cond.selects RX1 yX1_read yX1_read, Cond.code yX1_read cX1_read 3 (some .int), Cond.fieldLink RX1 9 "MadeItSo$Books" "parts" "[I", Cond.methodLink RX1 15 yX1_isPlace, Cond.static yX1_isPlace, Cond.code yX1_isPlace cX1_isPlace 2 (some .boolean), Cond.methodLink RX7 73 yX7_bit, Cond.static yX7_bit, Cond.code yX7_bit cX7_bit 1 (some .int)]
def wsX7_draw : List Cond := .code yX7_draw cX7_draw 8 (some .int) :: ((wsX7_draw_r1 ++ (wsX7_draw_r2 ++ wsX7_draw_r3)) ++ wsX70 ++ wsX20 ++ wsX10)
def wsX7_count : List Cond := .code yX7_count cX7_count 2 (some .int) :: ([.fieldLink RX7 12 "MadeItSo" "drawing" "LMadeItSo$Drawing;", .fieldLink RX7 54 "MadeItSo" "seenHeap" "I", .methodLink RX7 208 yX2_size, .instanceMethod yX2_size, .selects RX2 yX2_size yX2_size, .initialized RX2, .code yX2_size cX2_size 1 (some .int), .fieldLink RX2 18 "MadeItSo$Drawing" "things" "I", .methodLink RX7 217 yX2_arrows, .instanceMethod yX2_arrows, .selects RX2 yX2_arrows yX2_arrows, .code yX2_arrows cX2_arrows 3 (some .int), .fieldLink RX2 9 "MadeItSo$Drawing" "parents" "[I", .methodLink RX2 40 yJ6_bitCount_0f7a4, .static yJ6_bitCount_0f7a4, .initialized RJ6, .code yJ6_bitCount_0f7a4 cJ6_bitCount_0f7a4 1 (some .int), .constant RJ6 265 (1431655765), .constant RJ6 266 (858993459), .constant RJ6 267 (252645135)] ++ wsX70 ++ wsX20)
def wsX8_init : List Cond := .code yX8_init cX8_init 1 none :: ([.methodLink RX8 3 objectInit, .instanceMethod objectInit, .code objectInit ⟨#[0xb1]⟩ 1 none, .arrayClass .boolean, .fieldLink RX8 9 "MadeItSoModel" "isSeen" "[Z", .arrayClass .int, .fieldLink RX8 13 "MadeItSoModel" "parents" "[I", .fieldLink RX8 17 "MadeItSoModel" "books" "[I", .fieldLink RX8 20 "MadeItSoModel" "below" "J", .fieldLink RX8 24 "MadeItSoModel" "way" "[I", .fieldLink RX8 27 "MadeItSoModel" "tried" "[I", .fieldLink RX8 30 "MadeItSoModel" "isBarring" "[Z", .arrayClass .long, .fieldLink RX8 33 "MadeItSoModel" "up" "[J", .fieldLink RX8 37 "MadeItSoModel" "down" "[J", .fieldLink RX8 40 "MadeItSoModel" "helper" "[J", .fieldLink RX8 43 "MadeItSoModel" "order" "[I", .fieldLink RX8 46 "MadeItSoModel" "choice" "[I", .fieldLink RX8 49 "MadeItSoModel" "parentsThere" "[I", .fieldLink RX8 52 "MadeItSoModel" "isAlways" "[Z", .fieldLink RX8 55 "MadeItSoModel" "joined" "[I"] ++ wsX80)
def wsX8_isThing : List Cond := .code yX8_isThing cX8_isThing 2 (some .boolean) :: ([.fieldLink RX8 58 "MadeItSoModel" "many" "I"] ++ wsX80)
def wsX8_isHeap : List Cond := .code yX8_isHeap cX8_isHeap 2 (some .boolean) :: ([.fieldLink RX8 58 "MadeItSoModel" "many" "I"] ++ wsX80)
def wsX8_isSetting : List Cond := .code yX8_isSetting cX8_isSetting 2 (some .boolean) :: ([.constant RX8 62 (65536), .methodLink RX8 63 yX8_isHeap, .instanceMethod yX8_isHeap, .selects RX8 yX8_isHeap yX8_isHeap, .initialized RX8, .code yX8_isHeap cX8_isHeap 2 (some .boolean), .fieldLink RX8 58 "MadeItSoModel" "many" "I"] ++ wsX80)
def wsX8_fresh : List Cond := .code yX8_fresh cX8_fresh 3 none :: ([.fieldLink RX8 17 "MadeItSoModel" "books" "[I"] ++ wsX80)
def wsX8_thing : List Cond := .code yX8_thing cX8_thing 2 (some .int) :: ([.fieldLink RX8 58 "MadeItSoModel" "many" "I", .fieldLink RX8 9 "MadeItSoModel" "isSeen" "[Z", .fieldLink RX8 13 "MadeItSoModel" "parents" "[I", .methodLink RX8 67 yX8_fresh, .instanceMethod yX8_fresh, .selects RX8 yX8_fresh yX8_fresh, .initialized RX8, .code yX8_fresh cX8_fresh 3 none, .fieldLink RX8 17 "MadeItSoModel" "books" "[I"] ++ wsX80)
def wsX8_has : List Cond := .code yX8_has cX8_has 3 (some .boolean) :: ([.fieldLink RX8 13 "MadeItSoModel" "parents" "[I", .methodLink RX8 71 yX8_isThing, .instanceMethod yX8_isThing, .selects RX8 yX8_isThing yX8_isThing, .initialized RX8, .code yX8_isThing cX8_isThing 2 (some .boolean), .fieldLink RX8 58 "MadeItSoModel" "many" "I"] ++ wsX80)
def wsX8_parentsWithout : List Cond := .code yX8_parentsWithout cX8_parentsWithout 4 (some .int) :: ([.fieldLink RX8 13 "MadeItSoModel" "parents" "[I"] ++ wsX80)
def wsX8_belowOf : List Cond := .code yX8_belowOf cX8_belowOf 8 (some .int) :: ([.fieldLink RX8 58 "MadeItSoModel" "many" "I", .methodLink RX8 74 yX8_parentsWithout, .instanceMethod yX8_parentsWithout, .selects RX8 yX8_parentsWithout yX8_parentsWithout, .initialized RX8, .code yX8_parentsWithout cX8_parentsWithout 4 (some .int), .fieldLink RX8 13 "MadeItSoModel" "parents" "[I"] ++ wsX80)
def wsX8_arrow : List Cond := .code yX8_arrow cX8_arrow 3 (some .boolean) :: ([.fieldLink RX8 13 "MadeItSoModel" "parents" "[I", .methodLink RX8 71 yX8_isThing, .instanceMethod yX8_isThing, .selects RX8 yX8_isThing yX8_isThing, .initialized RX8, .code yX8_isThing cX8_isThing 2 (some .boolean), .fieldLink RX8 58 "MadeItSoModel" "many" "I", .methodLink RX8 78 yX8_has, .instanceMethod yX8_has, .selects RX8 yX8_has yX8_has, .code yX8_has cX8_has 3 (some .boolean), .methodLink RX8 82 yX8_belowOf, .instanceMethod yX8_belowOf, .selects RX8 yX8_belowOf yX8_belowOf, .code yX8_belowOf cX8_belowOf 8 (some .int), .methodLink RX8 74 yX8_parentsWithout, .instanceMethod yX8_parentsWithout, .selects RX8 yX8_parentsWithout yX8_parentsWithout, .code yX8_parentsWithout cX8_parentsWithout 4 (some .int), .methodLink RX8 67 yX8_fresh, .instanceMethod yX8_fresh, .selects RX8 yX8_fresh yX8_fresh, .code yX8_fresh cX8_fresh 3 none, .fieldLink RX8 17 "MadeItSoModel" "books" "[I"] ++ wsX80)
def wsX8_cut : List Cond := .code yX8_cut cX8_cut 3 (some .boolean) :: ([.fieldLink RX8 13 "MadeItSoModel" "parents" "[I", .methodLink RX8 78 yX8_has, .instanceMethod yX8_has, .selects RX8 yX8_has yX8_has, .initialized RX8, .code yX8_has cX8_has 3 (some .boolean), .methodLink RX8 71 yX8_isThing, .instanceMethod yX8_isThing, .selects RX8 yX8_isThing yX8_isThing, .code yX8_isThing cX8_isThing 2 (some .boolean), .fieldLink RX8 58 "MadeItSoModel" "many" "I", .methodLink RX8 67 yX8_fresh, .instanceMethod yX8_fresh, .selects RX8 yX8_fresh yX8_fresh, .code yX8_fresh cX8_fresh 3 none, .fieldLink RX8 17 "MadeItSoModel" "books" "[I"] ++ wsX80)
def wsX8_turn : List Cond := .code yX8_turn cX8_turn 4 (some .boolean) :: ([.fieldLink RX8 13 "MadeItSoModel" "parents" "[I", .methodLink RX8 78 yX8_has, .instanceMethod yX8_has, .selects RX8 yX8_has yX8_has, .initialized RX8, .code yX8_has cX8_has 3 (some .boolean), .methodLink RX8 71 yX8_isThing, .instanceMethod yX8_isThing, .selects RX8 yX8_isThing yX8_isThing, .code yX8_isThing cX8_isThing 2 (some .boolean), .fieldLink RX8 58 "MadeItSoModel" "many" "I", .methodLink RX8 82 yX8_belowOf, .instanceMethod yX8_belowOf, .selects RX8 yX8_belowOf yX8_belowOf, .code yX8_belowOf cX8_belowOf 8 (some .int), .methodLink RX8 74 yX8_parentsWithout, .instanceMethod yX8_parentsWithout, .selects RX8 yX8_parentsWithout yX8_parentsWithout, .code yX8_parentsWithout cX8_parentsWithout 4 (some .int), .methodLink RX8 67 yX8_fresh, .instanceMethod yX8_fresh, .selects RX8 yX8_fresh yX8_fresh, .code yX8_fresh cX8_fresh 3 none, .fieldLink RX8 17 "MadeItSoModel" "books" "[I"] ++ wsX80)
def wsX8_bits : List Cond := .code yX8_bits cX8_bits 3 (some .int) :: ([])
def wsX8_isRow : List Cond := .code yX8_isRow cX8_isRow 3 (some .boolean) :: ([.fieldLink RX8 13 "MadeItSoModel" "parents" "[I", .methodLink RX8 71 yX8_isThing, .instanceMethod yX8_isThing, .selects RX8 yX8_isThing yX8_isThing, .initialized RX8, .code yX8_isThing cX8_isThing 2 (some .boolean), .fieldLink RX8 58 "MadeItSoModel" "many" "I", .methodLink RX8 86 yX8_bits, .static yX8_bits, .code yX8_bits cX8_bits 3 (some .int)] ++ wsX80)
def wsX8_book : List Cond := .code yX8_book cX8_book 4 (some .boolean) :: ([.fieldLink RX8 17 "MadeItSoModel" "books" "[I", .methodLink RX8 90 yX8_isRow, .instanceMethod yX8_isRow, .selects RX8 yX8_isRow yX8_isRow, .initialized RX8, .code yX8_isRow cX8_isRow 3 (some .boolean), .fieldLink RX8 13 "MadeItSoModel" "parents" "[I", .methodLink RX8 71 yX8_isThing, .instanceMethod yX8_isThing, .selects RX8 yX8_isThing yX8_isThing, .code yX8_isThing cX8_isThing 2 (some .boolean), .fieldLink RX8 58 "MadeItSoModel" "many" "I", .methodLink RX8 86 yX8_bits, .static yX8_bits, .code yX8_bits cX8_bits 3 (some .int)] ++ wsX80)
def wsX8_booked : List Cond := .code yX8_booked cX8_booked 3 (some .int) :: ([.fieldLink RX8 17 "MadeItSoModel" "books" "[I", .methodLink RX8 90 yX8_isRow, .instanceMethod yX8_isRow, .selects RX8 yX8_isRow yX8_isRow, .initialized RX8, .code yX8_isRow cX8_isRow 3 (some .boolean), .fieldLink RX8 13 "MadeItSoModel" "parents" "[I", .methodLink RX8 71 yX8_isThing, .instanceMethod yX8_isThing, .selects RX8 yX8_isThing yX8_isThing, .code yX8_isThing cX8_isThing 2 (some .boolean), .fieldLink RX8 58 "MadeItSoModel" "many" "I", .methodLink RX8 86 yX8_bits, .static yX8_bits, .code yX8_bits cX8_bits 3 (some .int)] ++ wsX80)
def wsX8_told : List Cond := .code yX8_told cX8_told 5 (some .int) :: ([.fieldLink RX8 9 "MadeItSoModel" "isSeen" "[Z", .fieldLink RX8 13 "MadeItSoModel" "parents" "[I", .fieldLink RX8 58 "MadeItSoModel" "many" "I", .methodLink RX8 71 yX8_isThing, .instanceMethod yX8_isThing, .selects RX8 yX8_isThing yX8_isThing, .initialized RX8, .code yX8_isThing cX8_isThing 2 (some .boolean), .methodLink RX8 78 yX8_has, .instanceMethod yX8_has, .selects RX8 yX8_has yX8_has, .code yX8_has cX8_has 3 (some .boolean), .methodLink RX8 82 yX8_belowOf, .instanceMethod yX8_belowOf, .selects RX8 yX8_belowOf yX8_belowOf, .code yX8_belowOf cX8_belowOf 8 (some .int), .methodLink RX8 74 yX8_parentsWithout, .instanceMethod yX8_parentsWithout, .selects RX8 yX8_parentsWithout yX8_parentsWithout, .code yX8_parentsWithout cX8_parentsWithout 4 (some .int)] ++ wsX80)
def wsX8_partsOf : List Cond := .code yX8_partsOf cX8_partsOf 6 (some .int) :: ([.fieldLink RX8 58 "MadeItSoModel" "many" "I", .fieldLink RX8 13 "MadeItSoModel" "parents" "[I", .fieldLink RX8 17 "MadeItSoModel" "books" "[I"] ++ wsX80)
def wsX8_weightOf : List Cond := .code yX8_weightOf cX8_weightOf 7 (some .long) :: ([.fieldLink RX8 58 "MadeItSoModel" "many" "I", .constantLong RX8 96 (100), .methodLink RX8 93 yX8_partsOf, .instanceMethod yX8_partsOf, .selects RX8 yX8_partsOf yX8_partsOf, .initialized RX8, .code yX8_partsOf cX8_partsOf 6 (some .int), .fieldLink RX8 13 "MadeItSoModel" "parents" "[I", .fieldLink RX8 17 "MadeItSoModel" "books" "[I"] ++ wsX80)
def wsX8_sum : List Cond := .code yX8_sum cX8_sum 6 (some .long) :: ([.fieldLink RX8 58 "MadeItSoModel" "many" "I", .methodLink RX8 98 yX8_weightOf, .instanceMethod yX8_weightOf, .selects RX8 yX8_weightOf yX8_weightOf, .initialized RX8, .code yX8_weightOf cX8_weightOf 7 (some .long), .constantLong RX8 96 (100), .methodLink RX8 93 yX8_partsOf, .instanceMethod yX8_partsOf, .selects RX8 yX8_partsOf yX8_partsOf, .code yX8_partsOf cX8_partsOf 6 (some .int), .fieldLink RX8 13 "MadeItSoModel" "parents" "[I", .fieldLink RX8 17 "MadeItSoModel" "books" "[I"] ++ wsX80)
def wsX8_weight_r1 : List Cond := [Cond.constantLong RX8 108 (-1), Cond.methodLink RX8 102 yX8_isSetting, Cond.instanceMethod yX8_isSetting, Cond.selects RX8 yX8_isSetting yX8_isSetting, Cond.initialized RX8, Cond.code yX8_isSetting cX8_isSetting 2 (some .boolean), Cond.constant RX8 62 (65536), Cond.methodLink RX8 63 yX8_isHeap, Cond.instanceMethod yX8_isHeap, Cond.selects RX8 yX8_isHeap yX8_isHeap, Cond.code yX8_isHeap cX8_isHeap 2 (some .boolean), Cond.fieldLink RX8 58 "MadeItSoModel" "many" "I", Cond.methodLink RX8 105 yX8_sum, Cond.instanceMethod yX8_sum, Cond.selects RX8 yX8_sum yX8_sum, Cond.code yX8_sum cX8_sum 6 (some .long), Cond.methodLink RX8 98 yX8_weightOf, Cond.instanceMethod yX8_weightOf, Cond.selects RX8 yX8_weightOf yX8_weightOf, Cond.code yX8_weightOf cX8_weightOf 7 (some .long), Cond.constantLong RX8 96 (100), Cond.methodLink RX8 93 yX8_partsOf, Cond.instanceMethod yX8_partsOf, Cond.selects RX8 yX8_partsOf yX8_partsOf]
def wsX8_weight_r2 : List Cond := [Cond.code yX8_partsOf cX8_partsOf 6 (some .int), Cond.fieldLink RX8 13 "MadeItSoModel" "parents" "[I", Cond.fieldLink RX8 17 "MadeItSoModel" "books" "[I"]
def wsX8_weight : List Cond := .code yX8_weight cX8_weight 3 (some .long) :: ((wsX8_weight_r1 ++ wsX8_weight_r2) ++ wsX80)
def wsX8_shared : List Cond := .code yX8_shared cX8_shared 10 (some .long) :: ([])
def wsX8_chance_r1 : List Cond := [Cond.fieldLink RX8 110 "MadeItSoModel" "above" "J", Cond.fieldLink RX8 20 "MadeItSoModel" "below" "J", Cond.fieldLink RX8 58 "MadeItSoModel" "many" "I", Cond.methodLink RX8 102 yX8_isSetting, Cond.instanceMethod yX8_isSetting, Cond.selects RX8 yX8_isSetting yX8_isSetting, Cond.initialized RX8, Cond.code yX8_isSetting cX8_isSetting 2 (some .boolean), Cond.constant RX8 62 (65536), Cond.methodLink RX8 63 yX8_isHeap, Cond.instanceMethod yX8_isHeap, Cond.selects RX8 yX8_isHeap yX8_isHeap, Cond.code yX8_isHeap cX8_isHeap 2 (some .boolean), Cond.methodLink RX8 105 yX8_sum, Cond.instanceMethod yX8_sum, Cond.selects RX8 yX8_sum yX8_sum, Cond.code yX8_sum cX8_sum 6 (some .long), Cond.methodLink RX8 98 yX8_weightOf, Cond.instanceMethod yX8_weightOf, Cond.selects RX8 yX8_weightOf yX8_weightOf, Cond.code yX8_weightOf cX8_weightOf 7 (some .long), Cond.constantLong RX8 96 (100), Cond.methodLink RX8 93 yX8_partsOf, Cond.instanceMethod yX8_partsOf]
def wsX8_chance_r2 : List Cond := [Cond.selects RX8 yX8_partsOf yX8_partsOf, Cond.code yX8_partsOf cX8_partsOf 6 (some .int), Cond.fieldLink RX8 13 "MadeItSoModel" "parents" "[I", Cond.fieldLink RX8 17 "MadeItSoModel" "books" "[I", Cond.methodLink RX8 113 yX8_shared, Cond.static yX8_shared, Cond.code yX8_shared cX8_shared 10 (some .long)]
def wsX8_chance : List Cond := .code yX8_chance cX8_chance 10 (some .int) :: ((wsX8_chance_r1 ++ wsX8_chance_r2) ++ wsX80)
def wsX8_above : List Cond := .code yX8_above cX8_above 1 (some .long) :: ([.fieldLink RX8 110 "MadeItSoModel" "above" "J"] ++ wsX80)
def wsX8_below : List Cond := .code yX8_below cX8_below 1 (some .long) :: ([.fieldLink RX8 20 "MadeItSoModel" "below" "J"] ++ wsX80)
def wsX8_isArrow : List Cond := .code yX8_isArrow cX8_isArrow 5 (some .boolean) :: ([.methodLink RX8 74 yX8_parentsWithout, .instanceMethod yX8_parentsWithout, .selects RX8 yX8_parentsWithout yX8_parentsWithout, .initialized RX8, .code yX8_parentsWithout cX8_parentsWithout 4 (some .int), .fieldLink RX8 13 "MadeItSoModel" "parents" "[I"] ++ wsX80)
def wsX8_belowWithout : List Cond := .code yX8_belowWithout cX8_belowWithout 8 (some .int) :: ([.fieldLink RX8 58 "MadeItSoModel" "many" "I", .methodLink RX8 74 yX8_parentsWithout, .instanceMethod yX8_parentsWithout, .selects RX8 yX8_parentsWithout yX8_parentsWithout, .initialized RX8, .code yX8_parentsWithout cX8_parentsWithout 4 (some .int), .fieldLink RX8 13 "MadeItSoModel" "parents" "[I"] ++ wsX80)
def wsX8_isOpen : List Cond := .code yX8_isOpen cX8_isOpen 10 (some .boolean) :: ([.fieldLink RX8 24 "MadeItSoModel" "way" "[I", .methodLink RX8 117 yX8_isArrow, .instanceMethod yX8_isArrow, .selects RX8 yX8_isArrow yX8_isArrow, .initialized RX8, .code yX8_isArrow cX8_isArrow 5 (some .boolean), .methodLink RX8 74 yX8_parentsWithout, .instanceMethod yX8_parentsWithout, .selects RX8 yX8_parentsWithout yX8_parentsWithout, .code yX8_parentsWithout cX8_parentsWithout 4 (some .int), .fieldLink RX8 13 "MadeItSoModel" "parents" "[I", .methodLink RX8 121 yX8_belowWithout, .instanceMethod yX8_belowWithout, .selects RX8 yX8_belowWithout yX8_belowWithout, .code yX8_belowWithout cX8_belowWithout 8 (some .int), .fieldLink RX8 58 "MadeItSoModel" "many" "I"] ++ wsX80)
def wsX8_joins : List Cond := .code yX8_joins cX8_joins 11 (some .boolean) :: ([.fieldLink RX8 24 "MadeItSoModel" "way" "[I", .fieldLink RX8 27 "MadeItSoModel" "tried" "[I", .fieldLink RX8 58 "MadeItSoModel" "many" "I", .methodLink RX8 117 yX8_isArrow, .instanceMethod yX8_isArrow, .selects RX8 yX8_isArrow yX8_isArrow, .initialized RX8, .code yX8_isArrow cX8_isArrow 5 (some .boolean), .methodLink RX8 74 yX8_parentsWithout, .instanceMethod yX8_parentsWithout, .selects RX8 yX8_parentsWithout yX8_parentsWithout, .code yX8_parentsWithout cX8_parentsWithout 4 (some .int), .fieldLink RX8 13 "MadeItSoModel" "parents" "[I", .methodLink RX8 124 yX8_isOpen, .instanceMethod yX8_isOpen, .selects RX8 yX8_isOpen yX8_isOpen, .code yX8_isOpen cX8_isOpen 10 (some .boolean), .methodLink RX8 121 yX8_belowWithout, .instanceMethod yX8_belowWithout, .selects RX8 yX8_belowWithout yX8_belowWithout, .code yX8_belowWithout cX8_belowWithout 8 (some .int)] ++ wsX80)
def wsX8_barred_r1 : List Cond := [Cond.fieldLink RX8 58 "MadeItSoModel" "many" "I", Cond.methodLink RX8 127 yX8_joins, Cond.instanceMethod yX8_joins, Cond.selects RX8 yX8_joins yX8_joins, Cond.initialized RX8, Cond.code yX8_joins cX8_joins 11 (some .boolean), Cond.fieldLink RX8 24 "MadeItSoModel" "way" "[I", Cond.fieldLink RX8 27 "MadeItSoModel" "tried" "[I", Cond.methodLink RX8 117 yX8_isArrow, Cond.instanceMethod yX8_isArrow, Cond.selects RX8 yX8_isArrow yX8_isArrow, Cond.code yX8_isArrow cX8_isArrow 5 (some .boolean), Cond.methodLink RX8 74 yX8_parentsWithout, Cond.instanceMethod yX8_parentsWithout, Cond.selects RX8 yX8_parentsWithout yX8_parentsWithout, Cond.code yX8_parentsWithout cX8_parentsWithout 4 (some .int), Cond.fieldLink RX8 13 "MadeItSoModel" "parents" "[I", Cond.methodLink RX8 124 yX8_isOpen, Cond.instanceMethod yX8_isOpen, Cond.selects RX8 yX8_isOpen yX8_isOpen, Cond.code yX8_isOpen cX8_isOpen 10 (some .boolean), Cond.methodLink RX8 121 yX8_belowWithout, Cond.instanceMethod yX8_belowWithout, Cond.selects RX8 yX8_belowWithout yX8_belowWithout]
def wsX8_barred_r2 : List Cond := [Cond.code yX8_belowWithout cX8_belowWithout 8 (some .int)]
def wsX8_barred : List Cond := .code yX8_barred cX8_barred 8 (some .boolean) :: ((wsX8_barred_r1 ++ wsX8_barred_r2) ++ wsX80)
def wsX8_bars_r1 : List Cond := [Cond.methodLink RX8 63 yX8_isHeap, Cond.instanceMethod yX8_isHeap, Cond.selects RX8 yX8_isHeap yX8_isHeap, Cond.initialized RX8, Cond.code yX8_isHeap cX8_isHeap 2 (some .boolean), Cond.fieldLink RX8 58 "MadeItSoModel" "many" "I", Cond.methodLink RX8 131 yX8_barred, Cond.instanceMethod yX8_barred, Cond.selects RX8 yX8_barred yX8_barred, Cond.code yX8_barred cX8_barred 8 (some .boolean), Cond.methodLink RX8 127 yX8_joins, Cond.instanceMethod yX8_joins, Cond.selects RX8 yX8_joins yX8_joins, Cond.code yX8_joins cX8_joins 11 (some .boolean), Cond.fieldLink RX8 24 "MadeItSoModel" "way" "[I", Cond.fieldLink RX8 27 "MadeItSoModel" "tried" "[I", Cond.methodLink RX8 117 yX8_isArrow, Cond.instanceMethod yX8_isArrow, Cond.selects RX8 yX8_isArrow yX8_isArrow, Cond.code yX8_isArrow cX8_isArrow 5 (some .boolean), Cond.methodLink RX8 74 yX8_parentsWithout, Cond.instanceMethod yX8_parentsWithout, Cond.selects RX8 yX8_parentsWithout yX8_parentsWithout, Cond.code yX8_parentsWithout cX8_parentsWithout 4 (some .int)]
def wsX8_bars_r2 : List Cond := [Cond.fieldLink RX8 13 "MadeItSoModel" "parents" "[I", Cond.methodLink RX8 124 yX8_isOpen, Cond.instanceMethod yX8_isOpen, Cond.selects RX8 yX8_isOpen yX8_isOpen, Cond.code yX8_isOpen cX8_isOpen 10 (some .boolean), Cond.methodLink RX8 121 yX8_belowWithout, Cond.instanceMethod yX8_belowWithout, Cond.selects RX8 yX8_belowWithout yX8_belowWithout, Cond.code yX8_belowWithout cX8_belowWithout 8 (some .int)]
def wsX8_bars : List Cond := .code yX8_bars cX8_bars 4 (some .boolean) :: ((wsX8_bars_r1 ++ wsX8_bars_r2) ++ wsX80)
def wsX8_seen : List Cond := .code yX8_seen cX8_seen 3 (some .int) :: ([.fieldLink RX8 58 "MadeItSoModel" "many" "I", .fieldLink RX8 9 "MadeItSoModel" "isSeen" "[Z"] ++ wsX80)
def wsX8_isLeast : List Cond := .code yX8_isLeast cX8_isLeast 3 (some .boolean) :: ([.fieldLink RX8 30 "MadeItSoModel" "isBarring" "[Z"] ++ wsX80)
def wsX8_works_r1 : List Cond := [Cond.fieldLink RX8 30 "MadeItSoModel" "isBarring" "[Z", Cond.methodLink RX8 71 yX8_isThing, Cond.instanceMethod yX8_isThing, Cond.selects RX8 yX8_isThing yX8_isThing, Cond.initialized RX8, Cond.code yX8_isThing cX8_isThing 2 (some .boolean), Cond.fieldLink RX8 58 "MadeItSoModel" "many" "I", Cond.methodLink RX8 134 yX8_seen, Cond.instanceMethod yX8_seen, Cond.selects RX8 yX8_seen yX8_seen, Cond.code yX8_seen cX8_seen 3 (some .int), Cond.fieldLink RX8 9 "MadeItSoModel" "isSeen" "[Z", Cond.methodLink RX8 131 yX8_barred, Cond.instanceMethod yX8_barred, Cond.selects RX8 yX8_barred yX8_barred, Cond.code yX8_barred cX8_barred 8 (some .boolean), Cond.methodLink RX8 127 yX8_joins, Cond.instanceMethod yX8_joins, Cond.selects RX8 yX8_joins yX8_joins, Cond.code yX8_joins cX8_joins 11 (some .boolean), Cond.fieldLink RX8 24 "MadeItSoModel" "way" "[I", Cond.fieldLink RX8 27 "MadeItSoModel" "tried" "[I", Cond.methodLink RX8 117 yX8_isArrow, Cond.instanceMethod yX8_isArrow]
def wsX8_works_r2 : List Cond := [Cond.selects RX8 yX8_isArrow yX8_isArrow, Cond.code yX8_isArrow cX8_isArrow 5 (some .boolean), Cond.methodLink RX8 74 yX8_parentsWithout, Cond.instanceMethod yX8_parentsWithout, Cond.selects RX8 yX8_parentsWithout yX8_parentsWithout, Cond.code yX8_parentsWithout cX8_parentsWithout 4 (some .int), Cond.fieldLink RX8 13 "MadeItSoModel" "parents" "[I", Cond.methodLink RX8 124 yX8_isOpen, Cond.instanceMethod yX8_isOpen, Cond.selects RX8 yX8_isOpen yX8_isOpen, Cond.code yX8_isOpen cX8_isOpen 10 (some .boolean), Cond.methodLink RX8 121 yX8_belowWithout, Cond.instanceMethod yX8_belowWithout, Cond.selects RX8 yX8_belowWithout yX8_belowWithout, Cond.code yX8_belowWithout cX8_belowWithout 8 (some .int)]
def wsX8_works : List Cond := .code yX8_works cX8_works 5 (some .boolean) :: ((wsX8_works_r1 ++ wsX8_works_r2) ++ wsX80)
def wsX8_least_r1 : List Cond := [Cond.methodLink RX8 138 yX8_works, Cond.instanceMethod yX8_works, Cond.selects RX8 yX8_works yX8_works, Cond.initialized RX8, Cond.code yX8_works cX8_works 5 (some .boolean), Cond.fieldLink RX8 30 "MadeItSoModel" "isBarring" "[Z", Cond.methodLink RX8 71 yX8_isThing, Cond.instanceMethod yX8_isThing, Cond.selects RX8 yX8_isThing yX8_isThing, Cond.code yX8_isThing cX8_isThing 2 (some .boolean), Cond.fieldLink RX8 58 "MadeItSoModel" "many" "I", Cond.methodLink RX8 134 yX8_seen, Cond.instanceMethod yX8_seen, Cond.selects RX8 yX8_seen yX8_seen, Cond.code yX8_seen cX8_seen 3 (some .int), Cond.fieldLink RX8 9 "MadeItSoModel" "isSeen" "[Z", Cond.methodLink RX8 131 yX8_barred, Cond.instanceMethod yX8_barred, Cond.selects RX8 yX8_barred yX8_barred, Cond.code yX8_barred cX8_barred 8 (some .boolean), Cond.methodLink RX8 127 yX8_joins, Cond.instanceMethod yX8_joins, Cond.selects RX8 yX8_joins yX8_joins, Cond.code yX8_joins cX8_joins 11 (some .boolean)]
def wsX8_least_r2 : List Cond := [Cond.fieldLink RX8 24 "MadeItSoModel" "way" "[I", Cond.fieldLink RX8 27 "MadeItSoModel" "tried" "[I", Cond.methodLink RX8 117 yX8_isArrow, Cond.instanceMethod yX8_isArrow, Cond.selects RX8 yX8_isArrow yX8_isArrow, Cond.code yX8_isArrow cX8_isArrow 5 (some .boolean), Cond.methodLink RX8 74 yX8_parentsWithout, Cond.instanceMethod yX8_parentsWithout, Cond.selects RX8 yX8_parentsWithout yX8_parentsWithout, Cond.code yX8_parentsWithout cX8_parentsWithout 4 (some .int), Cond.fieldLink RX8 13 "MadeItSoModel" "parents" "[I", Cond.methodLink RX8 124 yX8_isOpen, Cond.instanceMethod yX8_isOpen, Cond.selects RX8 yX8_isOpen yX8_isOpen, Cond.code yX8_isOpen cX8_isOpen 10 (some .boolean), Cond.methodLink RX8 121 yX8_belowWithout, Cond.instanceMethod yX8_belowWithout, Cond.selects RX8 yX8_belowWithout yX8_belowWithout, Cond.code yX8_belowWithout cX8_belowWithout 8 (some .int), Cond.methodLink RX8 141 yX8_isLeast, Cond.instanceMethod yX8_isLeast, Cond.selects RX8 yX8_isLeast yX8_isLeast, Cond.code yX8_isLeast cX8_isLeast 3 (some .boolean)]
def wsX8_least : List Cond := .code yX8_least cX8_least 5 (some .int) :: ((wsX8_least_r1 ++ wsX8_least_r2) ++ wsX80)
def wsX8_leastAt_r1 : List Cond := [Cond.methodLink RX8 138 yX8_works, Cond.instanceMethod yX8_works, Cond.selects RX8 yX8_works yX8_works, Cond.initialized RX8, Cond.code yX8_works cX8_works 5 (some .boolean), Cond.fieldLink RX8 30 "MadeItSoModel" "isBarring" "[Z", Cond.methodLink RX8 71 yX8_isThing, Cond.instanceMethod yX8_isThing, Cond.selects RX8 yX8_isThing yX8_isThing, Cond.code yX8_isThing cX8_isThing 2 (some .boolean), Cond.fieldLink RX8 58 "MadeItSoModel" "many" "I", Cond.methodLink RX8 134 yX8_seen, Cond.instanceMethod yX8_seen, Cond.selects RX8 yX8_seen yX8_seen, Cond.code yX8_seen cX8_seen 3 (some .int), Cond.fieldLink RX8 9 "MadeItSoModel" "isSeen" "[Z", Cond.methodLink RX8 131 yX8_barred, Cond.instanceMethod yX8_barred, Cond.selects RX8 yX8_barred yX8_barred, Cond.code yX8_barred cX8_barred 8 (some .boolean), Cond.methodLink RX8 127 yX8_joins, Cond.instanceMethod yX8_joins, Cond.selects RX8 yX8_joins yX8_joins, Cond.code yX8_joins cX8_joins 11 (some .boolean)]
def wsX8_leastAt_r2 : List Cond := [Cond.fieldLink RX8 24 "MadeItSoModel" "way" "[I", Cond.fieldLink RX8 27 "MadeItSoModel" "tried" "[I", Cond.methodLink RX8 117 yX8_isArrow, Cond.instanceMethod yX8_isArrow, Cond.selects RX8 yX8_isArrow yX8_isArrow, Cond.code yX8_isArrow cX8_isArrow 5 (some .boolean), Cond.methodLink RX8 74 yX8_parentsWithout, Cond.instanceMethod yX8_parentsWithout, Cond.selects RX8 yX8_parentsWithout yX8_parentsWithout, Cond.code yX8_parentsWithout cX8_parentsWithout 4 (some .int), Cond.fieldLink RX8 13 "MadeItSoModel" "parents" "[I", Cond.methodLink RX8 124 yX8_isOpen, Cond.instanceMethod yX8_isOpen, Cond.selects RX8 yX8_isOpen yX8_isOpen, Cond.code yX8_isOpen cX8_isOpen 10 (some .boolean), Cond.methodLink RX8 121 yX8_belowWithout, Cond.instanceMethod yX8_belowWithout, Cond.selects RX8 yX8_belowWithout yX8_belowWithout, Cond.code yX8_belowWithout cX8_belowWithout 8 (some .int), Cond.methodLink RX8 141 yX8_isLeast, Cond.instanceMethod yX8_isLeast, Cond.selects RX8 yX8_isLeast yX8_isLeast, Cond.code yX8_isLeast cX8_isLeast 3 (some .boolean)]
def wsX8_leastAt : List Cond := .code yX8_leastAt cX8_leastAt 6 (some .int) :: ((wsX8_leastAt_r1 ++ wsX8_leastAt_r2) ++ wsX80)
def wsX8_fit_r1 : List Cond := [Cond.fieldLink RX8 58 "MadeItSoModel" "many" "I", Cond.methodLink RX8 71 yX8_isThing, Cond.instanceMethod yX8_isThing, Cond.selects RX8 yX8_isThing yX8_isThing, Cond.initialized RX8, Cond.code yX8_isThing cX8_isThing 2 (some .boolean), Cond.methodLink RX8 63 yX8_isHeap, Cond.instanceMethod yX8_isHeap, Cond.selects RX8 yX8_isHeap yX8_isHeap, Cond.code yX8_isHeap cX8_isHeap 2 (some .boolean), Cond.methodLink RX8 134 yX8_seen, Cond.instanceMethod yX8_seen, Cond.selects RX8 yX8_seen yX8_seen, Cond.code yX8_seen cX8_seen 3 (some .int), Cond.fieldLink RX8 9 "MadeItSoModel" "isSeen" "[Z", Cond.methodLink RX8 82 yX8_belowOf, Cond.instanceMethod yX8_belowOf, Cond.selects RX8 yX8_belowOf yX8_belowOf, Cond.code yX8_belowOf cX8_belowOf 8 (some .int), Cond.methodLink RX8 74 yX8_parentsWithout, Cond.instanceMethod yX8_parentsWithout, Cond.selects RX8 yX8_parentsWithout yX8_parentsWithout, Cond.code yX8_parentsWithout cX8_parentsWithout 4 (some .int), Cond.fieldLink RX8 13 "MadeItSoModel" "parents" "[I"]
def wsX8_fit_r2 : List Cond := [Cond.methodLink RX8 131 yX8_barred, Cond.instanceMethod yX8_barred, Cond.selects RX8 yX8_barred yX8_barred, Cond.code yX8_barred cX8_barred 8 (some .boolean), Cond.methodLink RX8 127 yX8_joins, Cond.instanceMethod yX8_joins, Cond.selects RX8 yX8_joins yX8_joins, Cond.code yX8_joins cX8_joins 11 (some .boolean), Cond.fieldLink RX8 24 "MadeItSoModel" "way" "[I", Cond.fieldLink RX8 27 "MadeItSoModel" "tried" "[I", Cond.methodLink RX8 117 yX8_isArrow, Cond.instanceMethod yX8_isArrow, Cond.selects RX8 yX8_isArrow yX8_isArrow, Cond.code yX8_isArrow cX8_isArrow 5 (some .boolean), Cond.methodLink RX8 124 yX8_isOpen, Cond.instanceMethod yX8_isOpen, Cond.selects RX8 yX8_isOpen yX8_isOpen, Cond.code yX8_isOpen cX8_isOpen 10 (some .boolean), Cond.methodLink RX8 121 yX8_belowWithout, Cond.instanceMethod yX8_belowWithout, Cond.selects RX8 yX8_belowWithout yX8_belowWithout, Cond.code yX8_belowWithout cX8_belowWithout 8 (some .int)]
def wsX8_fit : List Cond := .code yX8_fit cX8_fit 7 (some .boolean) :: ((wsX8_fit_r1 ++ wsX8_fit_r2) ++ wsX80)
def wsX8_times : List Cond := .code yX8_times cX8_times 12 none :: ([.fieldLink RX8 40 "MadeItSoModel" "helper" "[J", .constantLong RX8 144 (16777215)] ++ wsX80)
def wsX8_adds : List Cond := .code yX8_adds cX8_adds 10 none :: ([.fieldLink RX8 33 "MadeItSoModel" "up" "[J", .fieldLink RX8 40 "MadeItSoModel" "helper" "[J", .fieldLink RX8 37 "MadeItSoModel" "down" "[J", .constantLong RX8 144 (16777215), .methodLink RX8 146 yX8_times, .instanceMethod yX8_times, .selects RX8 yX8_times yX8_times, .initialized RX8, .code yX8_times cX8_times 12 none] ++ wsX80)
def wsX8_withOne : List Cond := .code yX8_withOne cX8_withOne 3 (some .int) :: ([])
def wsX8_agrees_r1 : List Cond := [Cond.fieldLink RX8 33 "MadeItSoModel" "up" "[J", Cond.fieldLink RX8 37 "MadeItSoModel" "down" "[J", Cond.constantLong RX8 153 (2), Cond.constantLong RX8 159 (256), Cond.fieldLink RX8 40 "MadeItSoModel" "helper" "[J", Cond.methodLink RX8 71 yX8_isThing, Cond.instanceMethod yX8_isThing, Cond.selects RX8 yX8_isThing yX8_isThing, Cond.initialized RX8, Cond.code yX8_isThing cX8_isThing 2 (some .boolean), Cond.fieldLink RX8 58 "MadeItSoModel" "many" "I", Cond.methodLink RX8 63 yX8_isHeap, Cond.instanceMethod yX8_isHeap, Cond.selects RX8 yX8_isHeap yX8_isHeap, Cond.code yX8_isHeap cX8_isHeap 2 (some .boolean), Cond.methodLink RX8 150 yX8_withOne, Cond.static yX8_withOne, Cond.code yX8_withOne cX8_withOne 3 (some .int), Cond.methodLink RX8 105 yX8_sum, Cond.instanceMethod yX8_sum, Cond.selects RX8 yX8_sum yX8_sum, Cond.code yX8_sum cX8_sum 6 (some .long), Cond.methodLink RX8 98 yX8_weightOf, Cond.instanceMethod yX8_weightOf]
def wsX8_agrees_r2 : List Cond := [Cond.selects RX8 yX8_weightOf yX8_weightOf, Cond.code yX8_weightOf cX8_weightOf 7 (some .long), Cond.constantLong RX8 96 (100), Cond.methodLink RX8 93 yX8_partsOf, Cond.instanceMethod yX8_partsOf, Cond.selects RX8 yX8_partsOf yX8_partsOf, Cond.code yX8_partsOf cX8_partsOf 6 (some .int), Cond.fieldLink RX8 13 "MadeItSoModel" "parents" "[I", Cond.fieldLink RX8 17 "MadeItSoModel" "books" "[I", Cond.methodLink RX8 113 yX8_shared, Cond.static yX8_shared, Cond.code yX8_shared cX8_shared 10 (some .long), Cond.methodLink RX8 155 yX8_adds, Cond.instanceMethod yX8_adds, Cond.selects RX8 yX8_adds yX8_adds, Cond.code yX8_adds cX8_adds 10 none, Cond.constantLong RX8 144 (16777215), Cond.methodLink RX8 146 yX8_times, Cond.instanceMethod yX8_times, Cond.selects RX8 yX8_times yX8_times, Cond.code yX8_times cX8_times 12 none]
def wsX8_agrees : List Cond := .code yX8_agrees cX8_agrees 24 (some .int) :: ((wsX8_agrees_r1 ++ wsX8_agrees_r2) ++ wsX80)
def wsX8_meetsLike : List Cond := .code yX8_meetsLike cX8_meetsLike 7 (some .boolean) :: ([.fieldLink RX8 58 "MadeItSoModel" "many" "I", .fieldLink RX8 55 "MadeItSoModel" "joined" "[I", .fieldLink RX8 13 "MadeItSoModel" "parents" "[I"] ++ wsX80)
def wsX8_isLeastOrder : List Cond := .code yX8_isLeastOrder cX8_isLeastOrder 4 (some .boolean) :: ([.fieldLink RX8 55 "MadeItSoModel" "joined" "[I", .fieldLink RX8 43 "MadeItSoModel" "order" "[I"] ++ wsX80)
def wsX8_drawings : List Cond := .code yX8_drawings cX8_drawings 6 (some .int) :: ([.fieldLink RX8 58 "MadeItSoModel" "many" "I", .fieldLink RX8 55 "MadeItSoModel" "joined" "[I", .fieldLink RX8 13 "MadeItSoModel" "parents" "[I", .fieldLink RX8 52 "MadeItSoModel" "isAlways" "[Z", .fieldLink RX8 46 "MadeItSoModel" "choice" "[I", .fieldLink RX8 49 "MadeItSoModel" "parentsThere" "[I", .fieldLink RX8 43 "MadeItSoModel" "order" "[I", .methodLink RX8 78 yX8_has, .instanceMethod yX8_has, .selects RX8 yX8_has yX8_has, .initialized RX8, .code yX8_has cX8_has 3 (some .boolean), .methodLink RX8 71 yX8_isThing, .instanceMethod yX8_isThing, .selects RX8 yX8_isThing yX8_isThing, .code yX8_isThing cX8_isThing 2 (some .boolean), .methodLink RX8 161 yX8_meetsLike, .instanceMethod yX8_meetsLike, .selects RX8 yX8_meetsLike yX8_meetsLike, .code yX8_meetsLike cX8_meetsLike 7 (some .boolean), .methodLink RX8 164 yX8_isLeastOrder, .instanceMethod yX8_isLeastOrder, .selects RX8 yX8_isLeastOrder yX8_isLeastOrder, .code yX8_isLeastOrder cX8_isLeastOrder 4 (some .boolean)] ++ wsX80)
def wsX8_alike_r1 : List Cond := [Cond.methodLink RX8 167 yX8_drawings, Cond.instanceMethod yX8_drawings, Cond.selects RX8 yX8_drawings yX8_drawings, Cond.initialized RX8, Cond.code yX8_drawings cX8_drawings 6 (some .int), Cond.fieldLink RX8 58 "MadeItSoModel" "many" "I", Cond.fieldLink RX8 55 "MadeItSoModel" "joined" "[I", Cond.fieldLink RX8 13 "MadeItSoModel" "parents" "[I", Cond.fieldLink RX8 52 "MadeItSoModel" "isAlways" "[Z", Cond.fieldLink RX8 46 "MadeItSoModel" "choice" "[I", Cond.fieldLink RX8 49 "MadeItSoModel" "parentsThere" "[I", Cond.fieldLink RX8 43 "MadeItSoModel" "order" "[I", Cond.methodLink RX8 78 yX8_has, Cond.instanceMethod yX8_has, Cond.selects RX8 yX8_has yX8_has, Cond.code yX8_has cX8_has 3 (some .boolean), Cond.methodLink RX8 71 yX8_isThing, Cond.instanceMethod yX8_isThing, Cond.selects RX8 yX8_isThing yX8_isThing, Cond.code yX8_isThing cX8_isThing 2 (some .boolean), Cond.methodLink RX8 161 yX8_meetsLike, Cond.instanceMethod yX8_meetsLike, Cond.selects RX8 yX8_meetsLike yX8_meetsLike, Cond.code yX8_meetsLike cX8_meetsLike 7 (some .boolean)]
def wsX8_alike_r2 : List Cond := [Cond.methodLink RX8 164 yX8_isLeastOrder, Cond.instanceMethod yX8_isLeastOrder, Cond.selects RX8 yX8_isLeastOrder yX8_isLeastOrder, Cond.code yX8_isLeastOrder cX8_isLeastOrder 4 (some .boolean)]
def wsX8_alike : List Cond := .code yX8_alike cX8_alike 1 (some .int) :: ((wsX8_alike_r1 ++ wsX8_alike_r2) ++ wsX80)
def wsX8_fixed_r1 : List Cond := [Cond.fieldLink RX8 52 "MadeItSoModel" "isAlways" "[Z", Cond.methodLink RX8 78 yX8_has, Cond.instanceMethod yX8_has, Cond.selects RX8 yX8_has yX8_has, Cond.initialized RX8, Cond.code yX8_has cX8_has 3 (some .boolean), Cond.fieldLink RX8 13 "MadeItSoModel" "parents" "[I", Cond.methodLink RX8 71 yX8_isThing, Cond.instanceMethod yX8_isThing, Cond.selects RX8 yX8_isThing yX8_isThing, Cond.code yX8_isThing cX8_isThing 2 (some .boolean), Cond.fieldLink RX8 58 "MadeItSoModel" "many" "I", Cond.methodLink RX8 167 yX8_drawings, Cond.instanceMethod yX8_drawings, Cond.selects RX8 yX8_drawings yX8_drawings, Cond.code yX8_drawings cX8_drawings 6 (some .int), Cond.fieldLink RX8 55 "MadeItSoModel" "joined" "[I", Cond.fieldLink RX8 46 "MadeItSoModel" "choice" "[I", Cond.fieldLink RX8 49 "MadeItSoModel" "parentsThere" "[I", Cond.fieldLink RX8 43 "MadeItSoModel" "order" "[I", Cond.methodLink RX8 161 yX8_meetsLike, Cond.instanceMethod yX8_meetsLike, Cond.selects RX8 yX8_meetsLike yX8_meetsLike, Cond.code yX8_meetsLike cX8_meetsLike 7 (some .boolean)]
def wsX8_fixed_r2 : List Cond := [Cond.methodLink RX8 164 yX8_isLeastOrder, Cond.instanceMethod yX8_isLeastOrder, Cond.selects RX8 yX8_isLeastOrder yX8_isLeastOrder, Cond.code yX8_isLeastOrder cX8_isLeastOrder 4 (some .boolean)]
def wsX8_fixed : List Cond := .code yX8_fixed cX8_fixed 3 (some .boolean) :: ((wsX8_fixed_r1 ++ wsX8_fixed_r2) ++ wsX80)
def wsX8_most : List Cond := .code yX8_most cX8_most 4 (some .long) :: ([])
def wsX8_lesser : List Cond := .code yX8_lesser cX8_lesser 4 (some .long) :: ([])
def wsX8_otherwise_r1 : List Cond := [Cond.constantLong RX8 108 (-1), Cond.fieldLink RX8 58 "MadeItSoModel" "many" "I", Cond.constantLong RX8 96 (100), Cond.methodLink RX8 71 yX8_isThing, Cond.instanceMethod yX8_isThing, Cond.selects RX8 yX8_isThing yX8_isThing, Cond.initialized RX8, Cond.code yX8_isThing cX8_isThing 2 (some .boolean), Cond.methodLink RX8 150 yX8_withOne, Cond.static yX8_withOne, Cond.code yX8_withOne cX8_withOne 3 (some .int), Cond.methodLink RX8 105 yX8_sum, Cond.instanceMethod yX8_sum, Cond.selects RX8 yX8_sum yX8_sum, Cond.code yX8_sum cX8_sum 6 (some .long), Cond.methodLink RX8 98 yX8_weightOf, Cond.instanceMethod yX8_weightOf, Cond.selects RX8 yX8_weightOf yX8_weightOf, Cond.code yX8_weightOf cX8_weightOf 7 (some .long), Cond.methodLink RX8 93 yX8_partsOf, Cond.instanceMethod yX8_partsOf, Cond.selects RX8 yX8_partsOf yX8_partsOf, Cond.code yX8_partsOf cX8_partsOf 6 (some .int), Cond.fieldLink RX8 13 "MadeItSoModel" "parents" "[I"]
def wsX8_otherwise_r2 : List Cond := [Cond.fieldLink RX8 17 "MadeItSoModel" "books" "[I", Cond.methodLink RX8 170 yX8_most, Cond.static yX8_most, Cond.code yX8_most cX8_most 4 (some .long), Cond.methodLink RX8 173 yX8_lesser, Cond.static yX8_lesser, Cond.code yX8_lesser cX8_lesser 4 (some .long)]
def wsX8_otherwise : List Cond := .code yX8_otherwise cX8_otherwise 20 (some .long) :: ((wsX8_otherwise_r1 ++ wsX8_otherwise_r2) ++ wsX80)
def wsX8_draw : List Cond := .code yX8_draw cX8_draw 9 (some .int) :: ([.fieldLink RX8 58 "MadeItSoModel" "many" "I", .fieldLink RX8 13 "MadeItSoModel" "parents" "[I", .constant RX8 176 (1103515245), .methodLink RX8 102 yX8_isSetting, .instanceMethod yX8_isSetting, .selects RX8 yX8_isSetting yX8_isSetting, .initialized RX8, .code yX8_isSetting cX8_isSetting 2 (some .boolean), .constant RX8 62 (65536), .methodLink RX8 63 yX8_isHeap, .instanceMethod yX8_isHeap, .selects RX8 yX8_isHeap yX8_isHeap, .code yX8_isHeap cX8_isHeap 2 (some .boolean), .methodLink RX8 93 yX8_partsOf, .instanceMethod yX8_partsOf, .selects RX8 yX8_partsOf yX8_partsOf, .code yX8_partsOf cX8_partsOf 6 (some .int), .fieldLink RX8 17 "MadeItSoModel" "books" "[I"] ++ wsX80)
def wsX8_count : List Cond := .code yX8_count cX8_count 4 (some .int) :: ([.fieldLink RX8 58 "MadeItSoModel" "many" "I", .fieldLink RX8 13 "MadeItSoModel" "parents" "[I", .methodLink RX8 86 yX8_bits, .static yX8_bits, .initialized RX8, .code yX8_bits cX8_bits 3 (some .int), .methodLink RX8 134 yX8_seen, .instanceMethod yX8_seen, .selects RX8 yX8_seen yX8_seen, .code yX8_seen cX8_seen 3 (some .int), .fieldLink RX8 9 "MadeItSoModel" "isSeen" "[Z"] ++ wsX80)
def wsJ9_max_7cf53 : List Cond := .code yJ9_max_7cf53 cJ9_max_7cf53 2 (some .int) :: ([])
def wsJ9_max_f86c9 : List Cond := .code yJ9_max_f86c9 cJ9_max_f86c9 4 (some .long) :: ([])
def wsJ9_min_7cf53 : List Cond := .code yJ9_min_7cf53 cJ9_min_7cf53 2 (some .int) :: ([])
def wsJ9_min_f86c9 : List Cond := .code yJ9_min_f86c9 cJ9_min_f86c9 4 (some .long) :: ([])
abbrev vwCl : List vw_C := [(RX0, TX0, 2), (RX1, TX1, 1), (RX2, TX2, 3), (RX3, TX3, 2), (RX4, TX4, 1), (RX5, TX5, 3), (RX6, TX6, 2), (RX7, TX7, 10), (RX8, TX8, 17)]
end
section
/-! rows of this claim's own: tops of the stack by another name, nest words, a counting loop -/
section MzW
variable {p : Program} {l : Launch} {e : Env} {R : Room} {s : State} {m : MethodId} {args : Array Value} {below : List Frame} {meth : Method} {c : Code} {H : Heap} {locs : List Loc} {cells slots : Nat} {Q : State → Prop}
variable {pc : Nat} {ls : Array Slot} {rest : List Value}
theorem mz_ti {x y : Int32} (h : x = y) (k : W p l e R s m args below meth c H locs cells slots Q (F0 m pc ls (.int y :: rest))) : W p l e R s m args below meth c H locs cells slots Q (F0 m pc ls (.int x :: rest)) := by
  subst h
  exact k
theorem mz_tl {x y : Int64} (h : x = y) (k : W p l e R s m args below meth c H locs cells slots Q (F0 m pc ls (.long y :: rest))) : W p l e R s m args below meth c H locs cells slots Q (F0 m pc ls (.long x :: rest)) := by
  subst h
  exact k
theorem mz_loop (N : Nat) (I : Nat → Heap → List Loc → Array Slot → Prop)
    (hstep : ∀ (i : Nat) (H : Heap) (locs : List Loc) (ls : Array Slot), i < N → I i H locs ls → (∀ (H' : Heap) (locs' : List Loc) (ls' : Array Slot), I (i + 1) H' locs' ls' → W p l e R s m args below meth c H' locs' cells slots Q (F0 m pc ls' [])) → W p l e R s m args below meth c H locs cells slots Q (F0 m pc ls []))
    (hend : ∀ (H : Heap) (locs : List Loc) (ls : Array Slot), I N H locs ls → W p l e R s m args below meth c H locs cells slots Q (F0 m pc ls [])) :
    ∀ (i : Nat), i ≤ N → ∀ (H : Heap) (locs : List Loc) (ls : Array Slot), I i H locs ls → W p l e R s m args below meth c H locs cells slots Q (F0 m pc ls []) := by
  intro i hi
  obtain ⟨n, hn⟩ : ∃ n, n = N - i := ⟨_, rfl⟩
  induction n generalizing i with
  | zero =>
    intro H locs ls h
    have : i = N := by omega
    subst this
    exact hend H locs ls h
  | succ n ih =>
    intro H locs ls h
    refine hstep i H locs ls (by omega) h (fun H' locs' ls' h' => ih (i + 1) (by omega) (by omega) H' locs' ls' h')
end MzW
section MzA
variable {p : Program} {l : Launch} {e : Env} {R : Room} {s : State} {m : MethodId} {args : Array Value} {below : List Frame} {meth : Method} {c : Code} {H : Heap} {locs : List Loc} {cells slots : Nat} {Q : State → Prop}
variable {cc : ByteArray} {pc : Nat} {ls : Array Slot} {rest : List Value} {D : va_G} {cl : List vw_C} {A : Nat → Prop} {a : Nat} {tys : List (ClassId × FieldType)} {ws : va_W} {H0 : Heap}
/-- a new array, whose class is one that is known already -/
theorem mz_newa (t0 : Nat) {cQ : ClassId} {ty : FieldType} (hprim : ∀ c1 c2 : ClassId, va_RA s c1 ty → va_RA s c2 ty → c1 = c2) (hexec : p.tables.exec = Jvm.exec) (hb : c.code = cc) {atype : ArrayType} (harr : (Cond.arrayClass (newarray.typeOf atype)).before args s = true) (hty : newarray.typeOf atype = ty) (hK : va_K D cl tys s) (hP : va_P D cl ws H) (hD : va_D A ws) (hS : va_S A H0 H locs) (hA : ∀ q, H0.size ≤ q → A q) (ht : tys[t0]? = some (cQ, ty))
    {n : Int32} {N' : Nat} {a0 : vp_A} (ha : ∀ cA : ClassId, vp_cell cA a0 = arrV cA N' (fun _ => defaultValue ty)) (hn : ¬ n < 0) (hN : n.toNatClampNeg = N') (hbytes : N' * componentBytes ty ≤ 536870912) (hcells : cells + 1 ≤ R.cells) (hslots : slots + N' ≤ R.slots) (hdg : decode cc pc = .ok (.newarray atype, 2))
    (kk : ∀ (q : Nat) (H1 : Heap), va_P D cl (ws ++ [(q, .inl (cQ, a0))]) H1 → va_D A (ws ++ [(q, .inl (cQ, a0))]) → va_S A H0 H1 locs →
      W p l e R s m args below meth c H1 locs (cells + 1) (slots + N') Q (F0 m (pc + 2) ls (.ref q :: rest))) : W p l e R s m args below meth c H locs cells slots Q (F0 m pc ls (.int n :: rest)) := by
  refine va_newa hexec hb harr hty hK hP hD hS hA ha hn hN hbytes hcells hslots hdg (fun q cA H1 hK1 hP1 hD1 hS1 => ?_)
  have h1 := (hK1.2 tys.length (cA, ty) (by simp)).2
  have h2 := (hK.2 t0 _ ht).2
  obtain rfl : cA = cQ := hprim _ _ h1 h2
  exact kk q H1 hP1 hD1 hS1
end MzA
theorem mz_in {i : Int32} {n : Nat} (h : (decide (i < 0) || decide (n ≤ i.toNatClampNeg)) = false) : vp_in i n := by
  intro h2
  rcases h2 with h2 | h2 <;> simp [h2] at h
theorem mz_z0 (x : Int32) : 0 + x = x := Int32.zero_add x
theorem mz_am (x : Int32) : x &&& (-1) = x := by
  apply Int32.toBitVec_inj.mp
  rw [Int32.toBitVec_and]
  exact BitVec.and_allOnes
theorem mz_0s (x : Int32) : (0 : Int32) >>> x = 0 := by
  apply Int32.toBitVec_inj.mp
  rw [Int32.toBitVec_shiftRight]
  simp
theorem mz_nz {v : Int32} (h : (decide (v = 0) || decide (v = 1)) = true) : narrow .boolean (.int v) = .int v := by
  by_cases h0 : v = 0
  · subst h0
    rfl
  · by_cases h1 : v = 1
    · subst h1
      rfl
    · simp [h0, h1] at h
theorem mz_nn {x : Int32} (h : ¬ x < 0) : 0 ≤ x := by
  rw [Int32.lt_iff_toInt_lt] at h
  rw [Int32.le_iff_toInt_le]
  omega
theorem mz_sw {x : Int32} (h0 : ¬ x = 0) (h1 : ¬ x = 1) (h2 : ¬ x = 2) : x.toInt < 0 ∨ 2 < x.toInt := by
  rw [← Int32.toInt_inj] at h0 h1 h2
  have e0 : (0 : Int32).toInt = 0 := rfl
  have e1 : (1 : Int32).toInt = 1 := rfl
  have e2 : (2 : Int32).toInt = 2 := rfl
  rw [e0] at h0
  rw [e1] at h1
  rw [e2] at h2
  omega
/-- the links to nest mates' private methods that the class uses -/
def mz_nl : List (String × Nat × MethodName × String) := [(RX7, 11, yX2_init, "MadeItSo"), (RX7, 21, yX1_init, "MadeItSo"), (RX7, 28, yX6_init, "MadeItSo"), (RX7, 35, yX5_init, "MadeItSo"), (RX5, 9, yX0_init, "MadeItSo"), (RX7, 42, yX3_init, "MadeItSo"), (RX7, 49, yX4_init, "MadeItSo"), (RX2, 26, yX7_inHeap, "MadeItSo"), (RX2, 37, yX7_bit, "MadeItSo"), (RX6, 31, yX7_partsOf, "MadeItSo"), (RX6, 34, yX7_bit, "MadeItSo"), (RX1, 19, yX7_heapOf, "MadeItSo"), (RX1, 23, yX7_inHeap, "MadeItSo"), (RX1, 26, yX7_onesOf, "MadeItSo"), (RX6, 47, yX7_nextPart, "MadeItSo"), (RX3, 19, yX7_bit, "MadeItSo"), (RX3, 23, yX7_partsOf, "MadeItSo"), (RX3, 36, yX7_nextPart, "MadeItSo"), (RX5, 26, yX7_commonDivisor, "MadeItSo"), (RX4, 25, yX7_inHeap, "MadeItSo"), (RX4, 29, yX7_bit, "MadeItSo"), (RX4, 37, yX7_partsOf, "MadeItSo"), (RX4, 40, yX7_nextPart, "MadeItSo")]
def mz_N (U : State) : Prop := ∀ q ∈ mz_nl, va_Nw (.methodLinkNest q.1 q.2.1 q.2.2.1 q.2.2.2) U
theorem mz_nw {s U : State} (hW : s.WarmedH U.vm) (h : mz_N s) : mz_N U := fun q hq => va_Nw.warmM hW (h q hq)
theorem mz_ns {u U : State} (hv : u.vm = U.vm) (h : mz_N u) : mz_N U := fun q hq => va_Nw.same rfl hv (h q hq)
theorem mz_blP {av : List Value} {Hq : Heap} {D : va_G} {cl : List vw_C} {ws : va_W} {tys : List (ClassId × FieldType)} {a : Array Value} {U : State} {g : JFrame} {mk : MethodId} (q : va_Pc av (fun U => U.heap = Hq ∧ va_P D cl ws Hq ∧ va_K D cl tys U ∧ mz_N U) a U) : va_Pc av (fun U => U.heap = Hq ∧ va_P D cl ws Hq ∧ va_K D cl tys U ∧ mz_N U) a (U.calling g mk a) :=
  ⟨q.1, q.2.1, q.2.2.1, va_K.moved (u := U) (U := U.calling g mk a) (Vm.Alike.refl U.vm) q.2.2.2.1, mz_ns (u := U) rfl q.2.2.2.2⟩
theorem mz_blI {av : List Value} {sz : Nat} {D : va_G} {cl : List vw_C} {ws : va_W} {tys : List (ClassId × FieldType)} {a : Array Value} {U : State} {g : JFrame} {mk : MethodId} (q : va_Pc av (fun U => U.heap.size = sz ∧ va_P D cl ws U.heap ∧ va_K D cl tys U ∧ va_D (fun _ => True) ws ∧ mz_N U) a U) : va_Pc av (fun U => U.heap.size = sz ∧ va_P D cl ws U.heap ∧ va_K D cl tys U ∧ va_D (fun _ => True) ws ∧ mz_N U) a (U.calling g mk a) :=
  ⟨q.1, q.2.1, q.2.2.1, va_K.moved (u := U) (U := U.calling g mk a) (Vm.Alike.refl U.vm) q.2.2.2.1, q.2.2.2.2.1, mz_ns (u := U) rfl q.2.2.2.2.2⟩
end
section
/-! plain facts of ints that the settings' tests rest on -/
theorem mz_lc (x : Int64) : lg_cmp x x = 0 := by simp [lg_cmp]
theorem mz_n0 {n : Nat} (h : nI n = 0) (hn : n < 2 ^ 31) : n = 0 := by
  rw [← nI_0, nI_eq hn (by decide)] at h
  exact h
theorem mz_h1 {x : Int32} (h1 : ¬ x < 0) (h2 : ¬ 1 ≤ x) : x = 0 := by
  rw [Int32.lt_iff_toInt_lt] at h1
  rw [Int32.le_iff_toInt_le] at h2
  have e0 : (0 : Int32).toInt = 0 := rfl
  have e1 : (1 : Int32).toInt = 1 := rfl
  rw [e0] at h1
  rw [e1] at h2
  rw [← Int32.toInt_inj, e0]
  omega
theorem mz_low {n : Nat} (hn : n < 65536) (h2 : nI n &&& 255 = 0) (h3 : nI n >>> (8 &&& 31) &&& 255 = 0) : n = 0 := by
  have e2 := pk_andN (n := n) (by omega) (m := 255) 8 (by decide)
  rw [e2] at h2
  have a2 := mz_n0 h2 (by omega)
  have e3 := pk_shrN (n := n) (by omega) (8 &&& 31) 8 (by decide)
  rw [e3, pk_andN (by omega) (m := 255) 8 (by decide)] at h3
  have a3 := mz_n0 h3 (by omega)
  omega
theorem mz_set {x : Int32} (h1 : (x.toUInt32 >>> ((16 : Int32).toUInt32 &&& Int32.toUInt32 31)).toInt32 = 0) (h2 : x &&& 255 = 0) (h3 : (x >>> (8 &&& 31) &&& 255) &&& ((x &&& 255) ^^^ (-1)) = 0) : x = 0 := by
  have e1 := pk_ushr x 16 16 (by decide)
  rw [h1] at e1
  have z : (0 : Int32).toBitVec.toNat = 0 := rfl
  rw [z] at e1
  have hx : x = nI x.toBitVec.toNat := by
    apply Int32.toBitVec_inj.mp
    show x.toBitVec = BitVec.ofNat 32 x.toBitVec.toNat
    simp
  have hlt : x.toBitVec.toNat < 65536 := by omega
  rw [h2] at h3
  rw [show ((0 : Int32) ^^^ (-1)) = -1 by decide, mz_am] at h3
  rw [hx] at h2 h3
  rw [hx, mz_low hlt h2 h3]
  rfl
theorem mz_setM {x : Int32} (h0 : ¬ x < 0) (h1 : ¬ 65536 ≤ x) (h2 : x &&& 255 = 0) (h3 : (x >>> (8 &&& 31)) &&& ((x &&& 255) ^^^ (-1)) = 0) : x = 0 := by
  obtain ⟨j, hj, rfl⟩ := nI_of h0
  have hlt : j < 65536 := by
    rcases Nat.lt_or_ge j 65536 with q | q
    · exact q
    · exact absurd (nI_le q hj) h1
  rw [h2] at h3
  rw [show ((0 : Int32) ^^^ (-1)) = -1 by decide, mz_am] at h3
  rw [mz_low hlt h2 (by rw [h3]; rfl)]
  rfl
end
section
/-! rows for states of any kind: loops by a measure, facts of ints -/
section MzU
variable {p : Program} {l : Launch} {e : Env} {R : Room} {s : State} {m : MethodId} {args : Array Value} {below : List Frame} {meth : Method} {c : Code} {cells slots : Nat} {Q : State → Prop} {pc : Nat}
theorem mz_loopU (I : Nat → Heap → List Loc → Array Slot → Prop)
    (hstep : ∀ (k : Nat) (H : Heap) (locs : List Loc) (ls : Array Slot), I k H locs ls → (∀ k' : Nat, k' < k → ∀ (H' : Heap) (locs' : List Loc) (ls' : Array Slot), I k' H' locs' ls' → W p l e R s m args below meth c H' locs' cells slots Q (F0 m pc ls' [])) → W p l e R s m args below meth c H locs cells slots Q (F0 m pc ls [])) :
    ∀ (k : Nat) (H : Heap) (locs : List Loc) (ls : Array Slot), I k H locs ls → W p l e R s m args below meth c H locs cells slots Q (F0 m pc ls []) := by
  intro k
  induction k using Nat.strongRecOn with
  | _ k ih =>
    intro H locs ls h
    exact hstep k H locs ls h (fun k' hk H' locs' ls' h' => ih k' hk H' locs' ls' h')
end MzU
theorem mz_lc0 {x y : Int64} (h : ¬ lg_cmp x y = 0) : ¬ x = y := by
  intro e
  subst e
  exact h (by simp [lg_cmp])
theorem mz_lc1 {x y : Int64} (h : lg_cmp x y = 0) : x = y := by
  by_cases e : x = y
  · exact e
  · exfalso
    by_cases g : x > y
    · simp [lg_cmp, g] at h
    · simp [lg_cmp, g, e] at h
theorem mz_nzo {v : Int32} (h : v = 0 ∨ v = 1) : narrow .boolean (.int v) = .int v := by
  rcases h with rfl | rfl <;> rfl
theorem mz_cl {n : Nat} (h : n < 2 ^ 31) : (nI n).toNatClampNeg = n := nI_clamp h
theorem mz_ix {x : Int32} {n : Nat} (h0 : ¬ x < 0) (h1 : ¬ nI n ≤ x) (hn : n < 2 ^ 31) : ∃ j : Nat, j < n ∧ x = nI j := by
  rcases pk_ix x hn with h | h | h
  · exact absurd h h0
  · exact absurd h h1
  · exact h
theorem mz_mx1 (y : Int64) : ¬ (if y < 1 then 1 else y) = (0 : Int64) := by
  by_cases h : y < 1
  · rw [if_pos h]
    decide
  · rw [if_neg h]
    intro e
    subst e
    exact h (by decide)
theorem mz_sw2 {x : Int32} (h0 : ¬ x = 0) (h1 : ¬ x = 1) (h2 : ¬ x = 2) : x.toInt < 0 ∨ 2 < x.toInt := mz_sw h0 h1 h2
theorem mz_sw3 {x : Int32} (h0 : ¬ x = 0) (h1 : ¬ x = 1) (h2 : ¬ x = 2) (h3 : ¬ x = 3) : x.toInt < 0 ∨ 3 < x.toInt := by
  rcases mz_sw h0 h1 h2 with h | h
  · exact Or.inl h
  · rw [← Int32.toInt_inj] at h3
    have e3 : (3 : Int32).toInt = 3 := rfl
    rw [e3] at h3
    omega
theorem mz_dec {x B : Int32} (h : ¬ B ≤ x) : (B.toInt - (x + Int32.ofInt 1).toInt).toNat < (B.toInt - x.toInt).toNat := by
  rw [Int32.le_iff_toInt_le] at h
  have h1 := Int32.toInt_le B
  have h2 := Int32.le_toInt x
  have h3 := Int32.le_toInt B
  have h4 := Int32.toInt_le x
  rw [show Int32.maxValue.toInt = 2147483647 from rfl] at h1 h4
  rw [Int32.toInt_add]
  have e1 : (Int32.ofInt 1).toInt = 1 := rfl
  rw [e1]
  have : (x.toInt + 1).bmod (2 ^ 32) = x.toInt + 1 := by
    rw [Int.bmod_def]
    split <;> omega
  rw [this]
  omega
theorem mz_max {a b : Nat} (ha : a < 2 ^ 31) (hb : b < 2 ^ 31) : (if nI a < nI b then nI b else nI a) = nI (max a b) := by
  by_cases h : a < b
  · rw [if_pos ((nI_ltI ha hb).mpr h), Nat.max_eq_right (Nat.le_of_lt h)]
  · rw [if_neg (fun q => h ((nI_ltI ha hb).mp q)), Nat.max_eq_left (by omega)]
theorem mz_in2 {x : Int32} {n j : Nat} (h : x = nI j) (hj : j < n) (hn : n < 2 ^ 31) : vp_in x n := by
  rw [h]
  exact vp_in_nI hj hn
theorem mz_pl2 {x y : Int32} (h0 : ¬ x < 0) (h1 : ¬ 8 ≤ x) (h2 : ¬ y < 0) (h3 : ¬ 128 ≤ y) : ∃ i j : Nat, i < 8 ∧ j < 128 ∧ x = nI i ∧ y = nI j := by
  obtain ⟨i, hi, ei⟩ := mz_ix (n := 8) h0 h1 (by decide)
  obtain ⟨j, hj, ej⟩ := mz_ix (n := 128) h2 h3 (by decide)
  exact ⟨i, j, hi, hj, ei, ej⟩
theorem mz_inr {x : Int32} {n : Nat} (h0 : ¬ x < 0) (h1 : ¬ nI n ≤ x) (hn : n < 2 ^ 31) : vp_in x n := by
  obtain ⟨j, hj, rfl⟩ := mz_ix h0 h1 hn
  exact vp_in_nI hj hn
end
section
/-! printed rows of NAMES that the contracts use -/
theorem dX1_blank_0 : decode cX1_blank 0 = .ok (.iload_n 1, 1) := by decide +kernel
theorem dX1_blank_1 : decode cX1_blank 1 = .ok (.ifCond .lt 38, 3) := by decide +kernel
theorem dX1_blank_4 : decode cX1_blank 4 = .ok (.iload_n 1, 1) := by decide +kernel
theorem dX1_blank_5 : decode cX1_blank 5 = .ok (.bipush 8, 2) := by decide +kernel
theorem dX1_blank_7 : decode cX1_blank 7 = .ok (.if_icmp .ge 32, 3) := by decide +kernel
theorem dX1_blank_10 : decode cX1_blank 10 = .ok (.iconst 0, 1) := by decide +kernel
theorem dX1_blank_11 : decode cX1_blank 11 = .ok (.istore_n 2, 1) := by decide +kernel
theorem dX1_blank_12 : decode cX1_blank 12 = .ok (.iload_n 2, 1) := by decide +kernel
theorem dX1_blank_13 : decode cX1_blank 13 = .ok (.sipush 128, 3) := by decide +kernel
theorem dX1_blank_16 : decode cX1_blank 16 = .ok (.if_icmp .ge 23, 3) := by decide +kernel
theorem dX1_blank_19 : decode cX1_blank 19 = .ok (.aload_n 0, 1) := by decide +kernel
theorem dX1_blank_20 : decode cX1_blank 20 = .ok (.getfield 9, 3) := by decide +kernel
theorem dX1_blank_23 : decode cX1_blank 23 = .ok (.iload_n 1, 1) := by decide +kernel
theorem dX1_blank_24 : decode cX1_blank 24 = .ok (.sipush 128, 3) := by decide +kernel
theorem dX1_blank_27 : decode cX1_blank 27 = .ok (.imul, 1) := by decide +kernel
theorem dX1_blank_28 : decode cX1_blank 28 = .ok (.iload_n 2, 1) := by decide +kernel
theorem dX1_blank_29 : decode cX1_blank 29 = .ok (.iadd, 1) := by decide +kernel
theorem dX1_blank_30 : decode cX1_blank 30 = .ok (.bipush 50, 2) := by decide +kernel
theorem dX1_blank_32 : decode cX1_blank 32 = .ok (.iastore, 1) := by decide +kernel
theorem dX1_blank_33 : decode cX1_blank 33 = .ok (.iinc 2 1, 3) := by decide +kernel
theorem dX1_blank_36 : decode cX1_blank 36 = .ok (.goto (-24), 3) := by decide +kernel
theorem dX1_blank_39 : decode cX1_blank 39 = .ok (.return_, 1) := by decide +kernel
set_option maxRecDepth 20000 in
theorem ggX1_write_X1_isPlace : GoodIn wsX1_write wsX1_isPlace := goodIn_r _ [5] (by decide +kernel) (by decide +kernel)
set_option maxRecDepth 20000 in
theorem gX1_write_X1_isPlace : GoodIn wsX1_write (va_wsS RX1 15 yX1_isPlace wsX1_isPlace) := goodIn_app (goodIn_of _ (by decide +kernel)) ggX1_write_X1_isPlace
theorem dX1_write_0 : decode cX1_write 0 = .ok (.iload_n 1, 1) := by decide +kernel
theorem dX1_write_1 : decode cX1_write 1 = .ok (.iload_n 2, 1) := by decide +kernel
theorem dX1_write_2 : decode cX1_write 2 = .ok (.invokestatic 15, 3) := by decide +kernel
theorem dX1_write_5 : decode cX1_write 5 = .ok (.ifCond .eq 16, 3) := by decide +kernel
theorem dX1_write_8 : decode cX1_write 8 = .ok (.aload_n 0, 1) := by decide +kernel
theorem dX1_write_9 : decode cX1_write 9 = .ok (.getfield 9, 3) := by decide +kernel
theorem dX1_write_12 : decode cX1_write 12 = .ok (.iload_n 1, 1) := by decide +kernel
theorem dX1_write_13 : decode cX1_write 13 = .ok (.sipush 128, 3) := by decide +kernel
theorem dX1_write_16 : decode cX1_write 16 = .ok (.imul, 1) := by decide +kernel
theorem dX1_write_17 : decode cX1_write 17 = .ok (.iload_n 2, 1) := by decide +kernel
theorem dX1_write_18 : decode cX1_write 18 = .ok (.iadd, 1) := by decide +kernel
theorem dX1_write_19 : decode cX1_write 19 = .ok (.iload_n 3, 1) := by decide +kernel
theorem dX1_write_20 : decode cX1_write 20 = .ok (.iastore, 1) := by decide +kernel
theorem dX1_write_21 : decode cX1_write 21 = .ok (.return_, 1) := by decide +kernel
set_option maxRecDepth 20000 in
theorem ggX1_read_X1_isPlace : GoodIn wsX1_read wsX1_isPlace := goodIn_r _ [5] (by decide +kernel) (by decide +kernel)
set_option maxRecDepth 20000 in
theorem gX1_read_X1_isPlace : GoodIn wsX1_read (va_wsS RX1 15 yX1_isPlace wsX1_isPlace) := goodIn_app (goodIn_of _ (by decide +kernel)) ggX1_read_X1_isPlace
theorem dX1_read_0 : decode cX1_read 0 = .ok (.iload_n 1, 1) := by decide +kernel
theorem dX1_read_1 : decode cX1_read 1 = .ok (.iload_n 2, 1) := by decide +kernel
theorem dX1_read_2 : decode cX1_read 2 = .ok (.invokestatic 15, 3) := by decide +kernel
theorem dX1_read_5 : decode cX1_read 5 = .ok (.ifCond .eq 18, 3) := by decide +kernel
theorem dX1_read_8 : decode cX1_read 8 = .ok (.aload_n 0, 1) := by decide +kernel
theorem dX1_read_9 : decode cX1_read 9 = .ok (.getfield 9, 3) := by decide +kernel
theorem dX1_read_12 : decode cX1_read 12 = .ok (.iload_n 1, 1) := by decide +kernel
theorem dX1_read_13 : decode cX1_read 13 = .ok (.sipush 128, 3) := by decide +kernel
theorem dX1_read_16 : decode cX1_read 16 = .ok (.imul, 1) := by decide +kernel
theorem dX1_read_17 : decode cX1_read 17 = .ok (.iload_n 2, 1) := by decide +kernel
theorem dX1_read_18 : decode cX1_read 18 = .ok (.iadd, 1) := by decide +kernel
theorem dX1_read_19 : decode cX1_read 19 = .ok (.iaload, 1) := by decide +kernel
theorem dX1_read_20 : decode cX1_read 20 = .ok (.goto 4, 3) := by decide +kernel
theorem dX1_read_23 : decode cX1_read 23 = .ok (.iconst (-1), 1) := by decide +kernel
theorem dX1_read_24 : decode cX1_read 24 = .ok (.ireturn, 1) := by decide +kernel
set_option maxRecDepth 20000 in
theorem ggX1_partsUnder_X7_heapOf : GoodIn wsX1_partsUnder wsX7_heapOf := goodIn_r _ [3] (by decide +kernel) (by decide +kernel)
set_option maxRecDepth 20000 in
theorem gX1_partsUnder_X7_heapOf_n19 : GoodIn wsX1_partsUnder (wsX7_heapOf) := ggX1_partsUnder_X7_heapOf
set_option maxRecDepth 20000 in
theorem ggX1_partsUnder_X7_inHeap : GoodIn wsX1_partsUnder wsX7_inHeap := goodIn_r _ [5] (by decide +kernel) (by decide +kernel)
set_option maxRecDepth 20000 in
theorem gX1_partsUnder_X7_inHeap_n23 : GoodIn wsX1_partsUnder (wsX7_inHeap) := ggX1_partsUnder_X7_inHeap
set_option maxRecDepth 20000 in
theorem ggX1_partsUnder_X7_onesOf : GoodIn wsX1_partsUnder wsX7_onesOf := goodIn_r _ [7] (by decide +kernel) (by decide +kernel)
set_option maxRecDepth 20000 in
theorem gX1_partsUnder_X7_onesOf_n26 : GoodIn wsX1_partsUnder (wsX7_onesOf) := ggX1_partsUnder_X7_onesOf
set_option maxRecDepth 20000 in
theorem ggX1_partsUnder_X2_parentsOf : GoodIn wsX1_partsUnder wsX2_parentsOf := goodIn_r _ [12, 13, 14, 15, 16, 11, 17, 18, 31, 32, 33] (by decide +kernel) (by decide +kernel)
set_option maxRecDepth 20000 in
theorem gX1_partsUnder_X2_parentsOf : GoodIn wsX1_partsUnder (wsV RX1 29 RX2 yX2_parentsOf wsX2_parentsOf) := goodIn_app (goodIn_of _ (by decide +kernel)) ggX1_partsUnder_X2_parentsOf
set_option maxRecDepth 20000 in
theorem ggX1_partsUnder_X1_rowOf : GoodIn wsX1_partsUnder wsX1_rowOf := goodIn_r _ [22, 4, 2, 5] (by decide +kernel) (by decide +kernel)
set_option maxRecDepth 20000 in
theorem gX1_partsUnder_X1_rowOf : GoodIn wsX1_partsUnder (va_wsS RX1 34 yX1_rowOf wsX1_rowOf) := goodIn_app (goodIn_of _ (by decide +kernel)) ggX1_partsUnder_X1_rowOf
set_option maxRecDepth 20000 in
theorem ggX1_partsUnder_X1_read : GoodIn wsX1_partsUnder wsX1_read := goodIn_r _ [26, 27, 28, 29, 21, 30, 34] (by decide +kernel) (by decide +kernel)
set_option maxRecDepth 20000 in
theorem gX1_partsUnder_X1_read : GoodIn wsX1_partsUnder (wsV RX1 38 RX1 yX1_read wsX1_read) := goodIn_app (goodIn_of _ (by decide +kernel)) ggX1_partsUnder_X1_read
theorem dX1_partsUnder_0 : decode cX1_partsUnder 0 = .ok (.iload 4, 2) := by decide +kernel
theorem dX1_partsUnder_2 : decode cX1_partsUnder 2 = .ok (.invokestatic 19, 3) := by decide +kernel
theorem dX1_partsUnder_5 : decode cX1_partsUnder 5 = .ok (.iload_n 2, 1) := by decide +kernel
theorem dX1_partsUnder_6 : decode cX1_partsUnder 6 = .ok (.invokestatic 23, 3) := by decide +kernel
theorem dX1_partsUnder_9 : decode cX1_partsUnder 9 = .ok (.ifCond .eq 22, 3) := by decide +kernel
theorem dX1_partsUnder_12 : decode cX1_partsUnder 12 = .ok (.iload 4, 2) := by decide +kernel
theorem dX1_partsUnder_14 : decode cX1_partsUnder 14 = .ok (.invokestatic 26, 3) := by decide +kernel
theorem dX1_partsUnder_17 : decode cX1_partsUnder 17 = .ok (.iload_n 2, 1) := by decide +kernel
theorem dX1_partsUnder_18 : decode cX1_partsUnder 18 = .ok (.invokestatic 23, 3) := by decide +kernel
theorem dX1_partsUnder_21 : decode cX1_partsUnder 21 = .ok (.ifCond .eq 8, 3) := by decide +kernel
theorem dX1_partsUnder_24 : decode cX1_partsUnder 24 = .ok (.bipush 100, 2) := by decide +kernel
theorem dX1_partsUnder_26 : decode cX1_partsUnder 26 = .ok (.goto 4, 3) := by decide +kernel
theorem dX1_partsUnder_29 : decode cX1_partsUnder 29 = .ok (.iconst 0, 1) := by decide +kernel
theorem dX1_partsUnder_30 : decode cX1_partsUnder 30 = .ok (.ireturn, 1) := by decide +kernel
theorem dX1_partsUnder_31 : decode cX1_partsUnder 31 = .ok (.aload_n 0, 1) := by decide +kernel
theorem dX1_partsUnder_32 : decode cX1_partsUnder 32 = .ok (.iload_n 2, 1) := by decide +kernel
theorem dX1_partsUnder_33 : decode cX1_partsUnder 33 = .ok (.aload_n 1, 1) := by decide +kernel
theorem dX1_partsUnder_34 : decode cX1_partsUnder 34 = .ok (.iload_n 2, 1) := by decide +kernel
theorem dX1_partsUnder_35 : decode cX1_partsUnder 35 = .ok (.invokevirtual 29, 3) := by decide +kernel
theorem dX1_partsUnder_38 : decode cX1_partsUnder 38 = .ok (.iload_n 3, 1) := by decide +kernel
theorem dX1_partsUnder_39 : decode cX1_partsUnder 39 = .ok (.invokestatic 34, 3) := by decide +kernel
theorem dX1_partsUnder_42 : decode cX1_partsUnder 42 = .ok (.invokevirtual 38, 3) := by decide +kernel
theorem dX1_partsUnder_45 : decode cX1_partsUnder 45 = .ok (.ireturn, 1) := by decide +kernel
theorem dX1_isPlace_0 : decode cX1_isPlace 0 = .ok (.iload_n 0, 1) := by decide +kernel
theorem dX1_isPlace_1 : decode cX1_isPlace 1 = .ok (.ifCond .lt 24, 3) := by decide +kernel
theorem dX1_isPlace_4 : decode cX1_isPlace 4 = .ok (.iload_n 0, 1) := by decide +kernel
theorem dX1_isPlace_5 : decode cX1_isPlace 5 = .ok (.bipush 8, 2) := by decide +kernel
theorem dX1_isPlace_7 : decode cX1_isPlace 7 = .ok (.if_icmp .ge 18, 3) := by decide +kernel
theorem dX1_isPlace_10 : decode cX1_isPlace 10 = .ok (.iload_n 1, 1) := by decide +kernel
theorem dX1_isPlace_11 : decode cX1_isPlace 11 = .ok (.ifCond .lt 14, 3) := by decide +kernel
theorem dX1_isPlace_14 : decode cX1_isPlace 14 = .ok (.iload_n 1, 1) := by decide +kernel
theorem dX1_isPlace_15 : decode cX1_isPlace 15 = .ok (.sipush 128, 3) := by decide +kernel
theorem dX1_isPlace_18 : decode cX1_isPlace 18 = .ok (.if_icmp .ge 7, 3) := by decide +kernel
theorem dX1_isPlace_21 : decode cX1_isPlace 21 = .ok (.iconst 1, 1) := by decide +kernel
theorem dX1_isPlace_22 : decode cX1_isPlace 22 = .ok (.goto 4, 3) := by decide +kernel
theorem dX1_isPlace_25 : decode cX1_isPlace 25 = .ok (.iconst 0, 1) := by decide +kernel
theorem dX1_isPlace_26 : decode cX1_isPlace 26 = .ok (.ireturn, 1) := by decide +kernel
set_option maxRecDepth 20000 in
theorem ggX1_rowOf_X7_inHeap : GoodIn wsX1_rowOf wsX7_inHeap := goodIn_r _ [3] (by decide +kernel) (by decide +kernel)
set_option maxRecDepth 20000 in
theorem gX1_rowOf_X7_inHeap_n23 : GoodIn wsX1_rowOf (wsX7_inHeap) := ggX1_rowOf_X7_inHeap
theorem dX1_rowOf_0 : decode cX1_rowOf 0 = .ok (.iconst 0, 1) := by decide +kernel
theorem dX1_rowOf_1 : decode cX1_rowOf 1 = .ok (.istore_n 2, 1) := by decide +kernel
theorem dX1_rowOf_2 : decode cX1_rowOf 2 = .ok (.iconst 0, 1) := by decide +kernel
theorem dX1_rowOf_3 : decode cX1_rowOf 3 = .ok (.istore_n 3, 1) := by decide +kernel
theorem dX1_rowOf_4 : decode cX1_rowOf 4 = .ok (.iconst 0, 1) := by decide +kernel
theorem dX1_rowOf_5 : decode cX1_rowOf 5 = .ok (.istore 4, 2) := by decide +kernel
theorem dX1_rowOf_7 : decode cX1_rowOf 7 = .ok (.iload 4, 2) := by decide +kernel
theorem dX1_rowOf_9 : decode cX1_rowOf 9 = .ok (.bipush 8, 2) := by decide +kernel
theorem dX1_rowOf_11 : decode cX1_rowOf 11 = .ok (.if_icmp .ge 32, 3) := by decide +kernel
theorem dX1_rowOf_14 : decode cX1_rowOf 14 = .ok (.iload_n 0, 1) := by decide +kernel
theorem dX1_rowOf_15 : decode cX1_rowOf 15 = .ok (.iload 4, 2) := by decide +kernel
theorem dX1_rowOf_17 : decode cX1_rowOf 17 = .ok (.invokestatic 23, 3) := by decide +kernel
theorem dX1_rowOf_20 : decode cX1_rowOf 20 = .ok (.ifCond .eq 17, 3) := by decide +kernel
theorem dX1_rowOf_23 : decode cX1_rowOf 23 = .ok (.iload_n 2, 1) := by decide +kernel
theorem dX1_rowOf_24 : decode cX1_rowOf 24 = .ok (.iload_n 1, 1) := by decide +kernel
theorem dX1_rowOf_25 : decode cX1_rowOf 25 = .ok (.iload 4, 2) := by decide +kernel
theorem dX1_rowOf_27 : decode cX1_rowOf 27 = .ok (.ishr, 1) := by decide +kernel
theorem dX1_rowOf_28 : decode cX1_rowOf 28 = .ok (.iconst 1, 1) := by decide +kernel
theorem dX1_rowOf_29 : decode cX1_rowOf 29 = .ok (.iand, 1) := by decide +kernel
theorem dX1_rowOf_30 : decode cX1_rowOf 30 = .ok (.iload_n 3, 1) := by decide +kernel
theorem dX1_rowOf_31 : decode cX1_rowOf 31 = .ok (.ishl, 1) := by decide +kernel
theorem dX1_rowOf_32 : decode cX1_rowOf 32 = .ok (.ior, 1) := by decide +kernel
theorem dX1_rowOf_33 : decode cX1_rowOf 33 = .ok (.istore_n 2, 1) := by decide +kernel
theorem dX1_rowOf_34 : decode cX1_rowOf 34 = .ok (.iinc 3 1, 3) := by decide +kernel
theorem dX1_rowOf_37 : decode cX1_rowOf 37 = .ok (.iinc 4 1, 3) := by decide +kernel
theorem dX1_rowOf_40 : decode cX1_rowOf 40 = .ok (.goto (-33), 3) := by decide +kernel
theorem dX1_rowOf_43 : decode cX1_rowOf 43 = .ok (.iload_n 2, 1) := by decide +kernel
theorem dX1_rowOf_44 : decode cX1_rowOf 44 = .ok (.ireturn, 1) := by decide +kernel
theorem dX2_size_0 : decode cX2_size 0 = .ok (.aload_n 0, 1) := by decide +kernel
theorem dX2_size_1 : decode cX2_size 1 = .ok (.getfield 18, 3) := by decide +kernel
theorem dX2_size_4 : decode cX2_size 4 = .ok (.ireturn, 1) := by decide +kernel
theorem dX2_has_0 : decode cX2_has 0 = .ok (.iload_n 1, 1) := by decide +kernel
theorem dX2_has_1 : decode cX2_has 1 = .ok (.ifCond .lt 15, 3) := by decide +kernel
theorem dX2_has_4 : decode cX2_has 4 = .ok (.iload_n 1, 1) := by decide +kernel
theorem dX2_has_5 : decode cX2_has 5 = .ok (.aload_n 0, 1) := by decide +kernel
theorem dX2_has_6 : decode cX2_has 6 = .ok (.getfield 18, 3) := by decide +kernel
theorem dX2_has_9 : decode cX2_has 9 = .ok (.if_icmp .ge 7, 3) := by decide +kernel
theorem dX2_has_12 : decode cX2_has 12 = .ok (.iconst 1, 1) := by decide +kernel
theorem dX2_has_13 : decode cX2_has 13 = .ok (.goto 4, 3) := by decide +kernel
theorem dX2_has_16 : decode cX2_has 16 = .ok (.iconst 0, 1) := by decide +kernel
theorem dX2_has_17 : decode cX2_has 17 = .ok (.ireturn, 1) := by decide +kernel
theorem dX2_everything_0 : decode cX2_everything 0 = .ok (.iconst 1, 1) := by decide +kernel
theorem dX2_everything_1 : decode cX2_everything 1 = .ok (.aload_n 0, 1) := by decide +kernel
theorem dX2_everything_2 : decode cX2_everything 2 = .ok (.getfield 18, 3) := by decide +kernel
theorem dX2_everything_5 : decode cX2_everything 5 = .ok (.ishl, 1) := by decide +kernel
theorem dX2_everything_6 : decode cX2_everything 6 = .ok (.iconst 1, 1) := by decide +kernel
theorem dX2_everything_7 : decode cX2_everything 7 = .ok (.isub, 1) := by decide +kernel
theorem dX2_everything_8 : decode cX2_everything 8 = .ok (.ireturn, 1) := by decide +kernel
set_option maxRecDepth 20000 in
theorem ggX2_parentsOf_X2_has : GoodIn wsX2_parentsOf wsX2_has := goodIn_r _ [6, 7, 8, 9, 10] (by decide +kernel) (by decide +kernel)
set_option maxRecDepth 20000 in
theorem gX2_parentsOf_X2_has : GoodIn wsX2_parentsOf (wsV RX2 22 RX2 yX2_has wsX2_has) := goodIn_app (goodIn_of _ (by decide +kernel)) ggX2_parentsOf_X2_has
theorem dX2_parentsOf_0 : decode cX2_parentsOf 0 = .ok (.aload_n 0, 1) := by decide +kernel
theorem dX2_parentsOf_1 : decode cX2_parentsOf 1 = .ok (.iload_n 1, 1) := by decide +kernel
theorem dX2_parentsOf_2 : decode cX2_parentsOf 2 = .ok (.invokevirtual 22, 3) := by decide +kernel
theorem dX2_parentsOf_5 : decode cX2_parentsOf 5 = .ok (.ifCond .eq 12, 3) := by decide +kernel
theorem dX2_parentsOf_8 : decode cX2_parentsOf 8 = .ok (.aload_n 0, 1) := by decide +kernel
theorem dX2_parentsOf_9 : decode cX2_parentsOf 9 = .ok (.getfield 9, 3) := by decide +kernel
theorem dX2_parentsOf_12 : decode cX2_parentsOf 12 = .ok (.iload_n 1, 1) := by decide +kernel
theorem dX2_parentsOf_13 : decode cX2_parentsOf 13 = .ok (.iaload, 1) := by decide +kernel
theorem dX2_parentsOf_14 : decode cX2_parentsOf 14 = .ok (.goto 4, 3) := by decide +kernel
theorem dX2_parentsOf_17 : decode cX2_parentsOf 17 = .ok (.iconst 0, 1) := by decide +kernel
theorem dX2_parentsOf_18 : decode cX2_parentsOf 18 = .ok (.ireturn, 1) := by decide +kernel
set_option maxRecDepth 20000 in
theorem ggX2_childrenOf_X2_has : GoodIn wsX2_childrenOf wsX2_has := goodIn_r _ [6, 7, 8, 9, 10] (by decide +kernel) (by decide +kernel)
set_option maxRecDepth 20000 in
theorem gX2_childrenOf_X2_has : GoodIn wsX2_childrenOf (wsV RX2 22 RX2 yX2_has wsX2_has) := goodIn_app (goodIn_of _ (by decide +kernel)) ggX2_childrenOf_X2_has
theorem dX2_childrenOf_0 : decode cX2_childrenOf 0 = .ok (.aload_n 0, 1) := by decide +kernel
theorem dX2_childrenOf_1 : decode cX2_childrenOf 1 = .ok (.iload_n 1, 1) := by decide +kernel
theorem dX2_childrenOf_2 : decode cX2_childrenOf 2 = .ok (.invokevirtual 22, 3) := by decide +kernel
theorem dX2_childrenOf_5 : decode cX2_childrenOf 5 = .ok (.ifCond .eq 12, 3) := by decide +kernel
theorem dX2_childrenOf_8 : decode cX2_childrenOf 8 = .ok (.aload_n 0, 1) := by decide +kernel
theorem dX2_childrenOf_9 : decode cX2_childrenOf 9 = .ok (.getfield 15, 3) := by decide +kernel
theorem dX2_childrenOf_12 : decode cX2_childrenOf 12 = .ok (.iload_n 1, 1) := by decide +kernel
theorem dX2_childrenOf_13 : decode cX2_childrenOf 13 = .ok (.iaload, 1) := by decide +kernel
theorem dX2_childrenOf_14 : decode cX2_childrenOf 14 = .ok (.goto 4, 3) := by decide +kernel
theorem dX2_childrenOf_17 : decode cX2_childrenOf 17 = .ok (.iconst 0, 1) := by decide +kernel
theorem dX2_childrenOf_18 : decode cX2_childrenOf 18 = .ok (.ireturn, 1) := by decide +kernel
set_option maxRecDepth 20000 in
theorem ggX2_joinedTo_X2_has : GoodIn wsX2_joinedTo wsX2_has := goodIn_r _ [7, 8, 9, 10, 11] (by decide +kernel) (by decide +kernel)
set_option maxRecDepth 20000 in
theorem gX2_joinedTo_X2_has : GoodIn wsX2_joinedTo (wsV RX2 22 RX2 yX2_has wsX2_has) := goodIn_app (goodIn_of _ (by decide +kernel)) ggX2_joinedTo_X2_has
theorem dX2_joinedTo_0 : decode cX2_joinedTo 0 = .ok (.aload_n 0, 1) := by decide +kernel
theorem dX2_joinedTo_1 : decode cX2_joinedTo 1 = .ok (.iload_n 1, 1) := by decide +kernel
theorem dX2_joinedTo_2 : decode cX2_joinedTo 2 = .ok (.invokevirtual 22, 3) := by decide +kernel
theorem dX2_joinedTo_5 : decode cX2_joinedTo 5 = .ok (.ifCond .eq 19, 3) := by decide +kernel
theorem dX2_joinedTo_8 : decode cX2_joinedTo 8 = .ok (.aload_n 0, 1) := by decide +kernel
theorem dX2_joinedTo_9 : decode cX2_joinedTo 9 = .ok (.getfield 9, 3) := by decide +kernel
theorem dX2_joinedTo_12 : decode cX2_joinedTo 12 = .ok (.iload_n 1, 1) := by decide +kernel
theorem dX2_joinedTo_13 : decode cX2_joinedTo 13 = .ok (.iaload, 1) := by decide +kernel
theorem dX2_joinedTo_14 : decode cX2_joinedTo 14 = .ok (.aload_n 0, 1) := by decide +kernel
theorem dX2_joinedTo_15 : decode cX2_joinedTo 15 = .ok (.getfield 15, 3) := by decide +kernel
theorem dX2_joinedTo_18 : decode cX2_joinedTo 18 = .ok (.iload_n 1, 1) := by decide +kernel
theorem dX2_joinedTo_19 : decode cX2_joinedTo 19 = .ok (.iaload, 1) := by decide +kernel
theorem dX2_joinedTo_20 : decode cX2_joinedTo 20 = .ok (.ior, 1) := by decide +kernel
theorem dX2_joinedTo_21 : decode cX2_joinedTo 21 = .ok (.goto 4, 3) := by decide +kernel
theorem dX2_joinedTo_24 : decode cX2_joinedTo 24 = .ok (.iconst 0, 1) := by decide +kernel
theorem dX2_joinedTo_25 : decode cX2_joinedTo 25 = .ok (.ireturn, 1) := by decide +kernel
set_option maxRecDepth 20000 in
theorem ggX2_leads_X2_has : GoodIn wsX2_leads wsX2_has := goodIn_r _ [6, 7, 11, 12, 13] (by decide +kernel) (by decide +kernel)
set_option maxRecDepth 20000 in
theorem gX2_leads_X2_has : GoodIn wsX2_leads (wsV RX2 22 RX2 yX2_has wsX2_has) := goodIn_app (goodIn_of _ (by decide +kernel)) ggX2_leads_X2_has
set_option maxRecDepth 20000 in
theorem ggX2_leads_X7_inHeap : GoodIn wsX2_leads wsX7_inHeap := goodIn_r _ [10] (by decide +kernel) (by decide +kernel)
set_option maxRecDepth 20000 in
theorem gX2_leads_X7_inHeap_n26 : GoodIn wsX2_leads (wsX7_inHeap) := ggX2_leads_X7_inHeap
theorem dX2_leads_0 : decode cX2_leads 0 = .ok (.aload_n 0, 1) := by decide +kernel
theorem dX2_leads_1 : decode cX2_leads 1 = .ok (.iload_n 1, 1) := by decide +kernel
theorem dX2_leads_2 : decode cX2_leads 2 = .ok (.invokevirtual 22, 3) := by decide +kernel
theorem dX2_leads_5 : decode cX2_leads 5 = .ok (.ifCond .eq 28, 3) := by decide +kernel
theorem dX2_leads_8 : decode cX2_leads 8 = .ok (.aload_n 0, 1) := by decide +kernel
theorem dX2_leads_9 : decode cX2_leads 9 = .ok (.iload_n 2, 1) := by decide +kernel
theorem dX2_leads_10 : decode cX2_leads 10 = .ok (.invokevirtual 22, 3) := by decide +kernel
theorem dX2_leads_13 : decode cX2_leads 13 = .ok (.ifCond .eq 20, 3) := by decide +kernel
theorem dX2_leads_16 : decode cX2_leads 16 = .ok (.aload_n 0, 1) := by decide +kernel
theorem dX2_leads_17 : decode cX2_leads 17 = .ok (.getfield 15, 3) := by decide +kernel
theorem dX2_leads_20 : decode cX2_leads 20 = .ok (.iload_n 1, 1) := by decide +kernel
theorem dX2_leads_21 : decode cX2_leads 21 = .ok (.iaload, 1) := by decide +kernel
theorem dX2_leads_22 : decode cX2_leads 22 = .ok (.iload_n 2, 1) := by decide +kernel
theorem dX2_leads_23 : decode cX2_leads 23 = .ok (.invokestatic 26, 3) := by decide +kernel
theorem dX2_leads_26 : decode cX2_leads 26 = .ok (.ifCond .eq 7, 3) := by decide +kernel
theorem dX2_leads_29 : decode cX2_leads 29 = .ok (.iconst 1, 1) := by decide +kernel
theorem dX2_leads_30 : decode cX2_leads 30 = .ok (.goto 4, 3) := by decide +kernel
theorem dX2_leads_33 : decode cX2_leads 33 = .ok (.iconst 0, 1) := by decide +kernel
theorem dX2_leads_34 : decode cX2_leads 34 = .ok (.ireturn, 1) := by decide +kernel
set_option maxRecDepth 20000 in
theorem ggX2_canJoin_X2_joinedTo : GoodIn wsX2_canJoin wsX2_joinedTo := goodIn_r _ [5, 6, 7, 8, 9, 10, 4, 11, 12, 35, 36, 37] (by decide +kernel) (by decide +kernel)
set_option maxRecDepth 20000 in
theorem gX2_canJoin_X2_joinedTo : GoodIn wsX2_canJoin (wsV RX2 30 RX2 yX2_joinedTo wsX2_joinedTo) := goodIn_app (goodIn_of _ (by decide +kernel)) ggX2_canJoin_X2_joinedTo
set_option maxRecDepth 20000 in
theorem ggX2_canJoin_X7_inHeap : GoodIn wsX2_canJoin wsX7_inHeap := goodIn_r _ [15] (by decide +kernel) (by decide +kernel)
set_option maxRecDepth 20000 in
theorem gX2_canJoin_X7_inHeap_n26 : GoodIn wsX2_canJoin (wsX7_inHeap) := ggX2_canJoin_X7_inHeap
set_option maxRecDepth 20000 in
theorem ggX2_canJoin_X2_allBelow : GoodIn wsX2_canJoin wsX2_allBelow := goodIn_r _ [19, 20, 21, 22, 4, 23, 7, 8, 9, 10, 11, 12, 24, 25, 26, 27, 28, 29, 30, 31, 32, 33, 34, 13, 14, 15, 35, 36, 37] (by decide +kernel) (by decide +kernel)
set_option maxRecDepth 20000 in
theorem gX2_canJoin_X2_allBelow : GoodIn wsX2_canJoin (wsV RX2 34 RX2 yX2_allBelow wsX2_allBelow) := goodIn_app (goodIn_of _ (by decide +kernel)) ggX2_canJoin_X2_allBelow
theorem dX2_canJoin_0 : decode cX2_canJoin 0 = .ok (.iload_n 1, 1) := by decide +kernel
theorem dX2_canJoin_1 : decode cX2_canJoin 1 = .ok (.iload_n 2, 1) := by decide +kernel
theorem dX2_canJoin_2 : decode cX2_canJoin 2 = .ok (.if_icmp .eq 31, 3) := by decide +kernel
theorem dX2_canJoin_5 : decode cX2_canJoin 5 = .ok (.aload_n 0, 1) := by decide +kernel
theorem dX2_canJoin_6 : decode cX2_canJoin 6 = .ok (.iload_n 1, 1) := by decide +kernel
theorem dX2_canJoin_7 : decode cX2_canJoin 7 = .ok (.invokevirtual 30, 3) := by decide +kernel
theorem dX2_canJoin_10 : decode cX2_canJoin 10 = .ok (.iload_n 2, 1) := by decide +kernel
theorem dX2_canJoin_11 : decode cX2_canJoin 11 = .ok (.invokestatic 26, 3) := by decide +kernel
theorem dX2_canJoin_14 : decode cX2_canJoin 14 = .ok (.ifCond .ne 19, 3) := by decide +kernel
theorem dX2_canJoin_17 : decode cX2_canJoin 17 = .ok (.aload_n 0, 1) := by decide +kernel
theorem dX2_canJoin_18 : decode cX2_canJoin 18 = .ok (.iload_n 2, 1) := by decide +kernel
theorem dX2_canJoin_19 : decode cX2_canJoin 19 = .ok (.invokevirtual 34, 3) := by decide +kernel
theorem dX2_canJoin_22 : decode cX2_canJoin 22 = .ok (.iload_n 1, 1) := by decide +kernel
theorem dX2_canJoin_23 : decode cX2_canJoin 23 = .ok (.invokestatic 26, 3) := by decide +kernel
theorem dX2_canJoin_26 : decode cX2_canJoin 26 = .ok (.ifCond .ne 7, 3) := by decide +kernel
theorem dX2_canJoin_29 : decode cX2_canJoin 29 = .ok (.iconst 1, 1) := by decide +kernel
theorem dX2_canJoin_30 : decode cX2_canJoin 30 = .ok (.goto 4, 3) := by decide +kernel
theorem dX2_canJoin_33 : decode cX2_canJoin 33 = .ok (.iconst 0, 1) := by decide +kernel
theorem dX2_canJoin_34 : decode cX2_canJoin 34 = .ok (.ireturn, 1) := by decide +kernel
set_option maxRecDepth 20000 in
theorem ggX2_join_X2_has : GoodIn wsX2_join wsX2_has := goodIn_r _ [7, 8, 12, 13, 14] (by decide +kernel) (by decide +kernel)
set_option maxRecDepth 20000 in
theorem gX2_join_X2_has : GoodIn wsX2_join (wsV RX2 22 RX2 yX2_has wsX2_has) := goodIn_app (goodIn_of _ (by decide +kernel)) ggX2_join_X2_has
set_option maxRecDepth 20000 in
theorem ggX2_join_X7_bit : GoodIn wsX2_join wsX7_bit := goodIn_r _ [11] (by decide +kernel) (by decide +kernel)
set_option maxRecDepth 20000 in
theorem gX2_join_X7_bit_n37 : GoodIn wsX2_join (wsX7_bit) := ggX2_join_X7_bit
theorem dX2_join_0 : decode cX2_join 0 = .ok (.aload_n 0, 1) := by decide +kernel
theorem dX2_join_1 : decode cX2_join 1 = .ok (.iload_n 1, 1) := by decide +kernel
theorem dX2_join_2 : decode cX2_join 2 = .ok (.invokevirtual 22, 3) := by decide +kernel
theorem dX2_join_5 : decode cX2_join 5 = .ok (.ifCond .eq 37, 3) := by decide +kernel
theorem dX2_join_8 : decode cX2_join 8 = .ok (.aload_n 0, 1) := by decide +kernel
theorem dX2_join_9 : decode cX2_join 9 = .ok (.iload_n 2, 1) := by decide +kernel
theorem dX2_join_10 : decode cX2_join 10 = .ok (.invokevirtual 22, 3) := by decide +kernel
theorem dX2_join_13 : decode cX2_join 13 = .ok (.ifCond .eq 29, 3) := by decide +kernel
theorem dX2_join_16 : decode cX2_join 16 = .ok (.aload_n 0, 1) := by decide +kernel
theorem dX2_join_17 : decode cX2_join 17 = .ok (.getfield 15, 3) := by decide +kernel
theorem dX2_join_20 : decode cX2_join 20 = .ok (.iload_n 1, 1) := by decide +kernel
theorem dX2_join_21 : decode cX2_join 21 = .ok (.dup2, 1) := by decide +kernel
theorem dX2_join_22 : decode cX2_join 22 = .ok (.iaload, 1) := by decide +kernel
theorem dX2_join_23 : decode cX2_join 23 = .ok (.iload_n 2, 1) := by decide +kernel
theorem dX2_join_24 : decode cX2_join 24 = .ok (.invokestatic 37, 3) := by decide +kernel
theorem dX2_join_27 : decode cX2_join 27 = .ok (.ior, 1) := by decide +kernel
theorem dX2_join_28 : decode cX2_join 28 = .ok (.iastore, 1) := by decide +kernel
theorem dX2_join_29 : decode cX2_join 29 = .ok (.aload_n 0, 1) := by decide +kernel
theorem dX2_join_30 : decode cX2_join 30 = .ok (.getfield 9, 3) := by decide +kernel
theorem dX2_join_33 : decode cX2_join 33 = .ok (.iload_n 2, 1) := by decide +kernel
theorem dX2_join_34 : decode cX2_join 34 = .ok (.dup2, 1) := by decide +kernel
theorem dX2_join_35 : decode cX2_join 35 = .ok (.iaload, 1) := by decide +kernel
theorem dX2_join_36 : decode cX2_join 36 = .ok (.iload_n 1, 1) := by decide +kernel
theorem dX2_join_37 : decode cX2_join 37 = .ok (.invokestatic 37, 3) := by decide +kernel
theorem dX2_join_40 : decode cX2_join 40 = .ok (.ior, 1) := by decide +kernel
theorem dX2_join_41 : decode cX2_join 41 = .ok (.iastore, 1) := by decide +kernel
theorem dX2_join_42 : decode cX2_join 42 = .ok (.return_, 1) := by decide +kernel
set_option maxRecDepth 20000 in
theorem ggX2_part_X2_has : GoodIn wsX2_part wsX2_has := goodIn_r _ [7, 8, 12, 13, 14] (by decide +kernel) (by decide +kernel)
set_option maxRecDepth 20000 in
theorem gX2_part_X2_has : GoodIn wsX2_part (wsV RX2 22 RX2 yX2_has wsX2_has) := goodIn_app (goodIn_of _ (by decide +kernel)) ggX2_part_X2_has
set_option maxRecDepth 20000 in
theorem ggX2_part_X7_bit : GoodIn wsX2_part wsX7_bit := goodIn_r _ [11] (by decide +kernel) (by decide +kernel)
set_option maxRecDepth 20000 in
theorem gX2_part_X7_bit_n37 : GoodIn wsX2_part (wsX7_bit) := ggX2_part_X7_bit
theorem dX2_part_0 : decode cX2_part 0 = .ok (.aload_n 0, 1) := by decide +kernel
theorem dX2_part_1 : decode cX2_part 1 = .ok (.iload_n 1, 1) := by decide +kernel
theorem dX2_part_2 : decode cX2_part 2 = .ok (.invokevirtual 22, 3) := by decide +kernel
theorem dX2_part_5 : decode cX2_part 5 = .ok (.ifCond .eq 41, 3) := by decide +kernel
theorem dX2_part_8 : decode cX2_part 8 = .ok (.aload_n 0, 1) := by decide +kernel
theorem dX2_part_9 : decode cX2_part 9 = .ok (.iload_n 2, 1) := by decide +kernel
theorem dX2_part_10 : decode cX2_part 10 = .ok (.invokevirtual 22, 3) := by decide +kernel
theorem dX2_part_13 : decode cX2_part 13 = .ok (.ifCond .eq 33, 3) := by decide +kernel
theorem dX2_part_16 : decode cX2_part 16 = .ok (.aload_n 0, 1) := by decide +kernel
theorem dX2_part_17 : decode cX2_part 17 = .ok (.getfield 15, 3) := by decide +kernel
theorem dX2_part_20 : decode cX2_part 20 = .ok (.iload_n 1, 1) := by decide +kernel
theorem dX2_part_21 : decode cX2_part 21 = .ok (.dup2, 1) := by decide +kernel
theorem dX2_part_22 : decode cX2_part 22 = .ok (.iaload, 1) := by decide +kernel
theorem dX2_part_23 : decode cX2_part 23 = .ok (.iload_n 2, 1) := by decide +kernel
theorem dX2_part_24 : decode cX2_part 24 = .ok (.invokestatic 37, 3) := by decide +kernel
theorem dX2_part_27 : decode cX2_part 27 = .ok (.iconst (-1), 1) := by decide +kernel
theorem dX2_part_28 : decode cX2_part 28 = .ok (.ixor, 1) := by decide +kernel
theorem dX2_part_29 : decode cX2_part 29 = .ok (.iand, 1) := by decide +kernel
theorem dX2_part_30 : decode cX2_part 30 = .ok (.iastore, 1) := by decide +kernel
theorem dX2_part_31 : decode cX2_part 31 = .ok (.aload_n 0, 1) := by decide +kernel
theorem dX2_part_32 : decode cX2_part 32 = .ok (.getfield 9, 3) := by decide +kernel
theorem dX2_part_35 : decode cX2_part 35 = .ok (.iload_n 2, 1) := by decide +kernel
theorem dX2_part_36 : decode cX2_part 36 = .ok (.dup2, 1) := by decide +kernel
theorem dX2_part_37 : decode cX2_part 37 = .ok (.iaload, 1) := by decide +kernel
theorem dX2_part_38 : decode cX2_part 38 = .ok (.iload_n 1, 1) := by decide +kernel
theorem dX2_part_39 : decode cX2_part 39 = .ok (.invokestatic 37, 3) := by decide +kernel
theorem dX2_part_42 : decode cX2_part 42 = .ok (.iconst (-1), 1) := by decide +kernel
theorem dX2_part_43 : decode cX2_part 43 = .ok (.ixor, 1) := by decide +kernel
theorem dX2_part_44 : decode cX2_part 44 = .ok (.iand, 1) := by decide +kernel
theorem dX2_part_45 : decode cX2_part 45 = .ok (.iastore, 1) := by decide +kernel
theorem dX2_part_46 : decode cX2_part 46 = .ok (.return_, 1) := by decide +kernel
set_option maxRecDepth 20000 in
theorem ggX2_arrows_J6_bitCount_0f7a4 : GoodIn wsX2_arrows wsJ6_bitCount_0f7a4 := goodIn_r _ [6, 7, 8, 9] (by decide +kernel) (by decide +kernel)
set_option maxRecDepth 20000 in
theorem gX2_arrows_J6_bitCount_0f7a4 : GoodIn wsX2_arrows (va_wsS RX2 40 yJ6_bitCount_0f7a4 wsJ6_bitCount_0f7a4) := goodIn_app (goodIn_of _ (by decide +kernel)) ggX2_arrows_J6_bitCount_0f7a4
theorem dX2_arrows_0 : decode cX2_arrows 0 = .ok (.iconst 0, 1) := by decide +kernel
theorem dX2_arrows_1 : decode cX2_arrows 1 = .ok (.istore_n 1, 1) := by decide +kernel
theorem dX2_arrows_2 : decode cX2_arrows 2 = .ok (.iconst 0, 1) := by decide +kernel
theorem dX2_arrows_3 : decode cX2_arrows 3 = .ok (.istore_n 2, 1) := by decide +kernel
theorem dX2_arrows_4 : decode cX2_arrows 4 = .ok (.iload_n 2, 1) := by decide +kernel
theorem dX2_arrows_5 : decode cX2_arrows 5 = .ok (.aload_n 0, 1) := by decide +kernel
theorem dX2_arrows_6 : decode cX2_arrows 6 = .ok (.getfield 18, 3) := by decide +kernel
theorem dX2_arrows_9 : decode cX2_arrows 9 = .ok (.if_icmp .ge 21, 3) := by decide +kernel
theorem dX2_arrows_12 : decode cX2_arrows 12 = .ok (.iload_n 1, 1) := by decide +kernel
theorem dX2_arrows_13 : decode cX2_arrows 13 = .ok (.aload_n 0, 1) := by decide +kernel
theorem dX2_arrows_14 : decode cX2_arrows 14 = .ok (.getfield 9, 3) := by decide +kernel
theorem dX2_arrows_17 : decode cX2_arrows 17 = .ok (.iload_n 2, 1) := by decide +kernel
theorem dX2_arrows_18 : decode cX2_arrows 18 = .ok (.iaload, 1) := by decide +kernel
theorem dX2_arrows_19 : decode cX2_arrows 19 = .ok (.invokestatic 40, 3) := by decide +kernel
theorem dX2_arrows_22 : decode cX2_arrows 22 = .ok (.iadd, 1) := by decide +kernel
theorem dX2_arrows_23 : decode cX2_arrows 23 = .ok (.istore_n 1, 1) := by decide +kernel
theorem dX2_arrows_24 : decode cX2_arrows 24 = .ok (.iinc 2 1, 3) := by decide +kernel
theorem dX2_arrows_27 : decode cX2_arrows 27 = .ok (.goto (-23), 3) := by decide +kernel
theorem dX2_arrows_30 : decode cX2_arrows 30 = .ok (.iload_n 1, 1) := by decide +kernel
theorem dX2_arrows_31 : decode cX2_arrows 31 = .ok (.ireturn, 1) := by decide +kernel
set_option maxRecDepth 20000 in
theorem ggX2_allBelow_X2_childrenOf : GoodIn wsX2_allBelow wsX2_childrenOf := goodIn_r _ [5, 6, 7, 8, 9, 4, 10, 11, 26, 27, 28] (by decide +kernel) (by decide +kernel)
set_option maxRecDepth 20000 in
theorem gX2_allBelow_X2_childrenOf : GoodIn wsX2_allBelow (wsV RX2 45 RX2 yX2_childrenOf wsX2_childrenOf) := goodIn_app (goodIn_of _ (by decide +kernel)) ggX2_allBelow_X2_childrenOf
set_option maxRecDepth 20000 in
theorem ggX2_allBelow_X2_withAllBelow : GoodIn wsX2_allBelow wsX2_withAllBelow := goodIn_r _ [15, 6, 16, 17, 18, 4, 19, 20, 21, 22, 23, 24, 25, 26, 27, 28] (by decide +kernel) (by decide +kernel)
set_option maxRecDepth 20000 in
theorem gX2_allBelow_X2_withAllBelow : GoodIn wsX2_allBelow (wsV RX2 48 RX2 yX2_withAllBelow wsX2_withAllBelow) := goodIn_app (goodIn_of _ (by decide +kernel)) ggX2_allBelow_X2_withAllBelow
theorem dX2_allBelow_0 : decode cX2_allBelow 0 = .ok (.aload_n 0, 1) := by decide +kernel
theorem dX2_allBelow_1 : decode cX2_allBelow 1 = .ok (.aload_n 0, 1) := by decide +kernel
theorem dX2_allBelow_2 : decode cX2_allBelow 2 = .ok (.iload_n 1, 1) := by decide +kernel
theorem dX2_allBelow_3 : decode cX2_allBelow 3 = .ok (.invokevirtual 45, 3) := by decide +kernel
theorem dX2_allBelow_6 : decode cX2_allBelow 6 = .ok (.invokevirtual 48, 3) := by decide +kernel
theorem dX2_allBelow_9 : decode cX2_allBelow 9 = .ok (.ireturn, 1) := by decide +kernel
set_option maxRecDepth 20000 in
theorem ggX2_withAllBelow_X2_spread : GoodIn wsX2_withAllBelow wsX2_spread := goodIn_r _ [6, 7, 8, 5, 9, 10, 11, 12] (by decide +kernel) (by decide +kernel)
set_option maxRecDepth 20000 in
theorem gX2_withAllBelow_X2_spread : GoodIn wsX2_withAllBelow (wsV RX2 51 RX2 yX2_spread wsX2_spread) := goodIn_app (goodIn_of _ (by decide +kernel)) ggX2_withAllBelow_X2_spread
theorem dX2_withAllBelow_0 : decode cX2_withAllBelow 0 = .ok (.aload_n 0, 1) := by decide +kernel
theorem dX2_withAllBelow_1 : decode cX2_withAllBelow 1 = .ok (.iload_n 1, 1) := by decide +kernel
theorem dX2_withAllBelow_2 : decode cX2_withAllBelow 2 = .ok (.aload_n 0, 1) := by decide +kernel
theorem dX2_withAllBelow_3 : decode cX2_withAllBelow 3 = .ok (.getfield 15, 3) := by decide +kernel
theorem dX2_withAllBelow_6 : decode cX2_withAllBelow 6 = .ok (.invokevirtual 51, 3) := by decide +kernel
theorem dX2_withAllBelow_9 : decode cX2_withAllBelow 9 = .ok (.ireturn, 1) := by decide +kernel
set_option maxRecDepth 20000 in
theorem ggX2_road_X2_allBelow : GoodIn wsX2_road wsX2_allBelow := goodIn_r _ [6, 7, 8, 9, 5, 10, 11, 12, 13, 14, 15, 16, 17, 18, 19, 20, 21, 22, 23, 24, 25, 26, 27, 28, 29, 30, 33, 34, 35] (by decide +kernel) (by decide +kernel)
set_option maxRecDepth 20000 in
theorem gX2_road_X2_allBelow : GoodIn wsX2_road (wsV RX2 34 RX2 yX2_allBelow wsX2_allBelow) := goodIn_app (goodIn_of _ (by decide +kernel)) ggX2_road_X2_allBelow
set_option maxRecDepth 20000 in
theorem ggX2_road_X7_bit : GoodIn wsX2_road wsX7_bit := goodIn_r _ [32] (by decide +kernel) (by decide +kernel)
set_option maxRecDepth 20000 in
theorem gX2_road_X7_bit_n37 : GoodIn wsX2_road (wsX7_bit) := ggX2_road_X7_bit
set_option maxRecDepth 20000 in
theorem ggX2_road_X2_spread : GoodIn wsX2_road wsX2_spread := goodIn_r _ [24, 25, 26, 5, 27, 28, 29, 30] (by decide +kernel) (by decide +kernel)
set_option maxRecDepth 20000 in
theorem gX2_road_X2_spread : GoodIn wsX2_road (wsV RX2 51 RX2 yX2_spread wsX2_spread) := goodIn_app (goodIn_of _ (by decide +kernel)) ggX2_road_X2_spread
theorem dX2_road_0 : decode cX2_road 0 = .ok (.aload_n 0, 1) := by decide +kernel
theorem dX2_road_1 : decode cX2_road 1 = .ok (.iload_n 1, 1) := by decide +kernel
theorem dX2_road_2 : decode cX2_road 2 = .ok (.invokevirtual 34, 3) := by decide +kernel
theorem dX2_road_5 : decode cX2_road 5 = .ok (.aload_n 0, 1) := by decide +kernel
theorem dX2_road_6 : decode cX2_road 6 = .ok (.iload_n 2, 1) := by decide +kernel
theorem dX2_road_7 : decode cX2_road 7 = .ok (.invokestatic 37, 3) := by decide +kernel
theorem dX2_road_10 : decode cX2_road 10 = .ok (.aload_n 0, 1) := by decide +kernel
theorem dX2_road_11 : decode cX2_road 11 = .ok (.getfield 9, 3) := by decide +kernel
theorem dX2_road_14 : decode cX2_road 14 = .ok (.invokevirtual 51, 3) := by decide +kernel
theorem dX2_road_17 : decode cX2_road 17 = .ok (.iand, 1) := by decide +kernel
theorem dX2_road_18 : decode cX2_road 18 = .ok (.ireturn, 1) := by decide +kernel
set_option maxRecDepth 20000 in
theorem ggX2_nextAfter_X7_inHeap : GoodIn wsX2_nextAfter wsX7_inHeap := goodIn_r _ [5] (by decide +kernel) (by decide +kernel)
set_option maxRecDepth 20000 in
theorem gX2_nextAfter_X7_inHeap_n26 : GoodIn wsX2_nextAfter (wsX7_inHeap) := ggX2_nextAfter_X7_inHeap
theorem dX2_nextAfter_0 : decode cX2_nextAfter 0 = .ok (.iconst 0, 1) := by decide +kernel
theorem dX2_nextAfter_1 : decode cX2_nextAfter 1 = .ok (.istore_n 2, 1) := by decide +kernel
theorem dX2_nextAfter_2 : decode cX2_nextAfter 2 = .ok (.iload_n 2, 1) := by decide +kernel
theorem dX2_nextAfter_3 : decode cX2_nextAfter 3 = .ok (.aload_n 0, 1) := by decide +kernel
theorem dX2_nextAfter_4 : decode cX2_nextAfter 4 = .ok (.getfield 18, 3) := by decide +kernel
theorem dX2_nextAfter_7 : decode cX2_nextAfter 7 = .ok (.if_icmp .ge 32, 3) := by decide +kernel
theorem dX2_nextAfter_10 : decode cX2_nextAfter 10 = .ok (.iload_n 1, 1) := by decide +kernel
theorem dX2_nextAfter_11 : decode cX2_nextAfter 11 = .ok (.iload_n 2, 1) := by decide +kernel
theorem dX2_nextAfter_12 : decode cX2_nextAfter 12 = .ok (.invokestatic 26, 3) := by decide +kernel
theorem dX2_nextAfter_15 : decode cX2_nextAfter 15 = .ok (.ifCond .ne 18, 3) := by decide +kernel
theorem dX2_nextAfter_18 : decode cX2_nextAfter 18 = .ok (.aload_n 0, 1) := by decide +kernel
theorem dX2_nextAfter_19 : decode cX2_nextAfter 19 = .ok (.getfield 9, 3) := by decide +kernel
theorem dX2_nextAfter_22 : decode cX2_nextAfter 22 = .ok (.iload_n 2, 1) := by decide +kernel
theorem dX2_nextAfter_23 : decode cX2_nextAfter 23 = .ok (.iaload, 1) := by decide +kernel
theorem dX2_nextAfter_24 : decode cX2_nextAfter 24 = .ok (.iload_n 1, 1) := by decide +kernel
theorem dX2_nextAfter_25 : decode cX2_nextAfter 25 = .ok (.iconst (-1), 1) := by decide +kernel
theorem dX2_nextAfter_26 : decode cX2_nextAfter 26 = .ok (.ixor, 1) := by decide +kernel
theorem dX2_nextAfter_27 : decode cX2_nextAfter 27 = .ok (.iand, 1) := by decide +kernel
theorem dX2_nextAfter_28 : decode cX2_nextAfter 28 = .ok (.ifCond .ne 5, 3) := by decide +kernel
theorem dX2_nextAfter_31 : decode cX2_nextAfter 31 = .ok (.iload_n 2, 1) := by decide +kernel
theorem dX2_nextAfter_32 : decode cX2_nextAfter 32 = .ok (.ireturn, 1) := by decide +kernel
theorem dX2_nextAfter_33 : decode cX2_nextAfter 33 = .ok (.iinc 2 1, 3) := by decide +kernel
theorem dX2_nextAfter_36 : decode cX2_nextAfter 36 = .ok (.goto (-34), 3) := by decide +kernel
theorem dX2_nextAfter_39 : decode cX2_nextAfter 39 = .ok (.iconst (-1), 1) := by decide +kernel
theorem dX2_nextAfter_40 : decode cX2_nextAfter 40 = .ok (.ireturn, 1) := by decide +kernel
set_option maxRecDepth 20000 in
theorem ggX2_barred_X2_spread : GoodIn wsX2_barred wsX2_spread := goodIn_r _ [7, 8, 9, 6, 10, 11, 12, 13] (by decide +kernel) (by decide +kernel)
set_option maxRecDepth 20000 in
theorem gX2_barred_X2_spread : GoodIn wsX2_barred (wsV RX2 51 RX2 yX2_spread wsX2_spread) := goodIn_app (goodIn_of _ (by decide +kernel)) ggX2_barred_X2_spread
set_option maxRecDepth 20000 in
theorem ggX2_barred_X2_gather : GoodIn wsX2_barred wsX2_gather := goodIn_r _ [10, 11, 12, 13] (by decide +kernel) (by decide +kernel)
set_option maxRecDepth 20000 in
theorem gX2_barred_X2_gather : GoodIn wsX2_barred (va_wsS RX2 55 yX2_gather wsX2_gather) := goodIn_app (goodIn_of _ (by decide +kernel)) ggX2_barred_X2_gather
theorem dX2_barred_0 : decode cX2_barred 0 = .ok (.aload_n 0, 1) := by decide +kernel
theorem dX2_barred_1 : decode cX2_barred 1 = .ok (.iload_n 3, 1) := by decide +kernel
theorem dX2_barred_2 : decode cX2_barred 2 = .ok (.aload_n 0, 1) := by decide +kernel
theorem dX2_barred_3 : decode cX2_barred 3 = .ok (.getfield 9, 3) := by decide +kernel
theorem dX2_barred_6 : decode cX2_barred 6 = .ok (.invokevirtual 51, 3) := by decide +kernel
theorem dX2_barred_9 : decode cX2_barred 9 = .ok (.istore 4, 2) := by decide +kernel
theorem dX2_barred_11 : decode cX2_barred 11 = .ok (.iload_n 1, 1) := by decide +kernel
theorem dX2_barred_12 : decode cX2_barred 12 = .ok (.istore 5, 2) := by decide +kernel
theorem dX2_barred_14 : decode cX2_barred 14 = .ok (.iconst 0, 1) := by decide +kernel
theorem dX2_barred_15 : decode cX2_barred 15 = .ok (.istore 6, 2) := by decide +kernel
theorem dX2_barred_17 : decode cX2_barred 17 = .ok (.iconst 0, 1) := by decide +kernel
theorem dX2_barred_18 : decode cX2_barred 18 = .ok (.istore 7, 2) := by decide +kernel
theorem dX2_barred_20 : decode cX2_barred 20 = .ok (.iload 7, 2) := by decide +kernel
theorem dX2_barred_22 : decode cX2_barred 22 = .ok (.bipush 16, 2) := by decide +kernel
theorem dX2_barred_24 : decode cX2_barred 24 = .ok (.if_icmp .ge 87, 3) := by decide +kernel
theorem dX2_barred_27 : decode cX2_barred 27 = .ok (.iload 5, 2) := by decide +kernel
theorem dX2_barred_29 : decode cX2_barred 29 = .ok (.iload_n 3, 1) := by decide +kernel
theorem dX2_barred_30 : decode cX2_barred 30 = .ok (.iconst (-1), 1) := by decide +kernel
theorem dX2_barred_31 : decode cX2_barred 31 = .ok (.ixor, 1) := by decide +kernel
theorem dX2_barred_32 : decode cX2_barred 32 = .ok (.iand, 1) := by decide +kernel
theorem dX2_barred_33 : decode cX2_barred 33 = .ok (.iload 6, 2) := by decide +kernel
theorem dX2_barred_35 : decode cX2_barred 35 = .ok (.iload 4, 2) := by decide +kernel
theorem dX2_barred_37 : decode cX2_barred 37 = .ok (.iand, 1) := by decide +kernel
theorem dX2_barred_38 : decode cX2_barred 38 = .ok (.ior, 1) := by decide +kernel
theorem dX2_barred_39 : decode cX2_barred 39 = .ok (.istore 8, 2) := by decide +kernel
theorem dX2_barred_41 : decode cX2_barred 41 = .ok (.iload 5, 2) := by decide +kernel
theorem dX2_barred_43 : decode cX2_barred 43 = .ok (.iload 6, 2) := by decide +kernel
theorem dX2_barred_45 : decode cX2_barred 45 = .ok (.ior, 1) := by decide +kernel
theorem dX2_barred_46 : decode cX2_barred 46 = .ok (.iload_n 3, 1) := by decide +kernel
theorem dX2_barred_47 : decode cX2_barred 47 = .ok (.iconst (-1), 1) := by decide +kernel
theorem dX2_barred_48 : decode cX2_barred 48 = .ok (.ixor, 1) := by decide +kernel
theorem dX2_barred_49 : decode cX2_barred 49 = .ok (.iand, 1) := by decide +kernel
theorem dX2_barred_50 : decode cX2_barred 50 = .ok (.istore 9, 2) := by decide +kernel
theorem dX2_barred_52 : decode cX2_barred 52 = .ok (.iload 5, 2) := by decide +kernel
theorem dX2_barred_54 : decode cX2_barred 54 = .ok (.iload 8, 2) := by decide +kernel
theorem dX2_barred_56 : decode cX2_barred 56 = .ok (.aload_n 0, 1) := by decide +kernel
theorem dX2_barred_57 : decode cX2_barred 57 = .ok (.getfield 9, 3) := by decide +kernel
theorem dX2_barred_60 : decode cX2_barred 60 = .ok (.invokestatic 55, 3) := by decide +kernel
theorem dX2_barred_63 : decode cX2_barred 63 = .ok (.ior, 1) := by decide +kernel
theorem dX2_barred_64 : decode cX2_barred 64 = .ok (.istore 10, 2) := by decide +kernel
theorem dX2_barred_66 : decode cX2_barred 66 = .ok (.iload 6, 2) := by decide +kernel
theorem dX2_barred_68 : decode cX2_barred 68 = .ok (.iload 9, 2) := by decide +kernel
theorem dX2_barred_70 : decode cX2_barred 70 = .ok (.aload_n 0, 1) := by decide +kernel
theorem dX2_barred_71 : decode cX2_barred 71 = .ok (.getfield 15, 3) := by decide +kernel
theorem dX2_barred_74 : decode cX2_barred 74 = .ok (.invokestatic 55, 3) := by decide +kernel
theorem dX2_barred_77 : decode cX2_barred 77 = .ok (.ior, 1) := by decide +kernel
theorem dX2_barred_78 : decode cX2_barred 78 = .ok (.istore 11, 2) := by decide +kernel
theorem dX2_barred_80 : decode cX2_barred 80 = .ok (.iload 10, 2) := by decide +kernel
theorem dX2_barred_82 : decode cX2_barred 82 = .ok (.iload 5, 2) := by decide +kernel
theorem dX2_barred_84 : decode cX2_barred 84 = .ok (.if_icmp .ne 13, 3) := by decide +kernel
theorem dX2_barred_87 : decode cX2_barred 87 = .ok (.iload 11, 2) := by decide +kernel
theorem dX2_barred_89 : decode cX2_barred 89 = .ok (.iload 6, 2) := by decide +kernel
theorem dX2_barred_91 : decode cX2_barred 91 = .ok (.if_icmp .ne 6, 3) := by decide +kernel
theorem dX2_barred_94 : decode cX2_barred 94 = .ok (.goto 17, 3) := by decide +kernel
theorem dX2_barred_97 : decode cX2_barred 97 = .ok (.iload 10, 2) := by decide +kernel
theorem dX2_barred_99 : decode cX2_barred 99 = .ok (.istore 5, 2) := by decide +kernel
theorem dX2_barred_101 : decode cX2_barred 101 = .ok (.iload 11, 2) := by decide +kernel
theorem dX2_barred_103 : decode cX2_barred 103 = .ok (.istore 6, 2) := by decide +kernel
theorem dX2_barred_105 : decode cX2_barred 105 = .ok (.iinc 7 1, 3) := by decide +kernel
theorem dX2_barred_108 : decode cX2_barred 108 = .ok (.goto (-88), 3) := by decide +kernel
theorem dX2_barred_111 : decode cX2_barred 111 = .ok (.iload 5, 2) := by decide +kernel
theorem dX2_barred_113 : decode cX2_barred 113 = .ok (.iload 6, 2) := by decide +kernel
theorem dX2_barred_115 : decode cX2_barred 115 = .ok (.ior, 1) := by decide +kernel
theorem dX2_barred_116 : decode cX2_barred 116 = .ok (.iload_n 2, 1) := by decide +kernel
theorem dX2_barred_117 : decode cX2_barred 117 = .ok (.iand, 1) := by decide +kernel
theorem dX2_barred_118 : decode cX2_barred 118 = .ok (.ifCond .ne 7, 3) := by decide +kernel
theorem dX2_barred_121 : decode cX2_barred 121 = .ok (.iconst 1, 1) := by decide +kernel
theorem dX2_barred_122 : decode cX2_barred 122 = .ok (.goto 4, 3) := by decide +kernel
theorem dX2_barred_125 : decode cX2_barred 125 = .ok (.iconst 0, 1) := by decide +kernel
theorem dX2_barred_126 : decode cX2_barred 126 = .ok (.ireturn, 1) := by decide +kernel
set_option maxRecDepth 20000 in
theorem ggX2_apart_X7_inHeap : GoodIn wsX2_apart wsX7_inHeap := goodIn_r _ [4] (by decide +kernel) (by decide +kernel)
set_option maxRecDepth 20000 in
theorem gX2_apart_X7_inHeap_n26 : GoodIn wsX2_apart (wsX7_inHeap) := ggX2_apart_X7_inHeap
set_option maxRecDepth 20000 in
theorem ggX2_apart_X2_joinedTo : GoodIn wsX2_apart wsX2_joinedTo := goodIn_r _ [9, 10, 11, 12, 13, 14, 8, 15, 1, 16, 17, 18] (by decide +kernel) (by decide +kernel)
set_option maxRecDepth 20000 in
theorem gX2_apart_X2_joinedTo : GoodIn wsX2_apart (wsV RX2 30 RX2 yX2_joinedTo wsX2_joinedTo) := goodIn_app (goodIn_of _ (by decide +kernel)) ggX2_apart_X2_joinedTo
theorem dX2_apart_0 : decode cX2_apart 0 = .ok (.iconst 0, 1) := by decide +kernel
theorem dX2_apart_1 : decode cX2_apart 1 = .ok (.istore_n 2, 1) := by decide +kernel
theorem dX2_apart_2 : decode cX2_apart 2 = .ok (.iload_n 2, 1) := by decide +kernel
theorem dX2_apart_3 : decode cX2_apart 3 = .ok (.aload_n 0, 1) := by decide +kernel
theorem dX2_apart_4 : decode cX2_apart 4 = .ok (.getfield 18, 3) := by decide +kernel
theorem dX2_apart_7 : decode cX2_apart 7 = .ok (.if_icmp .ge 29, 3) := by decide +kernel
theorem dX2_apart_10 : decode cX2_apart 10 = .ok (.iload_n 1, 1) := by decide +kernel
theorem dX2_apart_11 : decode cX2_apart 11 = .ok (.iload_n 2, 1) := by decide +kernel
theorem dX2_apart_12 : decode cX2_apart 12 = .ok (.invokestatic 26, 3) := by decide +kernel
theorem dX2_apart_15 : decode cX2_apart 15 = .ok (.ifCond .eq 15, 3) := by decide +kernel
theorem dX2_apart_18 : decode cX2_apart 18 = .ok (.aload_n 0, 1) := by decide +kernel
theorem dX2_apart_19 : decode cX2_apart 19 = .ok (.iload_n 2, 1) := by decide +kernel
theorem dX2_apart_20 : decode cX2_apart 20 = .ok (.invokevirtual 30, 3) := by decide +kernel
theorem dX2_apart_23 : decode cX2_apart 23 = .ok (.iload_n 1, 1) := by decide +kernel
theorem dX2_apart_24 : decode cX2_apart 24 = .ok (.iand, 1) := by decide +kernel
theorem dX2_apart_25 : decode cX2_apart 25 = .ok (.ifCond .eq 5, 3) := by decide +kernel
theorem dX2_apart_28 : decode cX2_apart 28 = .ok (.iconst 0, 1) := by decide +kernel
theorem dX2_apart_29 : decode cX2_apart 29 = .ok (.ireturn, 1) := by decide +kernel
theorem dX2_apart_30 : decode cX2_apart 30 = .ok (.iinc 2 1, 3) := by decide +kernel
theorem dX2_apart_33 : decode cX2_apart 33 = .ok (.goto (-31), 3) := by decide +kernel
theorem dX2_apart_36 : decode cX2_apart 36 = .ok (.iconst 1, 1) := by decide +kernel
theorem dX2_apart_37 : decode cX2_apart 37 = .ok (.ireturn, 1) := by decide +kernel
set_option maxRecDepth 20000 in
theorem ggX2_sameThirds_X2_parentsOf : GoodIn wsX2_sameThirds wsX2_parentsOf := goodIn_r _ [6, 7, 8, 9, 10, 5, 11, 1, 26, 27, 28] (by decide +kernel) (by decide +kernel)
set_option maxRecDepth 20000 in
theorem gX2_sameThirds_X2_parentsOf : GoodIn wsX2_sameThirds (wsV RX2 58 RX2 yX2_parentsOf wsX2_parentsOf) := goodIn_app (goodIn_of _ (by decide +kernel)) ggX2_sameThirds_X2_parentsOf
set_option maxRecDepth 20000 in
theorem ggX2_sameThirds_X7_inHeap : GoodIn wsX2_sameThirds wsX7_inHeap := goodIn_r _ [14] (by decide +kernel) (by decide +kernel)
set_option maxRecDepth 20000 in
theorem gX2_sameThirds_X7_inHeap_n26 : GoodIn wsX2_sameThirds (wsX7_inHeap) := ggX2_sameThirds_X7_inHeap
set_option maxRecDepth 20000 in
theorem ggX2_sameThirds_X2_unjoinedWith : GoodIn wsX2_sameThirds wsX2_unjoinedWith := goodIn_r _ [18, 12, 13, 14, 19, 20, 21, 5, 22, 7, 23, 8, 9, 10, 11, 1, 24, 25, 26, 27, 28] (by decide +kernel) (by decide +kernel)
set_option maxRecDepth 20000 in
theorem gX2_sameThirds_X2_unjoinedWith : GoodIn wsX2_sameThirds (wsV RX2 61 RX2 yX2_unjoinedWith wsX2_unjoinedWith) := goodIn_app (goodIn_of _ (by decide +kernel)) ggX2_sameThirds_X2_unjoinedWith
theorem dX2_sameThirds_0 : decode cX2_sameThirds 0 = .ok (.aload_n 0, 1) := by decide +kernel
theorem dX2_sameThirds_1 : decode cX2_sameThirds 1 = .ok (.iload_n 1, 1) := by decide +kernel
theorem dX2_sameThirds_2 : decode cX2_sameThirds 2 = .ok (.invokevirtual 58, 3) := by decide +kernel
theorem dX2_sameThirds_5 : decode cX2_sameThirds 5 = .ok (.istore_n 3, 1) := by decide +kernel
theorem dX2_sameThirds_6 : decode cX2_sameThirds 6 = .ok (.iconst 0, 1) := by decide +kernel
theorem dX2_sameThirds_7 : decode cX2_sameThirds 7 = .ok (.istore 4, 2) := by decide +kernel
theorem dX2_sameThirds_9 : decode cX2_sameThirds 9 = .ok (.iload 4, 2) := by decide +kernel
theorem dX2_sameThirds_11 : decode cX2_sameThirds 11 = .ok (.aload_n 0, 1) := by decide +kernel
theorem dX2_sameThirds_12 : decode cX2_sameThirds 12 = .ok (.getfield 18, 3) := by decide +kernel
theorem dX2_sameThirds_15 : decode cX2_sameThirds 15 = .ok (.if_icmp .ge 39, 3) := by decide +kernel
theorem dX2_sameThirds_18 : decode cX2_sameThirds 18 = .ok (.iload_n 3, 1) := by decide +kernel
theorem dX2_sameThirds_19 : decode cX2_sameThirds 19 = .ok (.iload_n 2, 1) := by decide +kernel
theorem dX2_sameThirds_20 : decode cX2_sameThirds 20 = .ok (.ior, 1) := by decide +kernel
theorem dX2_sameThirds_21 : decode cX2_sameThirds 21 = .ok (.iload 4, 2) := by decide +kernel
theorem dX2_sameThirds_23 : decode cX2_sameThirds 23 = .ok (.invokestatic 26, 3) := by decide +kernel
theorem dX2_sameThirds_26 : decode cX2_sameThirds 26 = .ok (.ifCond .eq 22, 3) := by decide +kernel
theorem dX2_sameThirds_29 : decode cX2_sameThirds 29 = .ok (.aload_n 0, 1) := by decide +kernel
theorem dX2_sameThirds_30 : decode cX2_sameThirds 30 = .ok (.iload 4, 2) := by decide +kernel
theorem dX2_sameThirds_32 : decode cX2_sameThirds 32 = .ok (.iload_n 2, 1) := by decide +kernel
theorem dX2_sameThirds_33 : decode cX2_sameThirds 33 = .ok (.invokevirtual 61, 3) := by decide +kernel
theorem dX2_sameThirds_36 : decode cX2_sameThirds 36 = .ok (.aload_n 0, 1) := by decide +kernel
theorem dX2_sameThirds_37 : decode cX2_sameThirds 37 = .ok (.iload 4, 2) := by decide +kernel
theorem dX2_sameThirds_39 : decode cX2_sameThirds 39 = .ok (.iload_n 3, 1) := by decide +kernel
theorem dX2_sameThirds_40 : decode cX2_sameThirds 40 = .ok (.invokevirtual 61, 3) := by decide +kernel
theorem dX2_sameThirds_43 : decode cX2_sameThirds 43 = .ok (.if_icmp .eq 5, 3) := by decide +kernel
theorem dX2_sameThirds_46 : decode cX2_sameThirds 46 = .ok (.iconst 0, 1) := by decide +kernel
theorem dX2_sameThirds_47 : decode cX2_sameThirds 47 = .ok (.ireturn, 1) := by decide +kernel
theorem dX2_sameThirds_48 : decode cX2_sameThirds 48 = .ok (.iinc 4 1, 3) := by decide +kernel
theorem dX2_sameThirds_51 : decode cX2_sameThirds 51 = .ok (.goto (-42), 3) := by decide +kernel
theorem dX2_sameThirds_54 : decode cX2_sameThirds 54 = .ok (.iconst 1, 1) := by decide +kernel
theorem dX2_sameThirds_55 : decode cX2_sameThirds 55 = .ok (.ireturn, 1) := by decide +kernel
set_option maxRecDepth 20000 in
theorem ggX2_unjoinedWith_X7_inHeap : GoodIn wsX2_unjoinedWith wsX7_inHeap := goodIn_r _ [3] (by decide +kernel) (by decide +kernel)
set_option maxRecDepth 20000 in
theorem gX2_unjoinedWith_X7_inHeap_n26 : GoodIn wsX2_unjoinedWith (wsX7_inHeap) := ggX2_unjoinedWith_X7_inHeap
set_option maxRecDepth 20000 in
theorem ggX2_unjoinedWith_X2_joinedTo : GoodIn wsX2_unjoinedWith wsX2_joinedTo := goodIn_r _ [8, 9, 10, 11, 12, 13, 7, 14, 15, 18, 19, 20] (by decide +kernel) (by decide +kernel)
set_option maxRecDepth 20000 in
theorem gX2_unjoinedWith_X2_joinedTo : GoodIn wsX2_unjoinedWith (wsV RX2 30 RX2 yX2_joinedTo wsX2_joinedTo) := goodIn_app (goodIn_of _ (by decide +kernel)) ggX2_unjoinedWith_X2_joinedTo
set_option maxRecDepth 20000 in
theorem ggX2_unjoinedWith_X7_bit : GoodIn wsX2_unjoinedWith wsX7_bit := goodIn_r _ [17] (by decide +kernel) (by decide +kernel)
set_option maxRecDepth 20000 in
theorem gX2_unjoinedWith_X7_bit_n37 : GoodIn wsX2_unjoinedWith (wsX7_bit) := ggX2_unjoinedWith_X7_bit
theorem dX2_unjoinedWith_0 : decode cX2_unjoinedWith 0 = .ok (.iload_n 2, 1) := by decide +kernel
theorem dX2_unjoinedWith_1 : decode cX2_unjoinedWith 1 = .ok (.iload_n 1, 1) := by decide +kernel
theorem dX2_unjoinedWith_2 : decode cX2_unjoinedWith 2 = .ok (.invokestatic 26, 3) := by decide +kernel
theorem dX2_unjoinedWith_5 : decode cX2_unjoinedWith 5 = .ok (.ifCond .eq 22, 3) := by decide +kernel
theorem dX2_unjoinedWith_8 : decode cX2_unjoinedWith 8 = .ok (.iload_n 2, 1) := by decide +kernel
theorem dX2_unjoinedWith_9 : decode cX2_unjoinedWith 9 = .ok (.aload_n 0, 1) := by decide +kernel
theorem dX2_unjoinedWith_10 : decode cX2_unjoinedWith 10 = .ok (.iload_n 1, 1) := by decide +kernel
theorem dX2_unjoinedWith_11 : decode cX2_unjoinedWith 11 = .ok (.invokevirtual 30, 3) := by decide +kernel
theorem dX2_unjoinedWith_14 : decode cX2_unjoinedWith 14 = .ok (.iconst (-1), 1) := by decide +kernel
theorem dX2_unjoinedWith_15 : decode cX2_unjoinedWith 15 = .ok (.ixor, 1) := by decide +kernel
theorem dX2_unjoinedWith_16 : decode cX2_unjoinedWith 16 = .ok (.iand, 1) := by decide +kernel
theorem dX2_unjoinedWith_17 : decode cX2_unjoinedWith 17 = .ok (.iload_n 1, 1) := by decide +kernel
theorem dX2_unjoinedWith_18 : decode cX2_unjoinedWith 18 = .ok (.invokestatic 37, 3) := by decide +kernel
theorem dX2_unjoinedWith_21 : decode cX2_unjoinedWith 21 = .ok (.iconst (-1), 1) := by decide +kernel
theorem dX2_unjoinedWith_22 : decode cX2_unjoinedWith 22 = .ok (.ixor, 1) := by decide +kernel
theorem dX2_unjoinedWith_23 : decode cX2_unjoinedWith 23 = .ok (.iand, 1) := by decide +kernel
theorem dX2_unjoinedWith_24 : decode cX2_unjoinedWith 24 = .ok (.goto 4, 3) := by decide +kernel
theorem dX2_unjoinedWith_27 : decode cX2_unjoinedWith 27 = .ok (.iconst 0, 1) := by decide +kernel
theorem dX2_unjoinedWith_28 : decode cX2_unjoinedWith 28 = .ok (.ireturn, 1) := by decide +kernel
set_option maxRecDepth 20000 in
theorem ggX2_spread_X2_gather : GoodIn wsX2_spread wsX2_gather := goodIn_r _ [4, 5, 6, 7] (by decide +kernel) (by decide +kernel)
set_option maxRecDepth 20000 in
theorem gX2_spread_X2_gather : GoodIn wsX2_spread (va_wsS RX2 55 yX2_gather wsX2_gather) := goodIn_app (goodIn_of _ (by decide +kernel)) ggX2_spread_X2_gather
theorem dX2_spread_0 : decode cX2_spread 0 = .ok (.iload_n 1, 1) := by decide +kernel
theorem dX2_spread_1 : decode cX2_spread 1 = .ok (.istore_n 3, 1) := by decide +kernel
theorem dX2_spread_2 : decode cX2_spread 2 = .ok (.iconst 0, 1) := by decide +kernel
theorem dX2_spread_3 : decode cX2_spread 3 = .ok (.istore 4, 2) := by decide +kernel
theorem dX2_spread_5 : decode cX2_spread 5 = .ok (.iload 4, 2) := by decide +kernel
theorem dX2_spread_7 : decode cX2_spread 7 = .ok (.bipush 8, 2) := by decide +kernel
theorem dX2_spread_9 : decode cX2_spread 9 = .ok (.if_icmp .ge 30, 3) := by decide +kernel
theorem dX2_spread_12 : decode cX2_spread 12 = .ok (.iload_n 3, 1) := by decide +kernel
theorem dX2_spread_13 : decode cX2_spread 13 = .ok (.iload_n 3, 1) := by decide +kernel
theorem dX2_spread_14 : decode cX2_spread 14 = .ok (.aload_n 2, 1) := by decide +kernel
theorem dX2_spread_15 : decode cX2_spread 15 = .ok (.invokestatic 55, 3) := by decide +kernel
theorem dX2_spread_18 : decode cX2_spread 18 = .ok (.ior, 1) := by decide +kernel
theorem dX2_spread_19 : decode cX2_spread 19 = .ok (.istore 5, 2) := by decide +kernel
theorem dX2_spread_21 : decode cX2_spread 21 = .ok (.iload 5, 2) := by decide +kernel
theorem dX2_spread_23 : decode cX2_spread 23 = .ok (.iload_n 3, 1) := by decide +kernel
theorem dX2_spread_24 : decode cX2_spread 24 = .ok (.if_icmp .ne 6, 3) := by decide +kernel
theorem dX2_spread_27 : decode cX2_spread 27 = .ok (.goto 12, 3) := by decide +kernel
theorem dX2_spread_30 : decode cX2_spread 30 = .ok (.iload 5, 2) := by decide +kernel
theorem dX2_spread_32 : decode cX2_spread 32 = .ok (.istore_n 3, 1) := by decide +kernel
theorem dX2_spread_33 : decode cX2_spread 33 = .ok (.iinc 4 1, 3) := by decide +kernel
theorem dX2_spread_36 : decode cX2_spread 36 = .ok (.goto (-31), 3) := by decide +kernel
theorem dX2_spread_39 : decode cX2_spread 39 = .ok (.iload_n 3, 1) := by decide +kernel
theorem dX2_spread_40 : decode cX2_spread 40 = .ok (.ireturn, 1) := by decide +kernel
set_option maxRecDepth 20000 in
theorem ggX2_gather_X7_inHeap : GoodIn wsX2_gather wsX7_inHeap := goodIn_r _ [3] (by decide +kernel) (by decide +kernel)
set_option maxRecDepth 20000 in
theorem gX2_gather_X7_inHeap_n26 : GoodIn wsX2_gather (wsX7_inHeap) := ggX2_gather_X7_inHeap
theorem dX2_gather_0 : decode cX2_gather 0 = .ok (.iconst 0, 1) := by decide +kernel
theorem dX2_gather_1 : decode cX2_gather 1 = .ok (.istore_n 2, 1) := by decide +kernel
theorem dX2_gather_2 : decode cX2_gather 2 = .ok (.iconst 0, 1) := by decide +kernel
theorem dX2_gather_3 : decode cX2_gather 3 = .ok (.istore_n 3, 1) := by decide +kernel
theorem dX2_gather_4 : decode cX2_gather 4 = .ok (.iload_n 3, 1) := by decide +kernel
theorem dX2_gather_5 : decode cX2_gather 5 = .ok (.aload_n 1, 1) := by decide +kernel
theorem dX2_gather_6 : decode cX2_gather 6 = .ok (.arraylength, 1) := by decide +kernel
theorem dX2_gather_7 : decode cX2_gather 7 = .ok (.if_icmp .ge 23, 3) := by decide +kernel
theorem dX2_gather_10 : decode cX2_gather 10 = .ok (.iload_n 0, 1) := by decide +kernel
theorem dX2_gather_11 : decode cX2_gather 11 = .ok (.iload_n 3, 1) := by decide +kernel
theorem dX2_gather_12 : decode cX2_gather 12 = .ok (.invokestatic 26, 3) := by decide +kernel
theorem dX2_gather_15 : decode cX2_gather 15 = .ok (.ifCond .eq 9, 3) := by decide +kernel
theorem dX2_gather_18 : decode cX2_gather 18 = .ok (.iload_n 2, 1) := by decide +kernel
theorem dX2_gather_19 : decode cX2_gather 19 = .ok (.aload_n 1, 1) := by decide +kernel
theorem dX2_gather_20 : decode cX2_gather 20 = .ok (.iload_n 3, 1) := by decide +kernel
theorem dX2_gather_21 : decode cX2_gather 21 = .ok (.iaload, 1) := by decide +kernel
theorem dX2_gather_22 : decode cX2_gather 22 = .ok (.ior, 1) := by decide +kernel
theorem dX2_gather_23 : decode cX2_gather 23 = .ok (.istore_n 2, 1) := by decide +kernel
theorem dX2_gather_24 : decode cX2_gather 24 = .ok (.iinc 3 1, 3) := by decide +kernel
theorem dX2_gather_27 : decode cX2_gather 27 = .ok (.goto (-23), 3) := by decide +kernel
theorem dX2_gather_30 : decode cX2_gather 30 = .ok (.iload_n 2, 1) := by decide +kernel
theorem dX2_gather_31 : decode cX2_gather 31 = .ok (.ireturn, 1) := by decide +kernel
set_option maxRecDepth 20000 in
theorem ggX3_seek_X7_bit : GoodIn wsX3_seek wsX7_bit := goodIn_r _ [5] (by decide +kernel) (by decide +kernel)
set_option maxRecDepth 20000 in
theorem gX3_seek_X7_bit_n19 : GoodIn wsX3_seek (wsX7_bit) := ggX3_seek_X7_bit
set_option maxRecDepth 20000 in
theorem ggX3_seek_X7_partsOf : GoodIn wsX3_seek wsX7_partsOf := goodIn_r _ [7, 8, 9, 10, 11, 12, 13, 14] (by decide +kernel) (by decide +kernel)
set_option maxRecDepth 20000 in
theorem gX3_seek_X7_partsOf_n23 : GoodIn wsX3_seek (wsX7_partsOf) := ggX3_seek_X7_partsOf
set_option maxRecDepth 20000 in
theorem ggX3_seek_X3_holdsOne : GoodIn wsX3_seek wsX3_holdsOne := goodIn_r _ [19, 1, 2, 38, 39] (by decide +kernel) (by decide +kernel)
set_option maxRecDepth 20000 in
theorem gX3_seek_X3_holdsOne : GoodIn wsX3_seek (wsV RX3 26 RX3 yX3_holdsOne wsX3_holdsOne) := goodIn_app (goodIn_of _ (by decide +kernel)) ggX3_seek_X3_holdsOne
set_option maxRecDepth 20000 in
theorem ggX3_seek_X2_barred : GoodIn wsX3_seek wsX2_barred := goodIn_r _ [24, 25, 26, 27, 28, 29, 23, 30, 31, 32, 33, 34, 4, 35, 40, 41, 42] (by decide +kernel) (by decide +kernel)
set_option maxRecDepth 20000 in
theorem gX3_seek_X2_barred : GoodIn wsX3_seek (wsV RX3 30 RX2 yX2_barred wsX2_barred) := goodIn_app (goodIn_of _ (by decide +kernel)) ggX3_seek_X2_barred
set_option maxRecDepth 20000 in
theorem ggX3_seek_X7_nextPart : GoodIn wsX3_seek wsX7_nextPart := goodIn_r _ [37] (by decide +kernel) (by decide +kernel)
set_option maxRecDepth 20000 in
theorem gX3_seek_X7_nextPart_n36 : GoodIn wsX3_seek (wsX7_nextPart) := ggX3_seek_X7_nextPart
theorem dX3_seek_0 : decode cX3_seek 0 = .ok (.iload 4, 2) := by decide +kernel
theorem dX3_seek_2 : decode cX3_seek 2 = .ok (.iload_n 2, 1) := by decide +kernel
theorem dX3_seek_3 : decode cX3_seek 3 = .ok (.invokestatic 19, 3) := by decide +kernel
theorem dX3_seek_6 : decode cX3_seek 6 = .ok (.iconst (-1), 1) := by decide +kernel
theorem dX3_seek_7 : decode cX3_seek 7 = .ok (.ixor, 1) := by decide +kernel
theorem dX3_seek_8 : decode cX3_seek 8 = .ok (.iand, 1) := by decide +kernel
theorem dX3_seek_9 : decode cX3_seek 9 = .ok (.iload_n 3, 1) := by decide +kernel
theorem dX3_seek_10 : decode cX3_seek 10 = .ok (.invokestatic 19, 3) := by decide +kernel
theorem dX3_seek_13 : decode cX3_seek 13 = .ok (.iconst (-1), 1) := by decide +kernel
theorem dX3_seek_14 : decode cX3_seek 14 = .ok (.ixor, 1) := by decide +kernel
theorem dX3_seek_15 : decode cX3_seek 15 = .ok (.iand, 1) := by decide +kernel
theorem dX3_seek_16 : decode cX3_seek 16 = .ok (.istore 5, 2) := by decide +kernel
theorem dX3_seek_18 : decode cX3_seek 18 = .ok (.iload 5, 2) := by decide +kernel
theorem dX3_seek_20 : decode cX3_seek 20 = .ok (.invokestatic 23, 3) := by decide +kernel
theorem dX3_seek_23 : decode cX3_seek 23 = .ok (.istore 6, 2) := by decide +kernel
theorem dX3_seek_25 : decode cX3_seek 25 = .ok (.aload_n 0, 1) := by decide +kernel
theorem dX3_seek_26 : decode cX3_seek 26 = .ok (.iconst 0, 1) := by decide +kernel
theorem dX3_seek_27 : decode cX3_seek 27 = .ok (.putfield 15, 3) := by decide +kernel
theorem dX3_seek_30 : decode cX3_seek 30 = .ok (.iconst 0, 1) := by decide +kernel
theorem dX3_seek_31 : decode cX3_seek 31 = .ok (.istore 7, 2) := by decide +kernel
theorem dX3_seek_33 : decode cX3_seek 33 = .ok (.iconst 0, 1) := by decide +kernel
theorem dX3_seek_34 : decode cX3_seek 34 = .ok (.istore 8, 2) := by decide +kernel
theorem dX3_seek_36 : decode cX3_seek 36 = .ok (.iload 7, 2) := by decide +kernel
theorem dX3_seek_38 : decode cX3_seek 38 = .ok (.iload 6, 2) := by decide +kernel
theorem dX3_seek_40 : decode cX3_seek 40 = .ok (.if_icmp .ge 77, 3) := by decide +kernel
theorem dX3_seek_43 : decode cX3_seek 43 = .ok (.aload_n 0, 1) := by decide +kernel
theorem dX3_seek_44 : decode cX3_seek 44 = .ok (.iload 8, 2) := by decide +kernel
theorem dX3_seek_46 : decode cX3_seek 46 = .ok (.invokevirtual 26, 3) := by decide +kernel
theorem dX3_seek_49 : decode cX3_seek 49 = .ok (.ifCond .ne 53, 3) := by decide +kernel
theorem dX3_seek_52 : decode cX3_seek 52 = .ok (.aload_n 0, 1) := by decide +kernel
theorem dX3_seek_53 : decode cX3_seek 53 = .ok (.getfield 15, 3) := by decide +kernel
theorem dX3_seek_56 : decode cX3_seek 56 = .ok (.aload_n 0, 1) := by decide +kernel
theorem dX3_seek_57 : decode cX3_seek 57 = .ok (.getfield 9, 3) := by decide +kernel
theorem dX3_seek_60 : decode cX3_seek 60 = .ok (.arraylength, 1) := by decide +kernel
theorem dX3_seek_61 : decode cX3_seek 61 = .ok (.if_icmp .ge 41, 3) := by decide +kernel
theorem dX3_seek_64 : decode cX3_seek 64 = .ok (.aload_n 1, 1) := by decide +kernel
theorem dX3_seek_65 : decode cX3_seek 65 = .ok (.iload_n 2, 1) := by decide +kernel
theorem dX3_seek_66 : decode cX3_seek 66 = .ok (.invokestatic 19, 3) := by decide +kernel
theorem dX3_seek_69 : decode cX3_seek 69 = .ok (.iload_n 3, 1) := by decide +kernel
theorem dX3_seek_70 : decode cX3_seek 70 = .ok (.invokestatic 19, 3) := by decide +kernel
theorem dX3_seek_73 : decode cX3_seek 73 = .ok (.iload 8, 2) := by decide +kernel
theorem dX3_seek_75 : decode cX3_seek 75 = .ok (.invokevirtual 30, 3) := by decide +kernel
theorem dX3_seek_78 : decode cX3_seek 78 = .ok (.ifCond .eq 24, 3) := by decide +kernel
theorem dX3_seek_81 : decode cX3_seek 81 = .ok (.aload_n 0, 1) := by decide +kernel
theorem dX3_seek_82 : decode cX3_seek 82 = .ok (.getfield 9, 3) := by decide +kernel
theorem dX3_seek_85 : decode cX3_seek 85 = .ok (.aload_n 0, 1) := by decide +kernel
theorem dX3_seek_86 : decode cX3_seek 86 = .ok (.getfield 15, 3) := by decide +kernel
theorem dX3_seek_89 : decode cX3_seek 89 = .ok (.iload 8, 2) := by decide +kernel
theorem dX3_seek_91 : decode cX3_seek 91 = .ok (.iastore, 1) := by decide +kernel
theorem dX3_seek_92 : decode cX3_seek 92 = .ok (.aload_n 0, 1) := by decide +kernel
theorem dX3_seek_93 : decode cX3_seek 93 = .ok (.dup, 1) := by decide +kernel
theorem dX3_seek_94 : decode cX3_seek 94 = .ok (.getfield 15, 3) := by decide +kernel
theorem dX3_seek_97 : decode cX3_seek 97 = .ok (.iconst 1, 1) := by decide +kernel
theorem dX3_seek_98 : decode cX3_seek 98 = .ok (.iadd, 1) := by decide +kernel
theorem dX3_seek_99 : decode cX3_seek 99 = .ok (.putfield 15, 3) := by decide +kernel
theorem dX3_seek_102 : decode cX3_seek 102 = .ok (.iinc 7 1, 3) := by decide +kernel
theorem dX3_seek_105 : decode cX3_seek 105 = .ok (.iload 8, 2) := by decide +kernel
theorem dX3_seek_107 : decode cX3_seek 107 = .ok (.iload 5, 2) := by decide +kernel
theorem dX3_seek_109 : decode cX3_seek 109 = .ok (.invokestatic 36, 3) := by decide +kernel
theorem dX3_seek_112 : decode cX3_seek 112 = .ok (.istore 8, 2) := by decide +kernel
theorem dX3_seek_114 : decode cX3_seek 114 = .ok (.goto (-78), 3) := by decide +kernel
theorem dX3_seek_117 : decode cX3_seek 117 = .ok (.return_, 1) := by decide +kernel
theorem dX3_size_0 : decode cX3_size 0 = .ok (.aload_n 0, 1) := by decide +kernel
theorem dX3_size_1 : decode cX3_size 1 = .ok (.getfield 15, 3) := by decide +kernel
theorem dX3_size_4 : decode cX3_size 4 = .ok (.ireturn, 1) := by decide +kernel
theorem dX3_at_0 : decode cX3_at 0 = .ok (.iload_n 1, 1) := by decide +kernel
theorem dX3_at_1 : decode cX3_at 1 = .ok (.ifCond .lt 29, 3) := by decide +kernel
theorem dX3_at_4 : decode cX3_at 4 = .ok (.iload_n 1, 1) := by decide +kernel
theorem dX3_at_5 : decode cX3_at 5 = .ok (.aload_n 0, 1) := by decide +kernel
theorem dX3_at_6 : decode cX3_at 6 = .ok (.getfield 15, 3) := by decide +kernel
theorem dX3_at_9 : decode cX3_at 9 = .ok (.if_icmp .ge 21, 3) := by decide +kernel
theorem dX3_at_12 : decode cX3_at 12 = .ok (.iload_n 1, 1) := by decide +kernel
theorem dX3_at_13 : decode cX3_at 13 = .ok (.aload_n 0, 1) := by decide +kernel
theorem dX3_at_14 : decode cX3_at 14 = .ok (.getfield 9, 3) := by decide +kernel
theorem dX3_at_17 : decode cX3_at 17 = .ok (.arraylength, 1) := by decide +kernel
theorem dX3_at_18 : decode cX3_at 18 = .ok (.if_icmp .ge 12, 3) := by decide +kernel
theorem dX3_at_21 : decode cX3_at 21 = .ok (.aload_n 0, 1) := by decide +kernel
theorem dX3_at_22 : decode cX3_at 22 = .ok (.getfield 9, 3) := by decide +kernel
theorem dX3_at_25 : decode cX3_at 25 = .ok (.iload_n 1, 1) := by decide +kernel
theorem dX3_at_26 : decode cX3_at 26 = .ok (.iaload, 1) := by decide +kernel
theorem dX3_at_27 : decode cX3_at 27 = .ok (.goto 4, 3) := by decide +kernel
theorem dX3_at_30 : decode cX3_at 30 = .ok (.iconst (-1), 1) := by decide +kernel
theorem dX3_at_31 : decode cX3_at 31 = .ok (.ireturn, 1) := by decide +kernel
theorem dX3_holdsOne_0 : decode cX3_holdsOne 0 = .ok (.iconst 0, 1) := by decide +kernel
theorem dX3_holdsOne_1 : decode cX3_holdsOne 1 = .ok (.istore_n 2, 1) := by decide +kernel
theorem dX3_holdsOne_2 : decode cX3_holdsOne 2 = .ok (.iload_n 2, 1) := by decide +kernel
theorem dX3_holdsOne_3 : decode cX3_holdsOne 3 = .ok (.aload_n 0, 1) := by decide +kernel
theorem dX3_holdsOne_4 : decode cX3_holdsOne 4 = .ok (.getfield 15, 3) := by decide +kernel
theorem dX3_holdsOne_7 : decode cX3_holdsOne 7 = .ok (.if_icmp .ge 33, 3) := by decide +kernel
theorem dX3_holdsOne_10 : decode cX3_holdsOne 10 = .ok (.iload_n 2, 1) := by decide +kernel
theorem dX3_holdsOne_11 : decode cX3_holdsOne 11 = .ok (.aload_n 0, 1) := by decide +kernel
theorem dX3_holdsOne_12 : decode cX3_holdsOne 12 = .ok (.getfield 9, 3) := by decide +kernel
theorem dX3_holdsOne_15 : decode cX3_holdsOne 15 = .ok (.arraylength, 1) := by decide +kernel
theorem dX3_holdsOne_16 : decode cX3_holdsOne 16 = .ok (.if_icmp .ge 24, 3) := by decide +kernel
theorem dX3_holdsOne_19 : decode cX3_holdsOne 19 = .ok (.aload_n 0, 1) := by decide +kernel
theorem dX3_holdsOne_20 : decode cX3_holdsOne 20 = .ok (.getfield 9, 3) := by decide +kernel
theorem dX3_holdsOne_23 : decode cX3_holdsOne 23 = .ok (.iload_n 2, 1) := by decide +kernel
theorem dX3_holdsOne_24 : decode cX3_holdsOne 24 = .ok (.iaload, 1) := by decide +kernel
theorem dX3_holdsOne_25 : decode cX3_holdsOne 25 = .ok (.iload_n 1, 1) := by decide +kernel
theorem dX3_holdsOne_26 : decode cX3_holdsOne 26 = .ok (.iconst (-1), 1) := by decide +kernel
theorem dX3_holdsOne_27 : decode cX3_holdsOne 27 = .ok (.ixor, 1) := by decide +kernel
theorem dX3_holdsOne_28 : decode cX3_holdsOne 28 = .ok (.iand, 1) := by decide +kernel
theorem dX3_holdsOne_29 : decode cX3_holdsOne 29 = .ok (.ifCond .ne 5, 3) := by decide +kernel
theorem dX3_holdsOne_32 : decode cX3_holdsOne 32 = .ok (.iconst 1, 1) := by decide +kernel
theorem dX3_holdsOne_33 : decode cX3_holdsOne 33 = .ok (.ireturn, 1) := by decide +kernel
theorem dX3_holdsOne_34 : decode cX3_holdsOne 34 = .ok (.iinc 2 1, 3) := by decide +kernel
theorem dX3_holdsOne_37 : decode cX3_holdsOne 37 = .ok (.goto (-35), 3) := by decide +kernel
theorem dX3_holdsOne_40 : decode cX3_holdsOne 40 = .ok (.iconst 0, 1) := by decide +kernel
theorem dX3_holdsOne_41 : decode cX3_holdsOne 41 = .ok (.ireturn, 1) := by decide +kernel
set_option maxRecDepth 20000 in
theorem ggX4_reckon_X2_everything : GoodIn wsX4_reckon wsX2_everything := goodIn_r _ [6, 7, 65, 66, 67] (by decide +kernel) (by decide +kernel)
set_option maxRecDepth 20000 in
theorem gX4_reckon_X2_everything : GoodIn wsX4_reckon (wsV RX4 15 RX2 yX2_everything wsX2_everything) := goodIn_app (goodIn_of _ (by decide +kernel)) ggX4_reckon_X2_everything
set_option maxRecDepth 20000 in
theorem ggX4_reckon_X4_canBeLast : GoodIn wsX4_reckon wsX4_canBeLast := goodIn_r _ [11, 12, 13, 14, 5, 15, 7, 16, 17, 18, 19, 20, 21, 22, 23, 24, 25, 26, 27, 28, 29, 30, 31, 32, 33, 34, 35, 36, 37, 38, 39, 40, 41, 42, 43, 65, 66, 67] (by decide +kernel) (by decide +kernel)
set_option maxRecDepth 20000 in
theorem gX4_reckon_X4_canBeLast : GoodIn wsX4_reckon (va_wsS RX4 21 yX4_canBeLast wsX4_canBeLast) := goodIn_app (goodIn_of _ (by decide +kernel)) ggX4_reckon_X4_canBeLast
set_option maxRecDepth 20000 in
theorem ggX4_reckon_X7_inHeap : GoodIn wsX4_reckon wsX7_inHeap := goodIn_r _ [18] (by decide +kernel) (by decide +kernel)
set_option maxRecDepth 20000 in
theorem gX4_reckon_X7_inHeap_n25 : GoodIn wsX4_reckon (wsX7_inHeap) := ggX4_reckon_X7_inHeap
set_option maxRecDepth 20000 in
theorem ggX4_reckon_X7_bit : GoodIn wsX4_reckon wsX7_bit := goodIn_r _ [43] (by decide +kernel) (by decide +kernel)
set_option maxRecDepth 20000 in
theorem gX4_reckon_X7_bit_n29 : GoodIn wsX4_reckon (wsX7_bit) := ggX4_reckon_X7_bit
set_option maxRecDepth 20000 in
theorem ggX4_reckon_X4_waysEndingIn : GoodIn wsX4_reckon wsX4_waysEndingIn := goodIn_r _ [47, 1, 48, 17, 49, 50, 51, 52, 53, 54, 55, 56, 57, 58, 59, 60, 61, 5, 62, 7, 16, 18, 41, 20, 21, 22, 23, 24, 25, 26, 27, 28, 63, 64, 65, 66, 67] (by decide +kernel) (by decide +kernel)
set_option maxRecDepth 20000 in
theorem gX4_reckon_X4_waysEndingIn : GoodIn wsX4_reckon (wsV RX4 33 RX4 yX4_waysEndingIn wsX4_waysEndingIn) := goodIn_app (goodIn_of _ (by decide +kernel)) ggX4_reckon_X4_waysEndingIn
theorem dX4_reckon_0 : decode cX4_reckon 0 = .ok (.aload_n 1, 1) := by decide +kernel
theorem dX4_reckon_1 : decode cX4_reckon 1 = .ok (.invokevirtual 15, 3) := by decide +kernel
theorem dX4_reckon_4 : decode cX4_reckon 4 = .ok (.sipush 255, 3) := by decide +kernel
theorem dX4_reckon_7 : decode cX4_reckon 7 = .ok (.iand, 1) := by decide +kernel
theorem dX4_reckon_8 : decode cX4_reckon 8 = .ok (.istore 4, 2) := by decide +kernel
theorem dX4_reckon_10 : decode cX4_reckon 10 = .ok (.aload_n 0, 1) := by decide +kernel
theorem dX4_reckon_11 : decode cX4_reckon 11 = .ok (.getfield 9, 3) := by decide +kernel
theorem dX4_reckon_14 : decode cX4_reckon 14 = .ok (.iconst 0, 1) := by decide +kernel
theorem dX4_reckon_15 : decode cX4_reckon 15 = .ok (.iconst 1, 1) := by decide +kernel
theorem dX4_reckon_16 : decode cX4_reckon 16 = .ok (.iastore, 1) := by decide +kernel
theorem dX4_reckon_17 : decode cX4_reckon 17 = .ok (.iconst 1, 1) := by decide +kernel
theorem dX4_reckon_18 : decode cX4_reckon 18 = .ok (.istore 5, 2) := by decide +kernel
theorem dX4_reckon_20 : decode cX4_reckon 20 = .ok (.iload 5, 2) := by decide +kernel
theorem dX4_reckon_22 : decode cX4_reckon 22 = .ok (.iload 4, 2) := by decide +kernel
theorem dX4_reckon_24 : decode cX4_reckon 24 = .ok (.if_icmp .gt 58, 3) := by decide +kernel
theorem dX4_reckon_27 : decode cX4_reckon 27 = .ok (.aload_n 1, 1) := by decide +kernel
theorem dX4_reckon_28 : decode cX4_reckon 28 = .ok (.iload 5, 2) := by decide +kernel
theorem dX4_reckon_30 : decode cX4_reckon 30 = .ok (.invokestatic 21, 3) := by decide +kernel
theorem dX4_reckon_33 : decode cX4_reckon 33 = .ok (.istore 6, 2) := by decide +kernel
theorem dX4_reckon_35 : decode cX4_reckon 35 = .ok (.iload_n 3, 1) := by decide +kernel
theorem dX4_reckon_36 : decode cX4_reckon 36 = .ok (.iconst (-1), 1) := by decide +kernel
theorem dX4_reckon_37 : decode cX4_reckon 37 = .ok (.if_icmp .eq 23, 3) := by decide +kernel
theorem dX4_reckon_40 : decode cX4_reckon 40 = .ok (.iload 5, 2) := by decide +kernel
theorem dX4_reckon_42 : decode cX4_reckon 42 = .ok (.iload_n 2, 1) := by decide +kernel
theorem dX4_reckon_43 : decode cX4_reckon 43 = .ok (.invokestatic 25, 3) := by decide +kernel
theorem dX4_reckon_46 : decode cX4_reckon 46 = .ok (.ifCond .ne 14, 3) := by decide +kernel
theorem dX4_reckon_49 : decode cX4_reckon 49 = .ok (.iload 6, 2) := by decide +kernel
theorem dX4_reckon_51 : decode cX4_reckon 51 = .ok (.iload_n 3, 1) := by decide +kernel
theorem dX4_reckon_52 : decode cX4_reckon 52 = .ok (.invokestatic 29, 3) := by decide +kernel
theorem dX4_reckon_55 : decode cX4_reckon 55 = .ok (.iconst (-1), 1) := by decide +kernel
theorem dX4_reckon_56 : decode cX4_reckon 56 = .ok (.ixor, 1) := by decide +kernel
theorem dX4_reckon_57 : decode cX4_reckon 57 = .ok (.iand, 1) := by decide +kernel
theorem dX4_reckon_58 : decode cX4_reckon 58 = .ok (.istore 6, 2) := by decide +kernel
theorem dX4_reckon_60 : decode cX4_reckon 60 = .ok (.aload_n 0, 1) := by decide +kernel
theorem dX4_reckon_61 : decode cX4_reckon 61 = .ok (.getfield 9, 3) := by decide +kernel
theorem dX4_reckon_64 : decode cX4_reckon 64 = .ok (.iload 5, 2) := by decide +kernel
theorem dX4_reckon_66 : decode cX4_reckon 66 = .ok (.aload_n 0, 1) := by decide +kernel
theorem dX4_reckon_67 : decode cX4_reckon 67 = .ok (.aload_n 1, 1) := by decide +kernel
theorem dX4_reckon_68 : decode cX4_reckon 68 = .ok (.iload 5, 2) := by decide +kernel
theorem dX4_reckon_70 : decode cX4_reckon 70 = .ok (.iload 6, 2) := by decide +kernel
theorem dX4_reckon_72 : decode cX4_reckon 72 = .ok (.invokevirtual 33, 3) := by decide +kernel
theorem dX4_reckon_75 : decode cX4_reckon 75 = .ok (.iastore, 1) := by decide +kernel
theorem dX4_reckon_76 : decode cX4_reckon 76 = .ok (.iinc 5 1, 3) := by decide +kernel
theorem dX4_reckon_79 : decode cX4_reckon 79 = .ok (.goto (-59), 3) := by decide +kernel
theorem dX4_reckon_82 : decode cX4_reckon 82 = .ok (.aload_n 0, 1) := by decide +kernel
theorem dX4_reckon_83 : decode cX4_reckon 83 = .ok (.getfield 9, 3) := by decide +kernel
theorem dX4_reckon_86 : decode cX4_reckon 86 = .ok (.iload 4, 2) := by decide +kernel
theorem dX4_reckon_88 : decode cX4_reckon 88 = .ok (.iaload, 1) := by decide +kernel
theorem dX4_reckon_89 : decode cX4_reckon 89 = .ok (.ireturn, 1) := by decide +kernel
set_option maxRecDepth 20000 in
theorem ggX4_waysEndingIn_X7_partsOf : GoodIn wsX4_waysEndingIn wsX7_partsOf := goodIn_r _ [4, 5, 6, 7, 8, 9, 10, 11] (by decide +kernel) (by decide +kernel)
set_option maxRecDepth 20000 in
theorem gX4_waysEndingIn_X7_partsOf_n37 : GoodIn wsX4_waysEndingIn (wsX7_partsOf) := ggX4_waysEndingIn_X7_partsOf
set_option maxRecDepth 20000 in
theorem ggX4_waysEndingIn_X7_nextPart : GoodIn wsX4_waysEndingIn wsX7_nextPart := goodIn_r _ [13] (by decide +kernel) (by decide +kernel)
set_option maxRecDepth 20000 in
theorem gX4_waysEndingIn_X7_nextPart_n40 : GoodIn wsX4_waysEndingIn (wsX7_nextPart) := ggX4_waysEndingIn_X7_nextPart
set_option maxRecDepth 20000 in
theorem ggX4_waysEndingIn_X2_apart : GoodIn wsX4_waysEndingIn wsX2_apart := goodIn_r _ [18, 19, 20, 3, 21, 22, 23, 24, 17, 25, 26, 27, 28, 29, 30, 31, 34, 35, 36] (by decide +kernel) (by decide +kernel)
set_option maxRecDepth 20000 in
theorem gX4_waysEndingIn_X2_apart : GoodIn wsX4_waysEndingIn (wsV RX4 44 RX2 yX2_apart wsX2_apart) := goodIn_app (goodIn_of _ (by decide +kernel)) ggX4_waysEndingIn_X2_apart
set_option maxRecDepth 20000 in
theorem ggX4_waysEndingIn_J6_bitCount_0f7a4 : GoodIn wsX4_waysEndingIn wsJ6_bitCount_0f7a4 := goodIn_r _ [8, 9, 10, 11] (by decide +kernel) (by decide +kernel)
set_option maxRecDepth 20000 in
theorem gX4_waysEndingIn_J6_bitCount_0f7a4 : GoodIn wsX4_waysEndingIn (va_wsS RX4 48 yJ6_bitCount_0f7a4 wsJ6_bitCount_0f7a4) := goodIn_app (goodIn_of _ (by decide +kernel)) ggX4_waysEndingIn_J6_bitCount_0f7a4
theorem dX4_waysEndingIn_0 : decode cX4_waysEndingIn 0 = .ok (.iconst 0, 1) := by decide +kernel
theorem dX4_waysEndingIn_1 : decode cX4_waysEndingIn 1 = .ok (.istore 4, 2) := by decide +kernel
theorem dX4_waysEndingIn_3 : decode cX4_waysEndingIn 3 = .ok (.iload_n 3, 1) := by decide +kernel
theorem dX4_waysEndingIn_4 : decode cX4_waysEndingIn 4 = .ok (.invokestatic 37, 3) := by decide +kernel
theorem dX4_waysEndingIn_7 : decode cX4_waysEndingIn 7 = .ok (.istore 5, 2) := by decide +kernel
theorem dX4_waysEndingIn_9 : decode cX4_waysEndingIn 9 = .ok (.iconst 1, 1) := by decide +kernel
theorem dX4_waysEndingIn_10 : decode cX4_waysEndingIn 10 = .ok (.istore 6, 2) := by decide +kernel
theorem dX4_waysEndingIn_12 : decode cX4_waysEndingIn 12 = .ok (.iconst 0, 1) := by decide +kernel
theorem dX4_waysEndingIn_13 : decode cX4_waysEndingIn 13 = .ok (.iload_n 3, 1) := by decide +kernel
theorem dX4_waysEndingIn_14 : decode cX4_waysEndingIn 14 = .ok (.invokestatic 40, 3) := by decide +kernel
theorem dX4_waysEndingIn_17 : decode cX4_waysEndingIn 17 = .ok (.istore 7, 2) := by decide +kernel
theorem dX4_waysEndingIn_19 : decode cX4_waysEndingIn 19 = .ok (.iload 6, 2) := by decide +kernel
theorem dX4_waysEndingIn_21 : decode cX4_waysEndingIn 21 = .ok (.iload 5, 2) := by decide +kernel
theorem dX4_waysEndingIn_23 : decode cX4_waysEndingIn 23 = .ok (.if_icmp .ge 67, 3) := by decide +kernel
theorem dX4_waysEndingIn_26 : decode cX4_waysEndingIn 26 = .ok (.aload_n 1, 1) := by decide +kernel
theorem dX4_waysEndingIn_27 : decode cX4_waysEndingIn 27 = .ok (.iload 7, 2) := by decide +kernel
theorem dX4_waysEndingIn_29 : decode cX4_waysEndingIn 29 = .ok (.invokevirtual 44, 3) := by decide +kernel
theorem dX4_waysEndingIn_32 : decode cX4_waysEndingIn 32 = .ok (.ifCond .eq 44, 3) := by decide +kernel
theorem dX4_waysEndingIn_35 : decode cX4_waysEndingIn 35 = .ok (.aload_n 0, 1) := by decide +kernel
theorem dX4_waysEndingIn_36 : decode cX4_waysEndingIn 36 = .ok (.getfield 9, 3) := by decide +kernel
theorem dX4_waysEndingIn_39 : decode cX4_waysEndingIn 39 = .ok (.iload_n 2, 1) := by decide +kernel
theorem dX4_waysEndingIn_40 : decode cX4_waysEndingIn 40 = .ok (.iload 7, 2) := by decide +kernel
theorem dX4_waysEndingIn_42 : decode cX4_waysEndingIn 42 = .ok (.iconst (-1), 1) := by decide +kernel
theorem dX4_waysEndingIn_43 : decode cX4_waysEndingIn 43 = .ok (.ixor, 1) := by decide +kernel
theorem dX4_waysEndingIn_44 : decode cX4_waysEndingIn 44 = .ok (.iand, 1) := by decide +kernel
theorem dX4_waysEndingIn_45 : decode cX4_waysEndingIn 45 = .ok (.sipush 255, 3) := by decide +kernel
theorem dX4_waysEndingIn_48 : decode cX4_waysEndingIn 48 = .ok (.iand, 1) := by decide +kernel
theorem dX4_waysEndingIn_49 : decode cX4_waysEndingIn 49 = .ok (.iaload, 1) := by decide +kernel
theorem dX4_waysEndingIn_50 : decode cX4_waysEndingIn 50 = .ok (.istore 8, 2) := by decide +kernel
theorem dX4_waysEndingIn_52 : decode cX4_waysEndingIn 52 = .ok (.iload 4, 2) := by decide +kernel
theorem dX4_waysEndingIn_54 : decode cX4_waysEndingIn 54 = .ok (.iload 7, 2) := by decide +kernel
theorem dX4_waysEndingIn_56 : decode cX4_waysEndingIn 56 = .ok (.invokestatic 48, 3) := by decide +kernel
theorem dX4_waysEndingIn_59 : decode cX4_waysEndingIn 59 = .ok (.iconst 1, 1) := by decide +kernel
theorem dX4_waysEndingIn_60 : decode cX4_waysEndingIn 60 = .ok (.iand, 1) := by decide +kernel
theorem dX4_waysEndingIn_61 : decode cX4_waysEndingIn 61 = .ok (.iconst 1, 1) := by decide +kernel
theorem dX4_waysEndingIn_62 : decode cX4_waysEndingIn 62 = .ok (.if_icmp .ne 8, 3) := by decide +kernel
theorem dX4_waysEndingIn_65 : decode cX4_waysEndingIn 65 = .ok (.iload 8, 2) := by decide +kernel
theorem dX4_waysEndingIn_67 : decode cX4_waysEndingIn 67 = .ok (.goto 6, 3) := by decide +kernel
theorem dX4_waysEndingIn_70 : decode cX4_waysEndingIn 70 = .ok (.iload 8, 2) := by decide +kernel
theorem dX4_waysEndingIn_72 : decode cX4_waysEndingIn 72 = .ok (.ineg, 1) := by decide +kernel
theorem dX4_waysEndingIn_73 : decode cX4_waysEndingIn 73 = .ok (.iadd, 1) := by decide +kernel
theorem dX4_waysEndingIn_74 : decode cX4_waysEndingIn 74 = .ok (.istore 4, 2) := by decide +kernel
theorem dX4_waysEndingIn_76 : decode cX4_waysEndingIn 76 = .ok (.iinc 6 1, 3) := by decide +kernel
theorem dX4_waysEndingIn_79 : decode cX4_waysEndingIn 79 = .ok (.iload 7, 2) := by decide +kernel
theorem dX4_waysEndingIn_81 : decode cX4_waysEndingIn 81 = .ok (.iload_n 3, 1) := by decide +kernel
theorem dX4_waysEndingIn_82 : decode cX4_waysEndingIn 82 = .ok (.invokestatic 40, 3) := by decide +kernel
theorem dX4_waysEndingIn_85 : decode cX4_waysEndingIn 85 = .ok (.istore 7, 2) := by decide +kernel
theorem dX4_waysEndingIn_87 : decode cX4_waysEndingIn 87 = .ok (.goto (-68), 3) := by decide +kernel
theorem dX4_waysEndingIn_90 : decode cX4_waysEndingIn 90 = .ok (.iload 4, 2) := by decide +kernel
theorem dX4_waysEndingIn_92 : decode cX4_waysEndingIn 92 = .ok (.ireturn, 1) := by decide +kernel
set_option maxRecDepth 20000 in
theorem ggX4_canBeLast_X2_size : GoodIn wsX4_canBeLast wsX2_size := goodIn_r _ [5, 6, 35, 36, 37] (by decide +kernel) (by decide +kernel)
set_option maxRecDepth 20000 in
theorem gX4_canBeLast_X2_size : GoodIn wsX4_canBeLast (wsV RX4 53 RX2 yX2_size wsX2_size) := goodIn_app (goodIn_of _ (by decide +kernel)) ggX4_canBeLast_X2_size
set_option maxRecDepth 20000 in
theorem ggX4_canBeLast_X7_inHeap : GoodIn wsX4_canBeLast wsX7_inHeap := goodIn_r _ [9] (by decide +kernel) (by decide +kernel)
set_option maxRecDepth 20000 in
theorem gX4_canBeLast_X7_inHeap_n25 : GoodIn wsX4_canBeLast (wsX7_inHeap) := ggX4_canBeLast_X7_inHeap
set_option maxRecDepth 20000 in
theorem ggX4_canBeLast_X2_joinedTo : GoodIn wsX4_canBeLast wsX2_joinedTo := goodIn_r _ [13, 14, 15, 16, 17, 18, 4, 19, 6, 35, 36, 37] (by decide +kernel) (by decide +kernel)
set_option maxRecDepth 20000 in
theorem gX4_canBeLast_X2_joinedTo : GoodIn wsX4_canBeLast (wsV RX4 56 RX2 yX2_joinedTo wsX2_joinedTo) := goodIn_app (goodIn_of _ (by decide +kernel)) ggX4_canBeLast_X2_joinedTo
set_option maxRecDepth 20000 in
theorem ggX4_canBeLast_X2_sameThirds : GoodIn wsX4_canBeLast wsX2_sameThirds := goodIn_r _ [23, 6, 24, 25, 26, 4, 27, 14, 16, 17, 18, 19, 7, 8, 9, 28, 29, 30, 31, 32, 11, 12, 13, 15, 33, 34, 35, 36, 37] (by decide +kernel) (by decide +kernel)
set_option maxRecDepth 20000 in
theorem gX4_canBeLast_X2_sameThirds : GoodIn wsX4_canBeLast (wsV RX4 59 RX2 yX2_sameThirds wsX2_sameThirds) := goodIn_app (goodIn_of _ (by decide +kernel)) ggX4_canBeLast_X2_sameThirds
set_option maxRecDepth 20000 in
theorem ggX4_canBeLast_X7_bit : GoodIn wsX4_canBeLast wsX7_bit := goodIn_r _ [34] (by decide +kernel) (by decide +kernel)
set_option maxRecDepth 20000 in
theorem gX4_canBeLast_X7_bit_n29 : GoodIn wsX4_canBeLast (wsX7_bit) := ggX4_canBeLast_X7_bit
theorem dX4_canBeLast_0 : decode cX4_canBeLast 0 = .ok (.iconst 0, 1) := by decide +kernel
theorem dX4_canBeLast_1 : decode cX4_canBeLast 1 = .ok (.istore_n 2, 1) := by decide +kernel
theorem dX4_canBeLast_2 : decode cX4_canBeLast 2 = .ok (.iconst 0, 1) := by decide +kernel
theorem dX4_canBeLast_3 : decode cX4_canBeLast 3 = .ok (.istore_n 3, 1) := by decide +kernel
theorem dX4_canBeLast_4 : decode cX4_canBeLast 4 = .ok (.iload_n 3, 1) := by decide +kernel
theorem dX4_canBeLast_5 : decode cX4_canBeLast 5 = .ok (.aload_n 0, 1) := by decide +kernel
theorem dX4_canBeLast_6 : decode cX4_canBeLast 6 = .ok (.invokevirtual 53, 3) := by decide +kernel
theorem dX4_canBeLast_9 : decode cX4_canBeLast 9 = .ok (.if_icmp .ge 39, 3) := by decide +kernel
theorem dX4_canBeLast_12 : decode cX4_canBeLast 12 = .ok (.iload_n 1, 1) := by decide +kernel
theorem dX4_canBeLast_13 : decode cX4_canBeLast 13 = .ok (.iload_n 3, 1) := by decide +kernel
theorem dX4_canBeLast_14 : decode cX4_canBeLast 14 = .ok (.invokestatic 25, 3) := by decide +kernel
theorem dX4_canBeLast_17 : decode cX4_canBeLast 17 = .ok (.ifCond .eq 25, 3) := by decide +kernel
theorem dX4_canBeLast_20 : decode cX4_canBeLast 20 = .ok (.aload_n 0, 1) := by decide +kernel
theorem dX4_canBeLast_21 : decode cX4_canBeLast 21 = .ok (.iload_n 3, 1) := by decide +kernel
theorem dX4_canBeLast_22 : decode cX4_canBeLast 22 = .ok (.aload_n 0, 1) := by decide +kernel
theorem dX4_canBeLast_23 : decode cX4_canBeLast 23 = .ok (.iload_n 3, 1) := by decide +kernel
theorem dX4_canBeLast_24 : decode cX4_canBeLast 24 = .ok (.invokevirtual 56, 3) := by decide +kernel
theorem dX4_canBeLast_27 : decode cX4_canBeLast 27 = .ok (.iload_n 1, 1) := by decide +kernel
theorem dX4_canBeLast_28 : decode cX4_canBeLast 28 = .ok (.iand, 1) := by decide +kernel
theorem dX4_canBeLast_29 : decode cX4_canBeLast 29 = .ok (.invokevirtual 59, 3) := by decide +kernel
theorem dX4_canBeLast_32 : decode cX4_canBeLast 32 = .ok (.ifCond .eq 10, 3) := by decide +kernel
theorem dX4_canBeLast_35 : decode cX4_canBeLast 35 = .ok (.iload_n 2, 1) := by decide +kernel
theorem dX4_canBeLast_36 : decode cX4_canBeLast 36 = .ok (.iload_n 3, 1) := by decide +kernel
theorem dX4_canBeLast_37 : decode cX4_canBeLast 37 = .ok (.invokestatic 29, 3) := by decide +kernel
theorem dX4_canBeLast_40 : decode cX4_canBeLast 40 = .ok (.ior, 1) := by decide +kernel
theorem dX4_canBeLast_41 : decode cX4_canBeLast 41 = .ok (.istore_n 2, 1) := by decide +kernel
theorem dX4_canBeLast_42 : decode cX4_canBeLast 42 = .ok (.iinc 3 1, 3) := by decide +kernel
theorem dX4_canBeLast_45 : decode cX4_canBeLast 45 = .ok (.goto (-41), 3) := by decide +kernel
theorem dX4_canBeLast_48 : decode cX4_canBeLast 48 = .ok (.iload_n 2, 1) := by decide +kernel
theorem dX4_canBeLast_49 : decode cX4_canBeLast 49 = .ok (.ireturn, 1) := by decide +kernel
set_option maxRecDepth 20000 in
theorem ggX6_weigh_X2_everything : GoodIn wsX6_weigh wsX2_everything := goodIn_r _ [7, 8, 69, 70, 71] (by decide +kernel) (by decide +kernel)
set_option maxRecDepth 20000 in
theorem gX6_weigh_X2_everything : GoodIn wsX6_weigh (wsV RX6 19 RX2 yX2_everything wsX2_everything) := goodIn_app (goodIn_of _ (by decide +kernel)) ggX6_weigh_X2_everything
set_option maxRecDepth 20000 in
theorem ggX6_weigh_X2_size : GoodIn wsX6_weigh wsX2_size := goodIn_r _ [12, 8, 69, 70, 71] (by decide +kernel) (by decide +kernel)
set_option maxRecDepth 20000 in
theorem gX6_weigh_X2_size : GoodIn wsX6_weigh (wsV RX6 24 RX2 yX2_size wsX2_size) := goodIn_app (goodIn_of _ (by decide +kernel)) ggX6_weigh_X2_size
set_option maxRecDepth 20000 in
theorem ggX6_weigh_X2_nextAfter : GoodIn wsX6_weigh wsX2_nextAfter := goodIn_r _ [16, 8, 17, 18, 19, 20, 69, 70, 71] (by decide +kernel) (by decide +kernel)
set_option maxRecDepth 20000 in
theorem gX6_weigh_X2_nextAfter : GoodIn wsX6_weigh (wsV RX6 27 RX2 yX2_nextAfter wsX2_nextAfter) := goodIn_app (goodIn_of _ (by decide +kernel)) ggX6_weigh_X2_nextAfter
set_option maxRecDepth 20000 in
theorem ggX6_weigh_X7_partsOf : GoodIn wsX6_weigh wsX7_partsOf := goodIn_r _ [22, 23, 24, 25, 26, 27, 28, 29] (by decide +kernel) (by decide +kernel)
set_option maxRecDepth 20000 in
theorem gX6_weigh_X7_partsOf_n31 : GoodIn wsX6_weigh (wsX7_partsOf) := ggX6_weigh_X7_partsOf
set_option maxRecDepth 20000 in
theorem ggX6_weigh_X7_bit : GoodIn wsX6_weigh wsX7_bit := goodIn_r _ [31] (by decide +kernel) (by decide +kernel)
set_option maxRecDepth 20000 in
theorem gX6_weigh_X7_bit_n34 : GoodIn wsX6_weigh (wsX7_bit) := ggX6_weigh_X7_bit
set_option maxRecDepth 20000 in
theorem ggX6_weigh_X1_partsUnder : GoodIn wsX6_weigh wsX1_partsUnder := goodIn_r _ [36, 37, 19, 38, 18, 20, 39, 40, 41, 42, 43, 6, 44, 17, 45, 46, 47, 48, 8, 49, 50, 35, 51, 52, 53, 54, 55, 56, 57, 58, 59, 69, 70, 71, 72] (by decide +kernel) (by decide +kernel)
set_option maxRecDepth 20000 in
theorem gX6_weigh_X1_partsUnder : GoodIn wsX6_weigh (wsV RX6 37 RX1 yX1_partsUnder wsX1_partsUnder) := goodIn_app (goodIn_of _ (by decide +kernel)) ggX6_weigh_X1_partsUnder
set_option maxRecDepth 20000 in
theorem ggX6_weigh_X6_split : GoodIn wsX6_weigh wsX6_split := goodIn_r _ [64, 2, 67, 68] (by decide +kernel) (by decide +kernel)
set_option maxRecDepth 20000 in
theorem gX6_weigh_X6_split : GoodIn wsX6_weigh (wsV RX6 43 RX6 yX6_split wsX6_split) := goodIn_app (goodIn_of _ (by decide +kernel)) ggX6_weigh_X6_split
set_option maxRecDepth 20000 in
theorem ggX6_weigh_X7_nextPart : GoodIn wsX6_weigh wsX7_nextPart := goodIn_r _ [66] (by decide +kernel) (by decide +kernel)
set_option maxRecDepth 20000 in
theorem gX6_weigh_X7_nextPart_n47 : GoodIn wsX6_weigh (wsX7_nextPart) := ggX6_weigh_X7_nextPart
theorem dX6_weigh_0 : decode cX6_weigh 0 = .ok (.aload_n 0, 1) := by decide +kernel
theorem dX6_weigh_1 : decode cX6_weigh 1 = .ok (.aload_n 1, 1) := by decide +kernel
theorem dX6_weigh_2 : decode cX6_weigh 2 = .ok (.invokevirtual 19, 3) := by decide +kernel
theorem dX6_weigh_5 : decode cX6_weigh 5 = .ok (.putfield 15, 3) := by decide +kernel
theorem dX6_weigh_8 : decode cX6_weigh 8 = .ok (.aload_n 0, 1) := by decide +kernel
theorem dX6_weigh_9 : decode cX6_weigh 9 = .ok (.getfield 9, 3) := by decide +kernel
theorem dX6_weigh_12 : decode cX6_weigh 12 = .ok (.iconst 0, 1) := by decide +kernel
theorem dX6_weigh_13 : decode cX6_weigh 13 = .ok (.lconst 1, 1) := by decide +kernel
theorem dX6_weigh_14 : decode cX6_weigh 14 = .ok (.lastore, 1) := by decide +kernel
theorem dX6_weigh_15 : decode cX6_weigh 15 = .ok (.iconst 0, 1) := by decide +kernel
theorem dX6_weigh_16 : decode cX6_weigh 16 = .ok (.istore 4, 2) := by decide +kernel
theorem dX6_weigh_18 : decode cX6_weigh 18 = .ok (.iconst 0, 1) := by decide +kernel
theorem dX6_weigh_19 : decode cX6_weigh 19 = .ok (.istore 5, 2) := by decide +kernel
theorem dX6_weigh_21 : decode cX6_weigh 21 = .ok (.iload 5, 2) := by decide +kernel
theorem dX6_weigh_23 : decode cX6_weigh 23 = .ok (.aload_n 1, 1) := by decide +kernel
theorem dX6_weigh_24 : decode cX6_weigh 24 = .ok (.invokevirtual 24, 3) := by decide +kernel
theorem dX6_weigh_27 : decode cX6_weigh 27 = .ok (.if_icmp .ge 92, 3) := by decide +kernel
theorem dX6_weigh_30 : decode cX6_weigh 30 = .ok (.aload_n 1, 1) := by decide +kernel
theorem dX6_weigh_31 : decode cX6_weigh 31 = .ok (.iload 4, 2) := by decide +kernel
theorem dX6_weigh_33 : decode cX6_weigh 33 = .ok (.invokevirtual 27, 3) := by decide +kernel
theorem dX6_weigh_36 : decode cX6_weigh 36 = .ok (.istore 6, 2) := by decide +kernel
theorem dX6_weigh_38 : decode cX6_weigh 38 = .ok (.iload 6, 2) := by decide +kernel
theorem dX6_weigh_40 : decode cX6_weigh 40 = .ok (.iconst (-1), 1) := by decide +kernel
theorem dX6_weigh_41 : decode cX6_weigh 41 = .ok (.if_icmp .ne 6, 3) := by decide +kernel
theorem dX6_weigh_44 : decode cX6_weigh 44 = .ok (.goto 75, 3) := by decide +kernel
theorem dX6_weigh_47 : decode cX6_weigh 47 = .ok (.iload 4, 2) := by decide +kernel
theorem dX6_weigh_49 : decode cX6_weigh 49 = .ok (.invokestatic 31, 3) := by decide +kernel
theorem dX6_weigh_52 : decode cX6_weigh 52 = .ok (.istore 7, 2) := by decide +kernel
theorem dX6_weigh_54 : decode cX6_weigh 54 = .ok (.iconst 0, 1) := by decide +kernel
theorem dX6_weigh_55 : decode cX6_weigh 55 = .ok (.istore 8, 2) := by decide +kernel
theorem dX6_weigh_57 : decode cX6_weigh 57 = .ok (.iconst 0, 1) := by decide +kernel
theorem dX6_weigh_58 : decode cX6_weigh 58 = .ok (.istore 9, 2) := by decide +kernel
theorem dX6_weigh_60 : decode cX6_weigh 60 = .ok (.iload 8, 2) := by decide +kernel
theorem dX6_weigh_62 : decode cX6_weigh 62 = .ok (.iload 7, 2) := by decide +kernel
theorem dX6_weigh_64 : decode cX6_weigh 64 = .ok (.if_icmp .ge 39, 3) := by decide +kernel
theorem dX6_weigh_67 : decode cX6_weigh 67 = .ok (.aload_n 0, 1) := by decide +kernel
theorem dX6_weigh_68 : decode cX6_weigh 68 = .ok (.iload 9, 2) := by decide +kernel
theorem dX6_weigh_70 : decode cX6_weigh 70 = .ok (.iload 6, 2) := by decide +kernel
theorem dX6_weigh_72 : decode cX6_weigh 72 = .ok (.invokestatic 34, 3) := by decide +kernel
theorem dX6_weigh_75 : decode cX6_weigh 75 = .ok (.aload_n 2, 1) := by decide +kernel
theorem dX6_weigh_76 : decode cX6_weigh 76 = .ok (.aload_n 1, 1) := by decide +kernel
theorem dX6_weigh_77 : decode cX6_weigh 77 = .ok (.iload 6, 2) := by decide +kernel
theorem dX6_weigh_79 : decode cX6_weigh 79 = .ok (.iload 9, 2) := by decide +kernel
theorem dX6_weigh_81 : decode cX6_weigh 81 = .ok (.iload_n 3, 1) := by decide +kernel
theorem dX6_weigh_82 : decode cX6_weigh 82 = .ok (.invokevirtual 37, 3) := by decide +kernel
theorem dX6_weigh_85 : decode cX6_weigh 85 = .ok (.invokevirtual 43, 3) := by decide +kernel
theorem dX6_weigh_88 : decode cX6_weigh 88 = .ok (.iinc 8 1, 3) := by decide +kernel
theorem dX6_weigh_91 : decode cX6_weigh 91 = .ok (.iload 9, 2) := by decide +kernel
theorem dX6_weigh_93 : decode cX6_weigh 93 = .ok (.iload 4, 2) := by decide +kernel
theorem dX6_weigh_95 : decode cX6_weigh 95 = .ok (.invokestatic 47, 3) := by decide +kernel
theorem dX6_weigh_98 : decode cX6_weigh 98 = .ok (.istore 9, 2) := by decide +kernel
theorem dX6_weigh_100 : decode cX6_weigh 100 = .ok (.goto (-40), 3) := by decide +kernel
theorem dX6_weigh_103 : decode cX6_weigh 103 = .ok (.iload 4, 2) := by decide +kernel
theorem dX6_weigh_105 : decode cX6_weigh 105 = .ok (.iload 6, 2) := by decide +kernel
theorem dX6_weigh_107 : decode cX6_weigh 107 = .ok (.invokestatic 34, 3) := by decide +kernel
theorem dX6_weigh_110 : decode cX6_weigh 110 = .ok (.ior, 1) := by decide +kernel
theorem dX6_weigh_111 : decode cX6_weigh 111 = .ok (.istore 4, 2) := by decide +kernel
theorem dX6_weigh_113 : decode cX6_weigh 113 = .ok (.iinc 5 1, 3) := by decide +kernel
theorem dX6_weigh_116 : decode cX6_weigh 116 = .ok (.goto (-95), 3) := by decide +kernel
theorem dX6_weigh_119 : decode cX6_weigh 119 = .ok (.return_, 1) := by decide +kernel
set_option maxRecDepth 20000 in
theorem ggX6_having_X7_partsOf : GoodIn wsX6_having wsX7_partsOf := goodIn_r _ [5, 6, 7, 8, 9, 10, 11, 12] (by decide +kernel) (by decide +kernel)
set_option maxRecDepth 20000 in
theorem gX6_having_X7_partsOf_n31 : GoodIn wsX6_having (wsX7_partsOf) := ggX6_having_X7_partsOf
set_option maxRecDepth 20000 in
theorem ggX6_having_X7_nextPart : GoodIn wsX6_having wsX7_nextPart := goodIn_r _ [14] (by decide +kernel) (by decide +kernel)
set_option maxRecDepth 20000 in
theorem gX6_having_X7_nextPart_n47 : GoodIn wsX6_having (wsX7_nextPart) := ggX6_having_X7_nextPart
theorem dX6_having_0 : decode cX6_having 0 = .ok (.aload_n 0, 1) := by decide +kernel
theorem dX6_having_1 : decode cX6_having 1 = .ok (.getfield 15, 3) := by decide +kernel
theorem dX6_having_4 : decode cX6_having 4 = .ok (.iload_n 1, 1) := by decide +kernel
theorem dX6_having_5 : decode cX6_having 5 = .ok (.iconst (-1), 1) := by decide +kernel
theorem dX6_having_6 : decode cX6_having 6 = .ok (.ixor, 1) := by decide +kernel
theorem dX6_having_7 : decode cX6_having 7 = .ok (.iand, 1) := by decide +kernel
theorem dX6_having_8 : decode cX6_having 8 = .ok (.istore_n 3, 1) := by decide +kernel
theorem dX6_having_9 : decode cX6_having 9 = .ok (.iload_n 3, 1) := by decide +kernel
theorem dX6_having_10 : decode cX6_having 10 = .ok (.invokestatic 31, 3) := by decide +kernel
theorem dX6_having_13 : decode cX6_having 13 = .ok (.istore 4, 2) := by decide +kernel
theorem dX6_having_15 : decode cX6_having 15 = .ok (.lconst 0, 1) := by decide +kernel
theorem dX6_having_16 : decode cX6_having 16 = .ok (.lstore 5, 2) := by decide +kernel
theorem dX6_having_18 : decode cX6_having 18 = .ok (.iconst 0, 1) := by decide +kernel
theorem dX6_having_19 : decode cX6_having 19 = .ok (.istore 7, 2) := by decide +kernel
theorem dX6_having_21 : decode cX6_having 21 = .ok (.iconst 0, 1) := by decide +kernel
theorem dX6_having_22 : decode cX6_having 22 = .ok (.istore 8, 2) := by decide +kernel
theorem dX6_having_24 : decode cX6_having 24 = .ok (.iload 7, 2) := by decide +kernel
theorem dX6_having_26 : decode cX6_having 26 = .ok (.iload 4, 2) := by decide +kernel
theorem dX6_having_28 : decode cX6_having 28 = .ok (.if_icmp .ge 35, 3) := by decide +kernel
theorem dX6_having_31 : decode cX6_having 31 = .ok (.lload 5, 2) := by decide +kernel
theorem dX6_having_33 : decode cX6_having 33 = .ok (.aload_n 0, 1) := by decide +kernel
theorem dX6_having_34 : decode cX6_having 34 = .ok (.getfield 9, 3) := by decide +kernel
theorem dX6_having_37 : decode cX6_having 37 = .ok (.iload_n 2, 1) := by decide +kernel
theorem dX6_having_38 : decode cX6_having 38 = .ok (.iload 8, 2) := by decide +kernel
theorem dX6_having_40 : decode cX6_having 40 = .ok (.ior, 1) := by decide +kernel
theorem dX6_having_41 : decode cX6_having 41 = .ok (.sipush 255, 3) := by decide +kernel
theorem dX6_having_44 : decode cX6_having 44 = .ok (.iand, 1) := by decide +kernel
theorem dX6_having_45 : decode cX6_having 45 = .ok (.laload, 1) := by decide +kernel
theorem dX6_having_46 : decode cX6_having 46 = .ok (.ladd, 1) := by decide +kernel
theorem dX6_having_47 : decode cX6_having 47 = .ok (.lstore 5, 2) := by decide +kernel
theorem dX6_having_49 : decode cX6_having 49 = .ok (.iinc 7 1, 3) := by decide +kernel
theorem dX6_having_52 : decode cX6_having 52 = .ok (.iload 8, 2) := by decide +kernel
theorem dX6_having_54 : decode cX6_having 54 = .ok (.iload_n 3, 1) := by decide +kernel
theorem dX6_having_55 : decode cX6_having 55 = .ok (.invokestatic 47, 3) := by decide +kernel
theorem dX6_having_58 : decode cX6_having 58 = .ok (.istore 8, 2) := by decide +kernel
theorem dX6_having_60 : decode cX6_having 60 = .ok (.goto (-36), 3) := by decide +kernel
theorem dX6_having_63 : decode cX6_having 63 = .ok (.lload 5, 2) := by decide +kernel
theorem dX6_having_65 : decode cX6_having 65 = .ok (.lreturn, 1) := by decide +kernel
theorem dX6_split_0 : decode cX6_split 0 = .ok (.iload_n 1, 1) := by decide +kernel
theorem dX6_split_1 : decode cX6_split 1 = .ok (.sipush 255, 3) := by decide +kernel
theorem dX6_split_4 : decode cX6_split 4 = .ok (.iand, 1) := by decide +kernel
theorem dX6_split_5 : decode cX6_split 5 = .ok (.istore 4, 2) := by decide +kernel
theorem dX6_split_7 : decode cX6_split 7 = .ok (.iload_n 1, 1) := by decide +kernel
theorem dX6_split_8 : decode cX6_split 8 = .ok (.iload_n 2, 1) := by decide +kernel
theorem dX6_split_9 : decode cX6_split 9 = .ok (.ior, 1) := by decide +kernel
theorem dX6_split_10 : decode cX6_split 10 = .ok (.sipush 255, 3) := by decide +kernel
theorem dX6_split_13 : decode cX6_split 13 = .ok (.iand, 1) := by decide +kernel
theorem dX6_split_14 : decode cX6_split 14 = .ok (.istore 5, 2) := by decide +kernel
theorem dX6_split_16 : decode cX6_split 16 = .ok (.aload_n 0, 1) := by decide +kernel
theorem dX6_split_17 : decode cX6_split 17 = .ok (.getfield 9, 3) := by decide +kernel
theorem dX6_split_20 : decode cX6_split 20 = .ok (.iload 5, 2) := by decide +kernel
theorem dX6_split_22 : decode cX6_split 22 = .ok (.aload_n 0, 1) := by decide +kernel
theorem dX6_split_23 : decode cX6_split 23 = .ok (.getfield 9, 3) := by decide +kernel
theorem dX6_split_26 : decode cX6_split 26 = .ok (.iload 4, 2) := by decide +kernel
theorem dX6_split_28 : decode cX6_split 28 = .ok (.laload, 1) := by decide +kernel
theorem dX6_split_29 : decode cX6_split 29 = .ok (.iload_n 3, 1) := by decide +kernel
theorem dX6_split_30 : decode cX6_split 30 = .ok (.i2l, 1) := by decide +kernel
theorem dX6_split_31 : decode cX6_split 31 = .ok (.lmul, 1) := by decide +kernel
theorem dX6_split_32 : decode cX6_split 32 = .ok (.lastore, 1) := by decide +kernel
theorem dX6_split_33 : decode cX6_split 33 = .ok (.aload_n 0, 1) := by decide +kernel
theorem dX6_split_34 : decode cX6_split 34 = .ok (.getfield 9, 3) := by decide +kernel
theorem dX6_split_37 : decode cX6_split 37 = .ok (.iload 4, 2) := by decide +kernel
theorem dX6_split_39 : decode cX6_split 39 = .ok (.dup2, 1) := by decide +kernel
theorem dX6_split_40 : decode cX6_split 40 = .ok (.laload, 1) := by decide +kernel
theorem dX6_split_41 : decode cX6_split 41 = .ok (.bipush 100, 2) := by decide +kernel
theorem dX6_split_43 : decode cX6_split 43 = .ok (.iload_n 3, 1) := by decide +kernel
theorem dX6_split_44 : decode cX6_split 44 = .ok (.isub, 1) := by decide +kernel
theorem dX6_split_45 : decode cX6_split 45 = .ok (.i2l, 1) := by decide +kernel
theorem dX6_split_46 : decode cX6_split 46 = .ok (.lmul, 1) := by decide +kernel
theorem dX6_split_47 : decode cX6_split 47 = .ok (.lastore, 1) := by decide +kernel
theorem dX6_split_48 : decode cX6_split 48 = .ok (.return_, 1) := by decide +kernel
theorem dX7_bit_0 : decode cX7_bit 0 = .ok (.iconst 1, 1) := by decide +kernel
theorem dX7_bit_1 : decode cX7_bit 1 = .ok (.iload_n 0, 1) := by decide +kernel
theorem dX7_bit_2 : decode cX7_bit 2 = .ok (.ishl, 1) := by decide +kernel
theorem dX7_bit_3 : decode cX7_bit 3 = .ok (.ireturn, 1) := by decide +kernel
theorem dX7_inHeap_0 : decode cX7_inHeap 0 = .ok (.iload_n 0, 1) := by decide +kernel
theorem dX7_inHeap_1 : decode cX7_inHeap 1 = .ok (.iload_n 1, 1) := by decide +kernel
theorem dX7_inHeap_2 : decode cX7_inHeap 2 = .ok (.ishr, 1) := by decide +kernel
theorem dX7_inHeap_3 : decode cX7_inHeap 3 = .ok (.iconst 1, 1) := by decide +kernel
theorem dX7_inHeap_4 : decode cX7_inHeap 4 = .ok (.iand, 1) := by decide +kernel
theorem dX7_inHeap_5 : decode cX7_inHeap 5 = .ok (.iconst 1, 1) := by decide +kernel
theorem dX7_inHeap_6 : decode cX7_inHeap 6 = .ok (.if_icmp .ne 7, 3) := by decide +kernel
theorem dX7_inHeap_9 : decode cX7_inHeap 9 = .ok (.iconst 1, 1) := by decide +kernel
theorem dX7_inHeap_10 : decode cX7_inHeap 10 = .ok (.goto 4, 3) := by decide +kernel
theorem dX7_inHeap_13 : decode cX7_inHeap 13 = .ok (.iconst 0, 1) := by decide +kernel
theorem dX7_inHeap_14 : decode cX7_inHeap 14 = .ok (.ireturn, 1) := by decide +kernel
theorem dX7_isBit_0 : decode cX7_isBit 0 = .ok (.iload_n 0, 1) := by decide +kernel
theorem dX7_isBit_1 : decode cX7_isBit 1 = .ok (.ifCond .eq 8, 3) := by decide +kernel
theorem dX7_isBit_4 : decode cX7_isBit 4 = .ok (.iload_n 0, 1) := by decide +kernel
theorem dX7_isBit_5 : decode cX7_isBit 5 = .ok (.iconst 1, 1) := by decide +kernel
theorem dX7_isBit_6 : decode cX7_isBit 6 = .ok (.if_icmp .ne 7, 3) := by decide +kernel
theorem dX7_isBit_9 : decode cX7_isBit 9 = .ok (.iconst 1, 1) := by decide +kernel
theorem dX7_isBit_10 : decode cX7_isBit 10 = .ok (.goto 4, 3) := by decide +kernel
theorem dX7_isBit_13 : decode cX7_isBit 13 = .ok (.iconst 0, 1) := by decide +kernel
theorem dX7_isBit_14 : decode cX7_isBit 14 = .ok (.ireturn, 1) := by decide +kernel
theorem dX7_heapOf_0 : decode cX7_heapOf 0 = .ok (.iload_n 0, 1) := by decide +kernel
theorem dX7_heapOf_1 : decode cX7_heapOf 1 = .ok (.sipush 255, 3) := by decide +kernel
theorem dX7_heapOf_4 : decode cX7_heapOf 4 = .ok (.iand, 1) := by decide +kernel
theorem dX7_heapOf_5 : decode cX7_heapOf 5 = .ok (.ireturn, 1) := by decide +kernel
theorem dX7_onesOf_0 : decode cX7_onesOf 0 = .ok (.iload_n 0, 1) := by decide +kernel
theorem dX7_onesOf_1 : decode cX7_onesOf 1 = .ok (.bipush 8, 2) := by decide +kernel
theorem dX7_onesOf_3 : decode cX7_onesOf 3 = .ok (.ishr, 1) := by decide +kernel
theorem dX7_onesOf_4 : decode cX7_onesOf 4 = .ok (.sipush 255, 3) := by decide +kernel
theorem dX7_onesOf_7 : decode cX7_onesOf 7 = .ok (.iand, 1) := by decide +kernel
theorem dX7_onesOf_8 : decode cX7_onesOf 8 = .ok (.ireturn, 1) := by decide +kernel
set_option maxRecDepth 20000 in
theorem ggX7_settingOf_X7_bit : GoodIn wsX7_settingOf wsX7_bit := goodIn_r _ [4] (by decide +kernel) (by decide +kernel)
set_option maxRecDepth 20000 in
theorem gX7_settingOf_X7_bit : GoodIn wsX7_settingOf (va_wsS RX7 73 yX7_bit wsX7_bit) := goodIn_app (goodIn_of _ (by decide +kernel)) ggX7_settingOf_X7_bit
theorem dX7_settingOf_0 : decode cX7_settingOf 0 = .ok (.iload_n 0, 1) := by decide +kernel
theorem dX7_settingOf_1 : decode cX7_settingOf 1 = .ok (.invokestatic 73, 3) := by decide +kernel
theorem dX7_settingOf_4 : decode cX7_settingOf 4 = .ok (.iload_n 1, 1) := by decide +kernel
theorem dX7_settingOf_5 : decode cX7_settingOf 5 = .ok (.iload_n 0, 1) := by decide +kernel
theorem dX7_settingOf_6 : decode cX7_settingOf 6 = .ok (.bipush 8, 2) := by decide +kernel
theorem dX7_settingOf_8 : decode cX7_settingOf 8 = .ok (.iadd, 1) := by decide +kernel
theorem dX7_settingOf_9 : decode cX7_settingOf 9 = .ok (.ishl, 1) := by decide +kernel
theorem dX7_settingOf_10 : decode cX7_settingOf 10 = .ok (.ior, 1) := by decide +kernel
theorem dX7_settingOf_11 : decode cX7_settingOf 11 = .ok (.ireturn, 1) := by decide +kernel
set_option maxRecDepth 20000 in
theorem ggX7_clash_X7_heapOf : GoodIn wsX7_clash wsX7_heapOf := goodIn_r _ [4] (by decide +kernel) (by decide +kernel)
set_option maxRecDepth 20000 in
theorem gX7_clash_X7_heapOf : GoodIn wsX7_clash (va_wsS RX7 127 yX7_heapOf wsX7_heapOf) := goodIn_app (goodIn_of _ (by decide +kernel)) ggX7_clash_X7_heapOf
set_option maxRecDepth 20000 in
theorem ggX7_clash_X7_onesOf : GoodIn wsX7_clash wsX7_onesOf := goodIn_r _ [7] (by decide +kernel) (by decide +kernel)
set_option maxRecDepth 20000 in
theorem gX7_clash_X7_onesOf : GoodIn wsX7_clash (va_wsS RX7 130 yX7_onesOf wsX7_onesOf) := goodIn_app (goodIn_of _ (by decide +kernel)) ggX7_clash_X7_onesOf
theorem dX7_clash_0 : decode cX7_clash 0 = .ok (.iload_n 0, 1) := by decide +kernel
theorem dX7_clash_1 : decode cX7_clash 1 = .ok (.invokestatic 127, 3) := by decide +kernel
theorem dX7_clash_4 : decode cX7_clash 4 = .ok (.iload_n 1, 1) := by decide +kernel
theorem dX7_clash_5 : decode cX7_clash 5 = .ok (.invokestatic 127, 3) := by decide +kernel
theorem dX7_clash_8 : decode cX7_clash 8 = .ok (.iand, 1) := by decide +kernel
theorem dX7_clash_9 : decode cX7_clash 9 = .ok (.iload_n 0, 1) := by decide +kernel
theorem dX7_clash_10 : decode cX7_clash 10 = .ok (.invokestatic 130, 3) := by decide +kernel
theorem dX7_clash_13 : decode cX7_clash 13 = .ok (.iload_n 1, 1) := by decide +kernel
theorem dX7_clash_14 : decode cX7_clash 14 = .ok (.invokestatic 130, 3) := by decide +kernel
theorem dX7_clash_17 : decode cX7_clash 17 = .ok (.ixor, 1) := by decide +kernel
theorem dX7_clash_18 : decode cX7_clash 18 = .ok (.iand, 1) := by decide +kernel
theorem dX7_clash_19 : decode cX7_clash 19 = .ok (.ifCond .eq 7, 3) := by decide +kernel
theorem dX7_clash_22 : decode cX7_clash 22 = .ok (.iconst 1, 1) := by decide +kernel
theorem dX7_clash_23 : decode cX7_clash 23 = .ok (.goto 4, 3) := by decide +kernel
theorem dX7_clash_26 : decode cX7_clash 26 = .ok (.iconst 0, 1) := by decide +kernel
theorem dX7_clash_27 : decode cX7_clash 27 = .ok (.ireturn, 1) := by decide +kernel
set_option maxRecDepth 20000 in
theorem ggX7_partsOf_J6_bitCount_0f7a4 : GoodIn wsX7_partsOf wsJ6_bitCount_0f7a4 := goodIn_r _ [4, 5, 6, 7] (by decide +kernel) (by decide +kernel)
set_option maxRecDepth 20000 in
theorem gX7_partsOf_J6_bitCount_0f7a4 : GoodIn wsX7_partsOf (va_wsS RX7 239 yJ6_bitCount_0f7a4 wsJ6_bitCount_0f7a4) := goodIn_app (goodIn_of _ (by decide +kernel)) ggX7_partsOf_J6_bitCount_0f7a4
theorem dX7_partsOf_0 : decode cX7_partsOf 0 = .ok (.iconst 1, 1) := by decide +kernel
theorem dX7_partsOf_1 : decode cX7_partsOf 1 = .ok (.iload_n 0, 1) := by decide +kernel
theorem dX7_partsOf_2 : decode cX7_partsOf 2 = .ok (.invokestatic 239, 3) := by decide +kernel
theorem dX7_partsOf_5 : decode cX7_partsOf 5 = .ok (.ishl, 1) := by decide +kernel
theorem dX7_partsOf_6 : decode cX7_partsOf 6 = .ok (.ireturn, 1) := by decide +kernel
theorem dX7_nextPart_0 : decode cX7_nextPart 0 = .ok (.iload_n 0, 1) := by decide +kernel
theorem dX7_nextPart_1 : decode cX7_nextPart 1 = .ok (.iload_n 1, 1) := by decide +kernel
theorem dX7_nextPart_2 : decode cX7_nextPart 2 = .ok (.isub, 1) := by decide +kernel
theorem dX7_nextPart_3 : decode cX7_nextPart 3 = .ok (.iload_n 1, 1) := by decide +kernel
theorem dX7_nextPart_4 : decode cX7_nextPart 4 = .ok (.iand, 1) := by decide +kernel
theorem dX7_nextPart_5 : decode cX7_nextPart 5 = .ok (.ireturn, 1) := by decide +kernel
theorem dX7_commonDivisor_0 : decode cX7_commonDivisor 0 = .ok (.lload_n 0, 1) := by decide +kernel
theorem dX7_commonDivisor_1 : decode cX7_commonDivisor 1 = .ok (.lstore 4, 2) := by decide +kernel
theorem dX7_commonDivisor_3 : decode cX7_commonDivisor 3 = .ok (.lload_n 2, 1) := by decide +kernel
theorem dX7_commonDivisor_4 : decode cX7_commonDivisor 4 = .ok (.lstore 6, 2) := by decide +kernel
theorem dX7_commonDivisor_6 : decode cX7_commonDivisor 6 = .ok (.iconst 0, 1) := by decide +kernel
theorem dX7_commonDivisor_7 : decode cX7_commonDivisor 7 = .ok (.istore 8, 2) := by decide +kernel
theorem dX7_commonDivisor_9 : decode cX7_commonDivisor 9 = .ok (.iload 8, 2) := by decide +kernel
theorem dX7_commonDivisor_11 : decode cX7_commonDivisor 11 = .ok (.bipush 100, 2) := by decide +kernel
theorem dX7_commonDivisor_13 : decode cX7_commonDivisor 13 = .ok (.if_icmp .ge 31, 3) := by decide +kernel
theorem dX7_commonDivisor_16 : decode cX7_commonDivisor 16 = .ok (.lload 6, 2) := by decide +kernel
theorem dX7_commonDivisor_18 : decode cX7_commonDivisor 18 = .ok (.lconst 0, 1) := by decide +kernel
theorem dX7_commonDivisor_19 : decode cX7_commonDivisor 19 = .ok (.lcmp, 1) := by decide +kernel
theorem dX7_commonDivisor_20 : decode cX7_commonDivisor 20 = .ok (.ifCond .eq 24, 3) := by decide +kernel
theorem dX7_commonDivisor_23 : decode cX7_commonDivisor 23 = .ok (.lload 4, 2) := by decide +kernel
theorem dX7_commonDivisor_25 : decode cX7_commonDivisor 25 = .ok (.lload 6, 2) := by decide +kernel
theorem dX7_commonDivisor_27 : decode cX7_commonDivisor 27 = .ok (.lrem, 1) := by decide +kernel
theorem dX7_commonDivisor_28 : decode cX7_commonDivisor 28 = .ok (.lstore 9, 2) := by decide +kernel
theorem dX7_commonDivisor_30 : decode cX7_commonDivisor 30 = .ok (.lload 6, 2) := by decide +kernel
theorem dX7_commonDivisor_32 : decode cX7_commonDivisor 32 = .ok (.lstore 4, 2) := by decide +kernel
theorem dX7_commonDivisor_34 : decode cX7_commonDivisor 34 = .ok (.lload 9, 2) := by decide +kernel
theorem dX7_commonDivisor_36 : decode cX7_commonDivisor 36 = .ok (.lstore 6, 2) := by decide +kernel
theorem dX7_commonDivisor_38 : decode cX7_commonDivisor 38 = .ok (.iinc 8 1, 3) := by decide +kernel
theorem dX7_commonDivisor_41 : decode cX7_commonDivisor 41 = .ok (.goto (-32), 3) := by decide +kernel
theorem dX7_commonDivisor_44 : decode cX7_commonDivisor 44 = .ok (.lconst 1, 1) := by decide +kernel
theorem dX7_commonDivisor_45 : decode cX7_commonDivisor 45 = .ok (.lload 4, 2) := by decide +kernel
theorem dX7_commonDivisor_47 : decode cX7_commonDivisor 47 = .ok (.invokestatic 199, 3) := by decide +kernel
theorem dX7_commonDivisor_50 : decode cX7_commonDivisor 50 = .ok (.lreturn, 1) := by decide +kernel
theorem dJ6_bitCount_0f7a4_0 : decode cJ6_bitCount_0f7a4 0 = .ok (.iload_n 0, 1) := by decide +kernel
theorem dJ6_bitCount_0f7a4_1 : decode cJ6_bitCount_0f7a4 1 = .ok (.iload_n 0, 1) := by decide +kernel
theorem dJ6_bitCount_0f7a4_2 : decode cJ6_bitCount_0f7a4 2 = .ok (.iconst 1, 1) := by decide +kernel
theorem dJ6_bitCount_0f7a4_3 : decode cJ6_bitCount_0f7a4 3 = .ok (.iushr, 1) := by decide +kernel
theorem dJ6_bitCount_0f7a4_4 : decode cJ6_bitCount_0f7a4 4 = .ok (.ldc_w 265, 3) := by decide +kernel
theorem dJ6_bitCount_0f7a4_7 : decode cJ6_bitCount_0f7a4 7 = .ok (.iand, 1) := by decide +kernel
theorem dJ6_bitCount_0f7a4_8 : decode cJ6_bitCount_0f7a4 8 = .ok (.isub, 1) := by decide +kernel
theorem dJ6_bitCount_0f7a4_9 : decode cJ6_bitCount_0f7a4 9 = .ok (.istore_n 0, 1) := by decide +kernel
theorem dJ6_bitCount_0f7a4_10 : decode cJ6_bitCount_0f7a4 10 = .ok (.iload_n 0, 1) := by decide +kernel
theorem dJ6_bitCount_0f7a4_11 : decode cJ6_bitCount_0f7a4 11 = .ok (.ldc_w 266, 3) := by decide +kernel
theorem dJ6_bitCount_0f7a4_14 : decode cJ6_bitCount_0f7a4 14 = .ok (.iand, 1) := by decide +kernel
theorem dJ6_bitCount_0f7a4_15 : decode cJ6_bitCount_0f7a4 15 = .ok (.iload_n 0, 1) := by decide +kernel
theorem dJ6_bitCount_0f7a4_16 : decode cJ6_bitCount_0f7a4 16 = .ok (.iconst 2, 1) := by decide +kernel
theorem dJ6_bitCount_0f7a4_17 : decode cJ6_bitCount_0f7a4 17 = .ok (.iushr, 1) := by decide +kernel
theorem dJ6_bitCount_0f7a4_18 : decode cJ6_bitCount_0f7a4 18 = .ok (.ldc_w 266, 3) := by decide +kernel
theorem dJ6_bitCount_0f7a4_21 : decode cJ6_bitCount_0f7a4 21 = .ok (.iand, 1) := by decide +kernel
theorem dJ6_bitCount_0f7a4_22 : decode cJ6_bitCount_0f7a4 22 = .ok (.iadd, 1) := by decide +kernel
theorem dJ6_bitCount_0f7a4_23 : decode cJ6_bitCount_0f7a4 23 = .ok (.istore_n 0, 1) := by decide +kernel
theorem dJ6_bitCount_0f7a4_24 : decode cJ6_bitCount_0f7a4 24 = .ok (.iload_n 0, 1) := by decide +kernel
theorem dJ6_bitCount_0f7a4_25 : decode cJ6_bitCount_0f7a4 25 = .ok (.iload_n 0, 1) := by decide +kernel
theorem dJ6_bitCount_0f7a4_26 : decode cJ6_bitCount_0f7a4 26 = .ok (.iconst 4, 1) := by decide +kernel
theorem dJ6_bitCount_0f7a4_27 : decode cJ6_bitCount_0f7a4 27 = .ok (.iushr, 1) := by decide +kernel
theorem dJ6_bitCount_0f7a4_28 : decode cJ6_bitCount_0f7a4 28 = .ok (.iadd, 1) := by decide +kernel
theorem dJ6_bitCount_0f7a4_29 : decode cJ6_bitCount_0f7a4 29 = .ok (.ldc_w 267, 3) := by decide +kernel
theorem dJ6_bitCount_0f7a4_32 : decode cJ6_bitCount_0f7a4 32 = .ok (.iand, 1) := by decide +kernel
theorem dJ6_bitCount_0f7a4_33 : decode cJ6_bitCount_0f7a4 33 = .ok (.istore_n 0, 1) := by decide +kernel
theorem dJ6_bitCount_0f7a4_34 : decode cJ6_bitCount_0f7a4 34 = .ok (.iload_n 0, 1) := by decide +kernel
theorem dJ6_bitCount_0f7a4_35 : decode cJ6_bitCount_0f7a4 35 = .ok (.iload_n 0, 1) := by decide +kernel
theorem dJ6_bitCount_0f7a4_36 : decode cJ6_bitCount_0f7a4 36 = .ok (.bipush 8, 2) := by decide +kernel
theorem dJ6_bitCount_0f7a4_38 : decode cJ6_bitCount_0f7a4 38 = .ok (.iushr, 1) := by decide +kernel
theorem dJ6_bitCount_0f7a4_39 : decode cJ6_bitCount_0f7a4 39 = .ok (.iadd, 1) := by decide +kernel
theorem dJ6_bitCount_0f7a4_40 : decode cJ6_bitCount_0f7a4 40 = .ok (.istore_n 0, 1) := by decide +kernel
theorem dJ6_bitCount_0f7a4_41 : decode cJ6_bitCount_0f7a4 41 = .ok (.iload_n 0, 1) := by decide +kernel
theorem dJ6_bitCount_0f7a4_42 : decode cJ6_bitCount_0f7a4 42 = .ok (.iload_n 0, 1) := by decide +kernel
theorem dJ6_bitCount_0f7a4_43 : decode cJ6_bitCount_0f7a4 43 = .ok (.bipush 16, 2) := by decide +kernel
theorem dJ6_bitCount_0f7a4_45 : decode cJ6_bitCount_0f7a4 45 = .ok (.iushr, 1) := by decide +kernel
theorem dJ6_bitCount_0f7a4_46 : decode cJ6_bitCount_0f7a4 46 = .ok (.iadd, 1) := by decide +kernel
theorem dJ6_bitCount_0f7a4_47 : decode cJ6_bitCount_0f7a4 47 = .ok (.istore_n 0, 1) := by decide +kernel
theorem dJ6_bitCount_0f7a4_48 : decode cJ6_bitCount_0f7a4 48 = .ok (.iload_n 0, 1) := by decide +kernel
theorem dJ6_bitCount_0f7a4_49 : decode cJ6_bitCount_0f7a4 49 = .ok (.bipush 63, 2) := by decide +kernel
theorem dJ6_bitCount_0f7a4_51 : decode cJ6_bitCount_0f7a4 51 = .ok (.iand, 1) := by decide +kernel
theorem dJ6_bitCount_0f7a4_52 : decode cJ6_bitCount_0f7a4 52 = .ok (.ireturn, 1) := by decide +kernel
end
section
/-! statics, Drawing, Books: any state -/
set_option maxHeartbeats 1000000 in
set_option maxRecDepth 100000 in
theorem mz_g_bit (l : Launch) (dC : Nat → ClassId) (dI : Nat → Nat → Nat) (cI cJ cZ : ClassId) (p0 : Int32) (Hq : Heap)  : Met l yX7_bit wsX7_bit ({ frames := 0, cells := 0, slots := 0, locals := 0 }) (va_Pc [.int p0] (fun U => U.heap = Hq ∧ va_P (dC, dI) vwCl [] Hq ∧ va_K (dC, dI) vwCl [(cI, FieldType.int), (cJ, FieldType.long), (cZ, FieldType.boolean)] U ∧ mz_N U)) (va_Qi (fun (r : Int32) (_ : Unit) => r = (1 <<< (p0 &&& 31))) (fun _ t => t.heap = Hq) (fun _ : Nat => False)) 0 0 (fun _ : Nat => False) := by
  refine Met.ofW (cc := cX7_bit) (maxL := 1) (ret := (some .int)) (by decide) rfl ?_
  intro p e s m args below meth c s₁ B hml hv
  obtain ⟨rfl, hH, hP, hK, hN⟩ := hv
  subst hH
  have hx := B.exec
  have hb := B.bytes
  have hr := B.returns
  have hts := atoms_spec (ws := wsX7_bit) B.pre
  have hown : s.vm.findClass RX7 = some m.cls := findClass_of_methodNamed B.named
  have hlocks := B.notSynchronized
  have hS : va_S (fun _ : Nat => False) s.heap s.heap [] := va_S.rf
  have hl := lv_entry ([.int p0]) (n := 1) (Nat.le_of_ble_eq_true rfl)
  rw [lg_entry_eq]
  generalize (lg_sl ([.int p0]) ++ List.replicate (1 - (lg_sl ([.int p0])).length) Slot.unset).toArray = ls at hl ⊢
  have hl : lv_has ls 1 [(0, .int p0)] := hl
  refine lv_iconst (v := 1) hx hb dX7_bit_0 (by decide +kernel) ?_
  refine lv_iload_n hx hb dX7_bit_1 rfl (lv_at hl 0 rfl) ?_
  refine lv_ishl hx hb dX7_bit_2 ?_
  refine W.widen (k := 0) (n := 0) (Nat.le_of_ble_eq_true rfl) (Nat.le_of_ble_eq_true rfl) ?_
  exact W.iret (v := (1 <<< (p0 &&& 31))) hx hb hr (fun t ht hW => ⟨⟨(1 <<< (p0 &&& 31)), (), rfl, rfl, ht⟩, hS.F ht⟩) hS.2.2 dX7_bit_3
set_option maxHeartbeats 1000000 in
set_option maxRecDepth 100000 in
theorem mz_g_inHeap (l : Launch) (dC : Nat → ClassId) (dI : Nat → Nat → Nat) (cI cJ cZ : ClassId) (p0 : Int32) (p1 : Int32) (Hq : Heap)  : Met l yX7_inHeap wsX7_inHeap ({ frames := 0, cells := 0, slots := 0, locals := 0 }) (va_Pc [.int p0, .int p1] (fun U => U.heap = Hq ∧ va_P (dC, dI) vwCl [] Hq ∧ va_K (dC, dI) vwCl [(cI, FieldType.int), (cJ, FieldType.long), (cZ, FieldType.boolean)] U ∧ mz_N U)) (va_Qi (fun (r : Int32) (_ : Unit) => r = 0 ∨ r = 1) (fun _ t => t.heap = Hq) (fun _ : Nat => False)) 0 0 (fun _ : Nat => False) := by
  refine Met.ofW (cc := cX7_inHeap) (maxL := 2) (ret := (some .boolean)) (by decide) rfl ?_
  intro p e s m args below meth c s₁ B hml hv
  obtain ⟨rfl, hH, hP, hK, hN⟩ := hv
  subst hH
  have hx := B.exec
  have hb := B.bytes
  have hr := B.returns
  have hts := atoms_spec (ws := wsX7_inHeap) B.pre
  have hown : s.vm.findClass RX7 = some m.cls := findClass_of_methodNamed B.named
  have hlocks := B.notSynchronized
  have hS : va_S (fun _ : Nat => False) s.heap s.heap [] := va_S.rf
  have hl := lv_entry ([.int p0, .int p1]) (n := 2) (Nat.le_of_ble_eq_true rfl)
  rw [lg_entry_eq]
  generalize (lg_sl ([.int p0, .int p1]) ++ List.replicate (2 - (lg_sl ([.int p0, .int p1])).length) Slot.unset).toArray = ls at hl ⊢
  have hl : lv_has ls 2 [(0, .int p0), (1, .int p1)] := hl
  refine lv_iload_n hx hb dX7_inHeap_0 rfl (lv_at hl 0 rfl) ?_
  refine lv_iload_n hx hb dX7_inHeap_1 rfl (lv_at hl 1 rfl) ?_
  refine lv_ishr hx hb dX7_inHeap_2 ?_
  refine lv_topi (fun v_2 ev_2 => ?_)
  refine lv_iconst (v := 1) hx hb dX7_inHeap_3 (by decide +kernel) ?_
  refine lv_iand hx hb dX7_inHeap_4 ?_
  refine lv_topi (fun v_4 ev_4 => ?_)
  refine lv_iconst (v := 1) hx hb dX7_inHeap_5 (by decide +kernel) ?_
  refine lv_icmp_ne (tgt := 13) hx hb dX7_inHeap_6 (by decide) (fun c_6 => ?_) (fun c_6 => ?_)
  · skip
    refine lv_iconst (v := 0) hx hb dX7_inHeap_13 (by decide +kernel) ?_
    refine W.widen (k := 0) (n := 0) (Nat.le_of_ble_eq_true rfl) (Nat.le_of_ble_eq_true rfl) ?_
    exact W.zret (v := 0) hx hb hr (mz_nz (by decide +kernel)) (fun t ht hW => ⟨⟨0, (), rfl, Or.inl rfl, ht⟩, hS.F ht⟩) hS.2.2 dX7_inHeap_14
  · skip
    refine lv_iconst (v := 1) hx hb dX7_inHeap_9 (by decide +kernel) ?_
    refine lv_goto (tgt := 14) hx hb dX7_inHeap_10 (by decide) ?_
    refine W.widen (k := 0) (n := 0) (Nat.le_of_ble_eq_true rfl) (Nat.le_of_ble_eq_true rfl) ?_
    exact W.zret (v := 1) hx hb hr (mz_nz (by decide +kernel)) (fun t ht hW => ⟨⟨1, (), rfl, Or.inr rfl, ht⟩, hS.F ht⟩) hS.2.2 dX7_inHeap_14
set_option maxHeartbeats 1000000 in
set_option maxRecDepth 100000 in
theorem mz_g_isBit (l : Launch) (dC : Nat → ClassId) (dI : Nat → Nat → Nat) (cI cJ cZ : ClassId) (p0 : Int32) (Hq : Heap)  : Met l yX7_isBit wsX7_isBit ({ frames := 0, cells := 0, slots := 0, locals := 0 }) (va_Pc [.int p0] (fun U => U.heap = Hq ∧ va_P (dC, dI) vwCl [] Hq ∧ va_K (dC, dI) vwCl [(cI, FieldType.int), (cJ, FieldType.long), (cZ, FieldType.boolean)] U ∧ mz_N U)) (va_Qi (fun (r : Int32) (_ : Unit) => r = 0 ∨ r = 1) (fun _ t => t.heap = Hq) (fun _ : Nat => False)) 0 0 (fun _ : Nat => False) := by
  refine Met.ofW (cc := cX7_isBit) (maxL := 1) (ret := (some .boolean)) (by decide) rfl ?_
  intro p e s m args below meth c s₁ B hml hv
  obtain ⟨rfl, hH, hP, hK, hN⟩ := hv
  subst hH
  have hx := B.exec
  have hb := B.bytes
  have hr := B.returns
  have hts := atoms_spec (ws := wsX7_isBit) B.pre
  have hown : s.vm.findClass RX7 = some m.cls := findClass_of_methodNamed B.named
  have hlocks := B.notSynchronized
  have hS : va_S (fun _ : Nat => False) s.heap s.heap [] := va_S.rf
  have hl := lv_entry ([.int p0]) (n := 1) (Nat.le_of_ble_eq_true rfl)
  rw [lg_entry_eq]
  generalize (lg_sl ([.int p0]) ++ List.replicate (1 - (lg_sl ([.int p0])).length) Slot.unset).toArray = ls at hl ⊢
  have hl : lv_has ls 1 [(0, .int p0)] := hl
  refine lv_iload_n hx hb dX7_isBit_0 rfl (lv_at hl 0 rfl) ?_
  refine lv_if_eq (tgt := 9) hx hb dX7_isBit_1 (by decide) (fun c_1 => ?_) (fun c_1 => ?_)
  · skip
    refine lv_iconst (v := 1) hx hb dX7_isBit_9 (by decide +kernel) ?_
    refine lv_goto (tgt := 14) hx hb dX7_isBit_10 (by decide) ?_
    refine W.widen (k := 0) (n := 0) (Nat.le_of_ble_eq_true rfl) (Nat.le_of_ble_eq_true rfl) ?_
    exact W.zret (v := 1) hx hb hr (mz_nz (by decide +kernel)) (fun t ht hW => ⟨⟨1, (), rfl, Or.inr rfl, ht⟩, hS.F ht⟩) hS.2.2 dX7_isBit_14
  · skip
    refine lv_iload_n hx hb dX7_isBit_4 rfl (lv_at hl 0 rfl) ?_
    refine lv_iconst (v := 1) hx hb dX7_isBit_5 (by decide +kernel) ?_
    refine lv_icmp_ne (tgt := 13) hx hb dX7_isBit_6 (by decide) (fun c_6 => ?_) (fun c_6 => ?_)
    · skip
      refine lv_iconst (v := 0) hx hb dX7_isBit_13 (by decide +kernel) ?_
      refine W.widen (k := 0) (n := 0) (Nat.le_of_ble_eq_true rfl) (Nat.le_of_ble_eq_true rfl) ?_
      exact W.zret (v := 0) hx hb hr (mz_nz (by decide +kernel)) (fun t ht hW => ⟨⟨0, (), rfl, Or.inl rfl, ht⟩, hS.F ht⟩) hS.2.2 dX7_isBit_14
    · skip
      refine lv_iconst (v := 1) hx hb dX7_isBit_9 (by decide +kernel) ?_
      refine lv_goto (tgt := 14) hx hb dX7_isBit_10 (by decide) ?_
      refine W.widen (k := 0) (n := 0) (Nat.le_of_ble_eq_true rfl) (Nat.le_of_ble_eq_true rfl) ?_
      exact W.zret (v := 1) hx hb hr (mz_nz (by decide +kernel)) (fun t ht hW => ⟨⟨1, (), rfl, Or.inr rfl, ht⟩, hS.F ht⟩) hS.2.2 dX7_isBit_14
set_option maxHeartbeats 1000000 in
set_option maxRecDepth 100000 in
theorem mz_g_heapOf (l : Launch) (dC : Nat → ClassId) (dI : Nat → Nat → Nat) (cI cJ cZ : ClassId) (p0 : Int32) (Hq : Heap)  : Met l yX7_heapOf wsX7_heapOf ({ frames := 0, cells := 0, slots := 0, locals := 0 }) (va_Pc [.int p0] (fun U => U.heap = Hq ∧ va_P (dC, dI) vwCl [] Hq ∧ va_K (dC, dI) vwCl [(cI, FieldType.int), (cJ, FieldType.long), (cZ, FieldType.boolean)] U ∧ mz_N U)) (va_Qi (fun (r : Int32) (_ : Unit) => True) (fun _ t => t.heap = Hq) (fun _ : Nat => False)) 0 0 (fun _ : Nat => False) := by
  refine Met.ofW (cc := cX7_heapOf) (maxL := 1) (ret := (some .int)) (by decide) rfl ?_
  intro p e s m args below meth c s₁ B hml hv
  obtain ⟨rfl, hH, hP, hK, hN⟩ := hv
  subst hH
  have hx := B.exec
  have hb := B.bytes
  have hr := B.returns
  have hts := atoms_spec (ws := wsX7_heapOf) B.pre
  have hown : s.vm.findClass RX7 = some m.cls := findClass_of_methodNamed B.named
  have hlocks := B.notSynchronized
  have hS : va_S (fun _ : Nat => False) s.heap s.heap [] := va_S.rf
  have hl := lv_entry ([.int p0]) (n := 1) (Nat.le_of_ble_eq_true rfl)
  rw [lg_entry_eq]
  generalize (lg_sl ([.int p0]) ++ List.replicate (1 - (lg_sl ([.int p0])).length) Slot.unset).toArray = ls at hl ⊢
  have hl : lv_has ls 1 [(0, .int p0)] := hl
  refine lv_iload_n hx hb dX7_heapOf_0 rfl (lv_at hl 0 rfl) ?_
  refine lv_sipush (v := 255) hx hb dX7_heapOf_1 (by decide +kernel) ?_
  refine lv_iand hx hb dX7_heapOf_4 ?_
  obtain ⟨a_4, ha_4, ea_4⟩ := pk_andE (p0) (m := 255) 8 (by decide)
  have ha_4 : a_4 < 256 := ha_4
  refine mz_ti (y := (nI a_4)) ea_4 ?_
  refine W.widen (k := 0) (n := 0) (Nat.le_of_ble_eq_true rfl) (Nat.le_of_ble_eq_true rfl) ?_
  exact W.iret (v := (nI a_4)) hx hb hr (fun t ht hW => ⟨⟨(nI a_4), (), rfl, trivial, ht⟩, hS.F ht⟩) hS.2.2 dX7_heapOf_5
set_option maxHeartbeats 1000000 in
set_option maxRecDepth 100000 in
theorem mz_g_onesOf (l : Launch) (dC : Nat → ClassId) (dI : Nat → Nat → Nat) (cI cJ cZ : ClassId) (p0 : Int32) (Hq : Heap)  : Met l yX7_onesOf wsX7_onesOf ({ frames := 0, cells := 0, slots := 0, locals := 0 }) (va_Pc [.int p0] (fun U => U.heap = Hq ∧ va_P (dC, dI) vwCl [] Hq ∧ va_K (dC, dI) vwCl [(cI, FieldType.int), (cJ, FieldType.long), (cZ, FieldType.boolean)] U ∧ mz_N U)) (va_Qi (fun (r : Int32) (_ : Unit) => True) (fun _ t => t.heap = Hq) (fun _ : Nat => False)) 0 0 (fun _ : Nat => False) := by
  refine Met.ofW (cc := cX7_onesOf) (maxL := 1) (ret := (some .int)) (by decide) rfl ?_
  intro p e s m args below meth c s₁ B hml hv
  obtain ⟨rfl, hH, hP, hK, hN⟩ := hv
  subst hH
  have hx := B.exec
  have hb := B.bytes
  have hr := B.returns
  have hts := atoms_spec (ws := wsX7_onesOf) B.pre
  have hown : s.vm.findClass RX7 = some m.cls := findClass_of_methodNamed B.named
  have hlocks := B.notSynchronized
  have hS : va_S (fun _ : Nat => False) s.heap s.heap [] := va_S.rf
  have hl := lv_entry ([.int p0]) (n := 1) (Nat.le_of_ble_eq_true rfl)
  rw [lg_entry_eq]
  generalize (lg_sl ([.int p0]) ++ List.replicate (1 - (lg_sl ([.int p0])).length) Slot.unset).toArray = ls at hl ⊢
  have hl : lv_has ls 1 [(0, .int p0)] := hl
  refine lv_iload_n hx hb dX7_onesOf_0 rfl (lv_at hl 0 rfl) ?_
  refine lv_bipush (v := 8) hx hb dX7_onesOf_1 (by decide +kernel) ?_
  refine lv_ishr hx hb dX7_onesOf_3 ?_
  refine lv_topi (fun v_3 ev_3 => ?_)
  refine lv_sipush (v := 255) hx hb dX7_onesOf_4 (by decide +kernel) ?_
  refine lv_iand hx hb dX7_onesOf_7 ?_
  obtain ⟨a_7, ha_7, ea_7⟩ := pk_andE (v_3) (m := 255) 8 (by decide)
  have ha_7 : a_7 < 256 := ha_7
  refine mz_ti (y := (nI a_7)) ea_7 ?_
  refine W.widen (k := 0) (n := 0) (Nat.le_of_ble_eq_true rfl) (Nat.le_of_ble_eq_true rfl) ?_
  exact W.iret (v := (nI a_7)) hx hb hr (fun t ht hW => ⟨⟨(nI a_7), (), rfl, trivial, ht⟩, hS.F ht⟩) hS.2.2 dX7_onesOf_8
set_option maxHeartbeats 1000000 in
set_option maxRecDepth 100000 in
theorem mz_g_settingOf (l : Launch) (dC : Nat → ClassId) (dI : Nat → Nat → Nat) (cI cJ cZ : ClassId) (p0 : Int32) (p1 : Int32) (Hq : Heap)  : Met l yX7_settingOf wsX7_settingOf ({ frames := 1, cells := 0, slots := 0, locals := 20 }) (va_Pc [.int p0, .int p1] (fun U => U.heap = Hq ∧ va_P (dC, dI) vwCl [] Hq ∧ va_K (dC, dI) vwCl [(cI, FieldType.int), (cJ, FieldType.long), (cZ, FieldType.boolean)] U ∧ mz_N U)) (va_Qi (fun (r : Int32) (_ : Unit) => True) (fun _ t => t.heap = Hq) (fun _ : Nat => False)) 0 0 (fun _ : Nat => False) := by
  refine Met.ofW (cc := cX7_settingOf) (maxL := 2) (ret := (some .int)) (by decide) rfl ?_
  intro p e s m args below meth c s₁ B hml hv
  obtain ⟨rfl, hH, hP, hK, hN⟩ := hv
  subst hH
  have hx := B.exec
  have hb := B.bytes
  have hr := B.returns
  have hts := atoms_spec (ws := wsX7_settingOf) B.pre
  have hown : s.vm.findClass RX7 = some m.cls := findClass_of_methodNamed B.named
  have hlocks := B.notSynchronized
  have hS : va_S (fun _ : Nat => False) s.heap s.heap [] := va_S.rf
  have hl := lv_entry ([.int p0, .int p1]) (n := 2) (Nat.le_of_ble_eq_true rfl)
  rw [lg_entry_eq]
  generalize (lg_sl ([.int p0, .int p1]) ++ List.replicate (2 - (lg_sl ([.int p0, .int p1])).length) Slot.unset).toArray = ls at hl ⊢
  have hl : lv_has ls 2 [(0, .int p0), (1, .int p1)] := hl
  refine lv_iload_n hx hb dX7_settingOf_0 rfl (lv_at hl 0 rfl) ?_
  have hPc := hP.sub (ws' := []) [] rfl
  refine va_calli (va_runS (As := [.int p0]) (rest := []) ⟨hx, hb, hml, hown, hts⟩ (mz_g_bit l dC dI cI cJ cZ p0 s.heap ) (va_cwS 1 hts gX7_settingOf_X7_bit rfl rfl rfl (by decide +kernel) ⟨Nat.le_of_ble_eq_true rfl, Nat.le_of_ble_eq_true rfl⟩) ⟨fun a U g mk q => mz_blP q, fun U hU hW => ⟨rfl, hU, hPc, va_K.moved hW.alike hK, mz_nw hW hN⟩⟩ rfl rfl hl.1 rfl (lv_room (Nat.le_of_ble_eq_true rfl)) dX7_settingOf_1 ⟨Nat.le_of_ble_eq_true rfl, Nat.le_of_ble_eq_true rfl⟩) hS (fun q _ h => h.elim) (fun q h => h.elim) (fun r_1 u t H1 locs ht hvm hw_1 hB hz1 hk1 hS => ?_)
  have hE : s.heap = H1 := hB.symm.trans ht
  subst hE
  obtain rfl : r_1 = (1 <<< (p0 &&& 31)) := hw_1
  refine lv_iload_n hx hb dX7_settingOf_4 rfl (lv_at hl 1 rfl) ?_
  refine lv_iload_n hx hb dX7_settingOf_5 rfl (lv_at hl 0 rfl) ?_
  refine lv_bipush (v := 8) hx hb dX7_settingOf_6 (by decide +kernel) ?_
  refine lv_iadd hx hb dX7_settingOf_8 ?_
  refine lv_topi (fun v_8 ev_8 => ?_)
  refine lv_ishl hx hb dX7_settingOf_9 ?_
  refine lv_topi (fun v_9 ev_9 => ?_)
  refine lv_ior hx hb dX7_settingOf_10 ?_
  refine lv_topi (fun v_10 ev_10 => ?_)
  refine W.widen (k := 0) (n := 0) (Nat.le_of_ble_eq_true rfl) (Nat.le_of_ble_eq_true rfl) ?_
  exact W.iret (v := v_10) hx hb hr (fun t ht hW => ⟨⟨v_10, (), rfl, trivial, ht⟩, hS.F ht⟩) hS.2.2 dX7_settingOf_11
set_option maxHeartbeats 1000000 in
set_option maxRecDepth 100000 in
theorem mz_g_clash (l : Launch) (dC : Nat → ClassId) (dI : Nat → Nat → Nat) (cI cJ cZ : ClassId) (p0 : Int32) (p1 : Int32) (Hq : Heap)  : Met l yX7_clash wsX7_clash ({ frames := 1, cells := 0, slots := 0, locals := 20 }) (va_Pc [.int p0, .int p1] (fun U => U.heap = Hq ∧ va_P (dC, dI) vwCl [] Hq ∧ va_K (dC, dI) vwCl [(cI, FieldType.int), (cJ, FieldType.long), (cZ, FieldType.boolean)] U ∧ mz_N U)) (va_Qi (fun (r : Int32) (_ : Unit) => r = 0 ∨ r = 1) (fun _ t => t.heap = Hq) (fun _ : Nat => False)) 0 0 (fun _ : Nat => False) := by
  refine Met.ofW (cc := cX7_clash) (maxL := 2) (ret := (some .boolean)) (by decide) rfl ?_
  intro p e s m args below meth c s₁ B hml hv
  obtain ⟨rfl, hH, hP, hK, hN⟩ := hv
  subst hH
  have hx := B.exec
  have hb := B.bytes
  have hr := B.returns
  have hts := atoms_spec (ws := wsX7_clash) B.pre
  have hown : s.vm.findClass RX7 = some m.cls := findClass_of_methodNamed B.named
  have hlocks := B.notSynchronized
  have hS : va_S (fun _ : Nat => False) s.heap s.heap [] := va_S.rf
  have hl := lv_entry ([.int p0, .int p1]) (n := 2) (Nat.le_of_ble_eq_true rfl)
  rw [lg_entry_eq]
  generalize (lg_sl ([.int p0, .int p1]) ++ List.replicate (2 - (lg_sl ([.int p0, .int p1])).length) Slot.unset).toArray = ls at hl ⊢
  have hl : lv_has ls 2 [(0, .int p0), (1, .int p1)] := hl
  refine lv_iload_n hx hb dX7_clash_0 rfl (lv_at hl 0 rfl) ?_
  have hPc := hP.sub (ws' := []) [] rfl
  refine va_calli (va_runS (As := [.int p0]) (rest := []) ⟨hx, hb, hml, hown, hts⟩ (mz_g_heapOf l dC dI cI cJ cZ p0 s.heap ) (va_cwS 1 hts gX7_clash_X7_heapOf rfl rfl rfl (by decide +kernel) ⟨Nat.le_of_ble_eq_true rfl, Nat.le_of_ble_eq_true rfl⟩) ⟨fun a U g mk q => mz_blP q, fun U hU hW => ⟨rfl, hU, hPc, va_K.moved hW.alike hK, mz_nw hW hN⟩⟩ rfl rfl hl.1 rfl (lv_room (Nat.le_of_ble_eq_true rfl)) dX7_clash_1 ⟨Nat.le_of_ble_eq_true rfl, Nat.le_of_ble_eq_true rfl⟩) hS (fun q _ h => h.elim) (fun q h => h.elim) (fun r_1 u t H1 locs ht hvm hw_1 hB hz1 hk1 hS => ?_)
  have hE : s.heap = H1 := hB.symm.trans ht
  subst hE
  refine lv_iload_n hx hb dX7_clash_4 rfl (lv_at hl 1 rfl) ?_
  have hPc := hP.sub (ws' := []) [] rfl
  refine va_calli (va_runS (As := [.int p1]) (rest := [.int r_1]) ⟨hx, hb, hml, hown, hts⟩ (mz_g_heapOf l dC dI cI cJ cZ p1 s.heap ) (va_cwS 1 hts gX7_clash_X7_heapOf rfl rfl rfl (by decide +kernel) ⟨Nat.le_of_ble_eq_true rfl, Nat.le_of_ble_eq_true rfl⟩) ⟨fun a U g mk q => mz_blP q, fun U hU hW => ⟨rfl, hU, hPc, va_K.moved hW.alike hK, mz_nw hW hN⟩⟩ rfl rfl hl.1 rfl (lv_room (Nat.le_of_ble_eq_true rfl)) dX7_clash_5 ⟨Nat.le_of_ble_eq_true rfl, Nat.le_of_ble_eq_true rfl⟩) hS (fun q _ h => h.elim) (fun q h => h.elim) (fun r_5 u t H1 locs ht hvm hw_5 hB hz1 hk1 hS => ?_)
  have hE : s.heap = H1 := hB.symm.trans ht
  subst hE
  refine lv_iand hx hb dX7_clash_8 ?_
  refine lv_topi (fun v_8 ev_8 => ?_)
  refine lv_iload_n hx hb dX7_clash_9 rfl (lv_at hl 0 rfl) ?_
  have hPc := hP.sub (ws' := []) [] rfl
  refine va_calli (va_runS (As := [.int p0]) (rest := [.int v_8]) ⟨hx, hb, hml, hown, hts⟩ (mz_g_onesOf l dC dI cI cJ cZ p0 s.heap ) (va_cwS 1 hts gX7_clash_X7_onesOf rfl rfl rfl (by decide +kernel) ⟨Nat.le_of_ble_eq_true rfl, Nat.le_of_ble_eq_true rfl⟩) ⟨fun a U g mk q => mz_blP q, fun U hU hW => ⟨rfl, hU, hPc, va_K.moved hW.alike hK, mz_nw hW hN⟩⟩ rfl rfl hl.1 rfl (lv_room (Nat.le_of_ble_eq_true rfl)) dX7_clash_10 ⟨Nat.le_of_ble_eq_true rfl, Nat.le_of_ble_eq_true rfl⟩) hS (fun q _ h => h.elim) (fun q h => h.elim) (fun r_10 u t H1 locs ht hvm hw_10 hB hz1 hk1 hS => ?_)
  have hE : s.heap = H1 := hB.symm.trans ht
  subst hE
  refine lv_iload_n hx hb dX7_clash_13 rfl (lv_at hl 1 rfl) ?_
  have hPc := hP.sub (ws' := []) [] rfl
  refine va_calli (va_runS (As := [.int p1]) (rest := [.int r_10, .int v_8]) ⟨hx, hb, hml, hown, hts⟩ (mz_g_onesOf l dC dI cI cJ cZ p1 s.heap ) (va_cwS 1 hts gX7_clash_X7_onesOf rfl rfl rfl (by decide +kernel) ⟨Nat.le_of_ble_eq_true rfl, Nat.le_of_ble_eq_true rfl⟩) ⟨fun a U g mk q => mz_blP q, fun U hU hW => ⟨rfl, hU, hPc, va_K.moved hW.alike hK, mz_nw hW hN⟩⟩ rfl rfl hl.1 rfl (lv_room (Nat.le_of_ble_eq_true rfl)) dX7_clash_14 ⟨Nat.le_of_ble_eq_true rfl, Nat.le_of_ble_eq_true rfl⟩) hS (fun q _ h => h.elim) (fun q h => h.elim) (fun r_14 u t H1 locs ht hvm hw_14 hB hz1 hk1 hS => ?_)
  have hE : s.heap = H1 := hB.symm.trans ht
  subst hE
  refine lv_ixor hx hb dX7_clash_17 ?_
  refine lv_topi (fun v_17 ev_17 => ?_)
  refine lv_iand hx hb dX7_clash_18 ?_
  refine lv_topi (fun v_18 ev_18 => ?_)
  refine lv_if_eq (tgt := 26) hx hb dX7_clash_19 (by decide) (fun c_19 => ?_) (fun c_19 => ?_)
  · skip
    refine lv_iconst (v := 0) hx hb dX7_clash_26 (by decide +kernel) ?_
    refine W.widen (k := 0) (n := 0) (Nat.le_of_ble_eq_true rfl) (Nat.le_of_ble_eq_true rfl) ?_
    exact W.zret (v := 0) hx hb hr (mz_nz (by decide +kernel)) (fun t ht hW => ⟨⟨0, (), rfl, Or.inl rfl, ht⟩, hS.F ht⟩) hS.2.2 dX7_clash_27
  · skip
    refine lv_iconst (v := 1) hx hb dX7_clash_22 (by decide +kernel) ?_
    refine lv_goto (tgt := 27) hx hb dX7_clash_23 (by decide) ?_
    refine W.widen (k := 0) (n := 0) (Nat.le_of_ble_eq_true rfl) (Nat.le_of_ble_eq_true rfl) ?_
    exact W.zret (v := 1) hx hb hr (mz_nz (by decide +kernel)) (fun t ht hW => ⟨⟨1, (), rfl, Or.inr rfl, ht⟩, hS.F ht⟩) hS.2.2 dX7_clash_27
set_option maxHeartbeats 1000000 in
set_option maxRecDepth 100000 in
theorem mz_g_bitCount (l : Launch) (dC : Nat → ClassId) (dI : Nat → Nat → Nat) (cI cJ cZ : ClassId) (p0 : Int32) (Hq : Heap)  : Met l yJ6_bitCount_0f7a4 wsJ6_bitCount_0f7a4 ({ frames := 0, cells := 0, slots := 0, locals := 0 }) (va_Pc [.int p0] (fun U => U.heap = Hq ∧ va_P (dC, dI) vwCl [] Hq ∧ va_K (dC, dI) vwCl [(cI, FieldType.int), (cJ, FieldType.long), (cZ, FieldType.boolean)] U ∧ mz_N U)) (va_Qi (fun (r : Int32) (_ : Unit) => True) (fun _ t => t.heap = Hq) (fun _ : Nat => False)) 0 0 (fun _ : Nat => False) := by
  refine Met.ofW (cc := cJ6_bitCount_0f7a4) (maxL := 1) (ret := (some .int)) (by decide) rfl ?_
  intro p e s m args below meth c s₁ B hml hv
  obtain ⟨rfl, hH, hP, hK, hN⟩ := hv
  subst hH
  have hx := B.exec
  have hb := B.bytes
  have hr := B.returns
  have hts := atoms_spec (ws := wsJ6_bitCount_0f7a4) B.pre
  have hown : s.vm.findClass RJ6 = some m.cls := findClass_of_methodNamed B.named
  have hlocks := B.notSynchronized
  have hS : va_S (fun _ : Nat => False) s.heap s.heap [] := va_S.rf
  have hl := lv_entry ([.int p0]) (n := 1) (Nat.le_of_ble_eq_true rfl)
  rw [lg_entry_eq]
  generalize (lg_sl ([.int p0]) ++ List.replicate (1 - (lg_sl ([.int p0])).length) Slot.unset).toArray = ls at hl ⊢
  have hl : lv_has ls 1 [(0, .int p0)] := hl
  refine lv_iload_n hx hb dJ6_bitCount_0f7a4_0 rfl (lv_at hl 0 rfl) ?_
  refine lv_iload_n hx hb dJ6_bitCount_0f7a4_1 rfl (lv_at hl 0 rfl) ?_
  refine lv_iconst (v := 1) hx hb dJ6_bitCount_0f7a4_2 (by decide +kernel) ?_
  refine lv_iushr hx hb dJ6_bitCount_0f7a4_3 rfl ?_
  refine lv_topi (fun v_3 ev_3 => ?_)
  refine lv_ldcw hx hb hown (hts (.constant RJ6 265 (1431655765)) (by decide +kernel)) dJ6_bitCount_0f7a4_4 ?_
  refine lv_iand hx hb dJ6_bitCount_0f7a4_7 ?_
  refine lv_topi (fun v_7 ev_7 => ?_)
  refine lv_isub hx hb dJ6_bitCount_0f7a4_8 ?_
  refine lv_topi (fun v_8 ev_8 => ?_)
  refine lv_istore_n (lv' := [(0, .int v_8)]) hx hb dJ6_bitCount_0f7a4_9 rfl hl (by decide) rfl (fun ls hl => ?_)
  refine lv_iload_n hx hb dJ6_bitCount_0f7a4_10 rfl (lv_at hl 0 rfl) ?_
  refine lv_ldcw hx hb hown (hts (.constant RJ6 266 (858993459)) (by decide +kernel)) dJ6_bitCount_0f7a4_11 ?_
  refine lv_iand hx hb dJ6_bitCount_0f7a4_14 ?_
  refine lv_topi (fun v_14 ev_14 => ?_)
  refine lv_iload_n hx hb dJ6_bitCount_0f7a4_15 rfl (lv_at hl 0 rfl) ?_
  refine lv_iconst (v := 2) hx hb dJ6_bitCount_0f7a4_16 (by decide +kernel) ?_
  refine lv_iushr hx hb dJ6_bitCount_0f7a4_17 rfl ?_
  refine lv_topi (fun v_17 ev_17 => ?_)
  refine lv_ldcw hx hb hown (hts (.constant RJ6 266 (858993459)) (by decide +kernel)) dJ6_bitCount_0f7a4_18 ?_
  refine lv_iand hx hb dJ6_bitCount_0f7a4_21 ?_
  refine lv_topi (fun v_21 ev_21 => ?_)
  refine lv_iadd hx hb dJ6_bitCount_0f7a4_22 ?_
  refine lv_topi (fun v_22 ev_22 => ?_)
  refine lv_istore_n (lv' := [(0, .int v_22)]) hx hb dJ6_bitCount_0f7a4_23 rfl hl (by decide) rfl (fun ls hl => ?_)
  refine lv_iload_n hx hb dJ6_bitCount_0f7a4_24 rfl (lv_at hl 0 rfl) ?_
  refine lv_iload_n hx hb dJ6_bitCount_0f7a4_25 rfl (lv_at hl 0 rfl) ?_
  refine lv_iconst (v := 4) hx hb dJ6_bitCount_0f7a4_26 (by decide +kernel) ?_
  refine lv_iushr hx hb dJ6_bitCount_0f7a4_27 rfl ?_
  refine lv_topi (fun v_27 ev_27 => ?_)
  refine lv_iadd hx hb dJ6_bitCount_0f7a4_28 ?_
  refine lv_topi (fun v_28 ev_28 => ?_)
  refine lv_ldcw hx hb hown (hts (.constant RJ6 267 (252645135)) (by decide +kernel)) dJ6_bitCount_0f7a4_29 ?_
  refine lv_iand hx hb dJ6_bitCount_0f7a4_32 ?_
  refine lv_topi (fun v_32 ev_32 => ?_)
  refine lv_istore_n (lv' := [(0, .int v_32)]) hx hb dJ6_bitCount_0f7a4_33 rfl hl (by decide) rfl (fun ls hl => ?_)
  refine lv_iload_n hx hb dJ6_bitCount_0f7a4_34 rfl (lv_at hl 0 rfl) ?_
  refine lv_iload_n hx hb dJ6_bitCount_0f7a4_35 rfl (lv_at hl 0 rfl) ?_
  refine lv_bipush (v := 8) hx hb dJ6_bitCount_0f7a4_36 (by decide +kernel) ?_
  refine lv_iushr hx hb dJ6_bitCount_0f7a4_38 rfl ?_
  refine lv_topi (fun v_38 ev_38 => ?_)
  refine lv_iadd hx hb dJ6_bitCount_0f7a4_39 ?_
  refine lv_topi (fun v_39 ev_39 => ?_)
  refine lv_istore_n (lv' := [(0, .int v_39)]) hx hb dJ6_bitCount_0f7a4_40 rfl hl (by decide) rfl (fun ls hl => ?_)
  refine lv_iload_n hx hb dJ6_bitCount_0f7a4_41 rfl (lv_at hl 0 rfl) ?_
  refine lv_iload_n hx hb dJ6_bitCount_0f7a4_42 rfl (lv_at hl 0 rfl) ?_
  refine lv_bipush (v := 16) hx hb dJ6_bitCount_0f7a4_43 (by decide +kernel) ?_
  refine lv_iushr hx hb dJ6_bitCount_0f7a4_45 rfl ?_
  refine lv_topi (fun v_45 ev_45 => ?_)
  refine lv_iadd hx hb dJ6_bitCount_0f7a4_46 ?_
  refine lv_topi (fun v_46 ev_46 => ?_)
  refine lv_istore_n (lv' := [(0, .int v_46)]) hx hb dJ6_bitCount_0f7a4_47 rfl hl (by decide) rfl (fun ls hl => ?_)
  refine lv_iload_n hx hb dJ6_bitCount_0f7a4_48 rfl (lv_at hl 0 rfl) ?_
  refine lv_bipush (v := 63) hx hb dJ6_bitCount_0f7a4_49 (by decide +kernel) ?_
  refine lv_iand hx hb dJ6_bitCount_0f7a4_51 ?_
  refine lv_topi (fun v_51 ev_51 => ?_)
  refine W.widen (k := 0) (n := 0) (Nat.le_of_ble_eq_true rfl) (Nat.le_of_ble_eq_true rfl) ?_
  exact W.iret (v := v_51) hx hb hr (fun t ht hW => ⟨⟨v_51, (), rfl, trivial, ht⟩, hS.F ht⟩) hS.2.2 dJ6_bitCount_0f7a4_52
set_option maxHeartbeats 1000000 in
set_option maxRecDepth 100000 in
theorem mz_g_partsOf (l : Launch) (dC : Nat → ClassId) (dI : Nat → Nat → Nat) (cI cJ cZ : ClassId) (p0 : Int32) (Hq : Heap)  : Met l yX7_partsOf wsX7_partsOf ({ frames := 1, cells := 0, slots := 0, locals := 20 }) (va_Pc [.int p0] (fun U => U.heap = Hq ∧ va_P (dC, dI) vwCl [] Hq ∧ va_K (dC, dI) vwCl [(cI, FieldType.int), (cJ, FieldType.long), (cZ, FieldType.boolean)] U ∧ mz_N U)) (va_Qi (fun (r : Int32) (_ : Unit) => True) (fun _ t => t.heap = Hq) (fun _ : Nat => False)) 0 0 (fun _ : Nat => False) := by
  refine Met.ofW (cc := cX7_partsOf) (maxL := 1) (ret := (some .int)) (by decide) rfl ?_
  intro p e s m args below meth c s₁ B hml hv
  obtain ⟨rfl, hH, hP, hK, hN⟩ := hv
  subst hH
  have hx := B.exec
  have hb := B.bytes
  have hr := B.returns
  have hts := atoms_spec (ws := wsX7_partsOf) B.pre
  have hown : s.vm.findClass RX7 = some m.cls := findClass_of_methodNamed B.named
  have hlocks := B.notSynchronized
  have hS : va_S (fun _ : Nat => False) s.heap s.heap [] := va_S.rf
  have hl := lv_entry ([.int p0]) (n := 1) (Nat.le_of_ble_eq_true rfl)
  rw [lg_entry_eq]
  generalize (lg_sl ([.int p0]) ++ List.replicate (1 - (lg_sl ([.int p0])).length) Slot.unset).toArray = ls at hl ⊢
  have hl : lv_has ls 1 [(0, .int p0)] := hl
  refine lv_iconst (v := 1) hx hb dX7_partsOf_0 (by decide +kernel) ?_
  refine lv_iload_n hx hb dX7_partsOf_1 rfl (lv_at hl 0 rfl) ?_
  have hPc := hP.sub (ws' := []) [] rfl
  refine va_calli (va_runS (As := [.int p0]) (rest := [.int 1]) ⟨hx, hb, hml, hown, hts⟩ (mz_g_bitCount l dC dI cI cJ cZ p0 s.heap ) (va_cwS 1 hts gX7_partsOf_J6_bitCount_0f7a4 rfl rfl rfl (by decide +kernel) ⟨Nat.le_of_ble_eq_true rfl, Nat.le_of_ble_eq_true rfl⟩) ⟨fun a U g mk q => mz_blP q, fun U hU hW => ⟨rfl, hU, hPc, va_K.moved hW.alike hK, mz_nw hW hN⟩⟩ rfl rfl hl.1 rfl (lv_room (Nat.le_of_ble_eq_true rfl)) dX7_partsOf_2 ⟨Nat.le_of_ble_eq_true rfl, Nat.le_of_ble_eq_true rfl⟩) hS (fun q _ h => h.elim) (fun q h => h.elim) (fun r_2 u t H1 locs ht hvm hw_2 hB hz1 hk1 hS => ?_)
  have hE : s.heap = H1 := hB.symm.trans ht
  subst hE
  refine lv_ishl hx hb dX7_partsOf_5 ?_
  refine lv_topi (fun v_5 ev_5 => ?_)
  refine W.widen (k := 0) (n := 0) (Nat.le_of_ble_eq_true rfl) (Nat.le_of_ble_eq_true rfl) ?_
  exact W.iret (v := v_5) hx hb hr (fun t ht hW => ⟨⟨v_5, (), rfl, trivial, ht⟩, hS.F ht⟩) hS.2.2 dX7_partsOf_6
set_option maxHeartbeats 1000000 in
set_option maxRecDepth 100000 in
theorem mz_g_nextPart (l : Launch) (dC : Nat → ClassId) (dI : Nat → Nat → Nat) (cI cJ cZ : ClassId) (p0 : Int32) (p1 : Int32) (Hq : Heap)  : Met l yX7_nextPart wsX7_nextPart ({ frames := 0, cells := 0, slots := 0, locals := 0 }) (va_Pc [.int p0, .int p1] (fun U => U.heap = Hq ∧ va_P (dC, dI) vwCl [] Hq ∧ va_K (dC, dI) vwCl [(cI, FieldType.int), (cJ, FieldType.long), (cZ, FieldType.boolean)] U ∧ mz_N U)) (va_Qi (fun (r : Int32) (_ : Unit) => True) (fun _ t => t.heap = Hq) (fun _ : Nat => False)) 0 0 (fun _ : Nat => False) := by
  refine Met.ofW (cc := cX7_nextPart) (maxL := 2) (ret := (some .int)) (by decide) rfl ?_
  intro p e s m args below meth c s₁ B hml hv
  obtain ⟨rfl, hH, hP, hK, hN⟩ := hv
  subst hH
  have hx := B.exec
  have hb := B.bytes
  have hr := B.returns
  have hts := atoms_spec (ws := wsX7_nextPart) B.pre
  have hown : s.vm.findClass RX7 = some m.cls := findClass_of_methodNamed B.named
  have hlocks := B.notSynchronized
  have hS : va_S (fun _ : Nat => False) s.heap s.heap [] := va_S.rf
  have hl := lv_entry ([.int p0, .int p1]) (n := 2) (Nat.le_of_ble_eq_true rfl)
  rw [lg_entry_eq]
  generalize (lg_sl ([.int p0, .int p1]) ++ List.replicate (2 - (lg_sl ([.int p0, .int p1])).length) Slot.unset).toArray = ls at hl ⊢
  have hl : lv_has ls 2 [(0, .int p0), (1, .int p1)] := hl
  refine lv_iload_n hx hb dX7_nextPart_0 rfl (lv_at hl 0 rfl) ?_
  refine lv_iload_n hx hb dX7_nextPart_1 rfl (lv_at hl 1 rfl) ?_
  refine lv_isub hx hb dX7_nextPart_2 ?_
  refine lv_topi (fun v_2 ev_2 => ?_)
  refine lv_iload_n hx hb dX7_nextPart_3 rfl (lv_at hl 1 rfl) ?_
  refine lv_iand hx hb dX7_nextPart_4 ?_
  refine lv_topi (fun v_4 ev_4 => ?_)
  refine W.widen (k := 0) (n := 0) (Nat.le_of_ble_eq_true rfl) (Nat.le_of_ble_eq_true rfl) ?_
  exact W.iret (v := v_4) hx hb hr (fun t ht hW => ⟨⟨v_4, (), rfl, trivial, ht⟩, hS.F ht⟩) hS.2.2 dX7_nextPart_5
set_option maxHeartbeats 1000000 in
set_option maxRecDepth 100000 in
theorem mz_g_commonDivisor (l : Launch) (dC : Nat → ClassId) (dI : Nat → Nat → Nat) (cI cJ cZ : ClassId) (p0 : Int64) (p1 : Int64) (Hq : Heap)  : Met l yX7_commonDivisor wsX7_commonDivisor ({ frames := 1, cells := 0, slots := 0, locals := 15 }) (va_Pc [.long p0, .long p1] (fun U => U.heap = Hq ∧ va_P (dC, dI) vwCl [] Hq ∧ va_K (dC, dI) vwCl [(cI, FieldType.int), (cJ, FieldType.long), (cZ, FieldType.boolean)] U ∧ mz_N U)) (va_Ql (fun (r : Int64) (_ : Unit) => ¬ r = 0) (fun _ t => t.heap = Hq) (fun _ : Nat => False)) 0 0 (fun _ : Nat => False) := by
  refine Met.ofW (cc := cX7_commonDivisor) (maxL := 11) (ret := (some .long)) (by decide) rfl ?_
  intro p e s m args below meth c s₁ B hml hv
  obtain ⟨rfl, hH, hP, hK, hN⟩ := hv
  subst hH
  have hx := B.exec
  have hb := B.bytes
  have hr := B.returns
  have hts := atoms_spec (ws := wsX7_commonDivisor) B.pre
  have hown : s.vm.findClass RX7 = some m.cls := findClass_of_methodNamed B.named
  have hlocks := B.notSynchronized
  have hS : va_S (fun _ : Nat => False) s.heap s.heap [] := va_S.rf
  have hl := lv_entry ([.long p0, .long p1]) (n := 11) (Nat.le_of_ble_eq_true rfl)
  rw [lg_entry_eq]
  generalize (lg_sl ([.long p0, .long p1]) ++ List.replicate (11 - (lg_sl ([.long p0, .long p1])).length) Slot.unset).toArray = ls at hl ⊢
  have hl : lv_has ls 11 [(0, .long p0), (2, .long p1)] := hl
  refine lv_lload_n hx hb dX7_commonDivisor_0 rfl (lv_at hl 0 rfl) ?_
  refine lv_lstore (lv' := [(4, .long p0), (0, .long p0), (2, .long p1)]) hx hb dX7_commonDivisor_1 hl (by decide) rfl (fun ls hl => ?_)
  refine lv_lload_n hx hb dX7_commonDivisor_3 rfl (lv_at hl 2 rfl) ?_
  refine lv_lstore (lv' := [(6, .long p1), (4, .long p0), (0, .long p0), (2, .long p1)]) hx hb dX7_commonDivisor_4 hl (by decide) rfl (fun ls hl => ?_)
  refine lv_iconst (v := 0) hx hb dX7_commonDivisor_6 (by decide +kernel) ?_
  refine lv_istore (lv' := [(8, .int 0), (6, .long p1), (4, .long p0), (0, .long p0), (2, .long p1)]) hx hb dX7_commonDivisor_7 hl (by decide) rfl (fun ls hl => ?_)
  refine mz_loopU (fun k H locs ls => ∃ (i_9 : Nat), ∃ (x6_9 : Int64), ∃ (x4_9 : Int64), i_9 ≤ 100 ∧ H = s.heap ∧ va_S (fun _ : Nat => False) s.heap H locs ∧ lv_has ls 11 [(8, .int (nI i_9)), (6, .long x6_9), (4, .long x4_9), (0, .long p0), (2, .long p1)] ∧ k = 100 - i_9) ?_ _ _ _ _ ⟨0, p1, p0, by omega, rfl, hS, lv_sub hl [0, 1, 2, 3, 4] rfl, rfl⟩
  intro k_9 H locs ls hI_9 ih_9
  obtain ⟨i_9, x6_9, x4_9, hi_9, hH_9, hS, hl, hk_9⟩ := hI_9
  subst hH_9
  refine lv_iload hx hb dX7_commonDivisor_9 (lv_at hl 0 rfl) ?_
  refine lv_bipush (v := 100) hx hb dX7_commonDivisor_11 (by decide +kernel) ?_
  refine lv_icmp_ge (tgt := 44) hx hb dX7_commonDivisor_13 (by decide) (fun c_13 => ?_) (fun c_13 => ?_)
  · skip
    have d_13 : 100 ≤ i_9 := (nI_leI (a := 100) (b := i_9) (by omega) (by omega)).mp c_13
    refine lv_lconst (v := 1) hx hb dX7_commonDivisor_44 (by decide +kernel) ?_
    refine lv_lload hx hb dX7_commonDivisor_45 (lv_at hl 2 rfl) ?_
    refine va_mmax_long hx hb (by rw [hml]; exact hl.1.symm) hown (hts (.methodLink RX7 199 Lib.MathLoose.max_long.x) (by decide +kernel)) (hts (.static Lib.MathLoose.max_long.x) (by decide +kernel)) (hts (.initialized "java/lang/Math") (by decide +kernel)) (hts (.code Lib.MathLoose.max_long.x Lib.MathLoose.max_long.code 4 (some .long)) (by decide +kernel)) (Nat.le_of_ble_eq_true rfl) (Nat.le_of_ble_eq_true rfl) (Nat.le_of_ble_eq_true rfl) (Nat.le_of_ble_eq_true rfl) dX7_commonDivisor_47 ?_
    refine lv_topl (fun v_47 ev_47 => ?_)
    refine W.widen (k := 0) (n := 0) (Nat.le_of_ble_eq_true rfl) (Nat.le_of_ble_eq_true rfl) ?_
    exact W.lret (v := v_47) hx hb hr (fun t ht hW => ⟨⟨v_47, (), rfl, (by rw [ev_47]; exact mz_mx1 _), ht⟩, hS.F ht⟩) hS.2.2 dX7_commonDivisor_50
  · skip
    have d_13 : ¬ 100 ≤ i_9 := fun h => c_13 ((nI_leI (a := 100) (b := i_9) (by omega) (by omega)).mpr h)
    refine lv_lload hx hb dX7_commonDivisor_16 (lv_at hl 1 rfl) ?_
    refine lv_lconst (v := 0) hx hb dX7_commonDivisor_18 (by decide +kernel) ?_
    refine W.lcmp hx hb dX7_commonDivisor_19 ?_
    refine lv_if_eq (tgt := 44) hx hb dX7_commonDivisor_20 (by decide) (fun c_20 => ?_) (fun c_20 => ?_)
    · skip
      have d_20 := mz_lc1 c_20
      refine lv_lconst (v := 1) hx hb dX7_commonDivisor_44 (by decide +kernel) ?_
      refine lv_lload hx hb dX7_commonDivisor_45 (lv_at hl 2 rfl) ?_
      refine va_mmax_long hx hb (by rw [hml]; exact hl.1.symm) hown (hts (.methodLink RX7 199 Lib.MathLoose.max_long.x) (by decide +kernel)) (hts (.static Lib.MathLoose.max_long.x) (by decide +kernel)) (hts (.initialized "java/lang/Math") (by decide +kernel)) (hts (.code Lib.MathLoose.max_long.x Lib.MathLoose.max_long.code 4 (some .long)) (by decide +kernel)) (Nat.le_of_ble_eq_true rfl) (Nat.le_of_ble_eq_true rfl) (Nat.le_of_ble_eq_true rfl) (Nat.le_of_ble_eq_true rfl) dX7_commonDivisor_47 ?_
      refine lv_topl (fun v_47 ev_47 => ?_)
      refine W.widen (k := 0) (n := 0) (Nat.le_of_ble_eq_true rfl) (Nat.le_of_ble_eq_true rfl) ?_
      exact W.lret (v := v_47) hx hb hr (fun t ht hW => ⟨⟨v_47, (), rfl, (by rw [ev_47]; exact mz_mx1 _), ht⟩, hS.F ht⟩) hS.2.2 dX7_commonDivisor_50
    · skip
      have d_20 := mz_lc0 c_20
      refine lv_lload hx hb dX7_commonDivisor_23 (lv_at hl 2 rfl) ?_
      refine lv_lload hx hb dX7_commonDivisor_25 (lv_at hl 1 rfl) ?_
      refine lv_lrem hx hb dX7_commonDivisor_27 (by first | assumption | omega) ?_
      refine lv_topl (fun v_27 ev_27 => ?_)
      refine lv_lstore (lv' := [(9, .long v_27), (8, .int (nI i_9)), (6, .long x6_9), (4, .long x4_9), (0, .long p0), (2, .long p1)]) hx hb dX7_commonDivisor_28 hl (by decide) rfl (fun ls hl => ?_)
      refine lv_lload hx hb dX7_commonDivisor_30 (lv_at hl 2 rfl) ?_
      refine lv_lstore (lv' := [(4, .long x6_9), (9, .long v_27), (8, .int (nI i_9)), (6, .long x6_9), (0, .long p0), (2, .long p1)]) hx hb dX7_commonDivisor_32 hl (by decide) rfl (fun ls hl => ?_)
      refine lv_lload hx hb dX7_commonDivisor_34 (lv_at hl 1 rfl) ?_
      refine lv_lstore (lv' := [(6, .long v_27), (4, .long x6_9), (9, .long v_27), (8, .int (nI i_9)), (0, .long p0), (2, .long p1)]) hx hb dX7_commonDivisor_36 hl (by decide) rfl (fun ls hl => ?_)
      refine lv_iinc (v := (nI (i_9 + 1))) (lv' := [(8, .int (nI (i_9 + 1))), (6, .long v_27), (4, .long x6_9), (9, .long v_27), (0, .long p0), (2, .long p1)]) hx hb dX7_commonDivisor_38 hl (k := 3) rfl (nI_1 _) (by decide) rfl (fun ls hl => ?_)
      refine lv_goto (tgt := 9) hx hb dX7_commonDivisor_41 (by decide) ?_
      exact ih_9 _ (by omega) _ _ _ ⟨(i_9 + 1), v_27, x6_9, by omega, rfl, hS, lv_sub hl [0, 1, 2, 4, 5] rfl, rfl⟩
set_option maxHeartbeats 1000000 in
set_option maxRecDepth 100000 in
theorem mz_d_size (l : Launch) (dC : Nat → ClassId) (dI : Nat → Nat → Nat) (cI cJ cZ : ClassId) (dr : Nat) (dp : Nat) (dc : Nat) (n : Nat) (Hq : Heap)  : Met l yX2_size wsX2_size ({ frames := 0, cells := 0, slots := 0, locals := 0 }) (va_Pc [.ref dr] (fun U => U.heap = Hq ∧ va_P (dC, dI) vwCl [(dr, .inr (2, [.ref dp, .ref dc, .int (nI n)]))] Hq ∧ va_K (dC, dI) vwCl [(cI, FieldType.int), (cJ, FieldType.long), (cZ, FieldType.boolean)] U ∧ mz_N U)) (va_Qi (fun (r : Int32) (_ : Unit) => r = (nI n)) (fun _ t => t.heap = Hq) (fun _ : Nat => False)) 0 0 (fun _ : Nat => False) := by
  refine Met.ofW (cc := cX2_size) (maxL := 1) (ret := (some .int)) (by decide) rfl ?_
  intro p e s m args below meth c s₁ B hml hv
  obtain ⟨rfl, hH, hP, hK, hN⟩ := hv
  subst hH
  have hx := B.exec
  have hb := B.bytes
  have hr := B.returns
  have hts := atoms_spec (ws := wsX2_size) B.pre
  have hown : s.vm.findClass RX2 = some m.cls := findClass_of_methodNamed B.named
  have hlocks := B.notSynchronized
  have hS : va_S (fun _ : Nat => False) s.heap s.heap [] := va_S.rf
  have hiX2 : ∀ w ∈ u_ws RX2 TX2 3, w ∈ wsX2_size := by decide +kernel
  have hl := lv_entry ([.ref dr]) (n := 1) (Nat.le_of_ble_eq_true rfl)
  rw [lg_entry_eq]
  generalize (lg_sl ([.ref dr]) ++ List.replicate (1 - (lg_sl ([.ref dr])).length) Slot.unset).toArray = ls at hl ⊢
  have hl : lv_has ls 1 [(0, .ref dr)] := hl
  refine lv_aload_n hx hb dX2_size_0 rfl (lv_at hl 0 rfl) ?_
  refine va_get (D := (dC, dI)) (ci := 2) (v := .int (nI n)) (C := RX2) (T := TX2) (N := 3) hx hb hts hiX2 hown hK hP 0 rfl rfl 2 (by decide) (hts (.fieldLink RX2 18 "MadeItSo$Drawing" "things" "I") (by decide +kernel)) (fun _ h9 => h9) rfl dX2_size_1 ?_
  refine W.widen (k := 0) (n := 0) (Nat.le_of_ble_eq_true rfl) (Nat.le_of_ble_eq_true rfl) ?_
  exact W.iret (v := (nI n)) hx hb hr (fun t ht hW => ⟨⟨(nI n), (), rfl, rfl, ht⟩, hS.F ht⟩) hS.2.2 dX2_size_4
set_option maxHeartbeats 1000000 in
set_option maxRecDepth 100000 in
theorem mz_d_has_in (l : Launch) (dC : Nat → ClassId) (dI : Nat → Nat → Nat) (cI cJ cZ : ClassId) (dr : Nat) (dp : Nat) (dc : Nat) (n : Nat) (j : Nat) (Hq : Heap) (hn : n ≤ 8) (hj : j < n) : Met l yX2_has wsX2_has ({ frames := 0, cells := 0, slots := 0, locals := 0 }) (va_Pc [.ref dr, .int (nI j)] (fun U => U.heap = Hq ∧ va_P (dC, dI) vwCl [(dr, .inr (2, [.ref dp, .ref dc, .int (nI n)]))] Hq ∧ va_K (dC, dI) vwCl [(cI, FieldType.int), (cJ, FieldType.long), (cZ, FieldType.boolean)] U ∧ mz_N U)) (va_Qi (fun (r : Int32) (_ : Unit) => r = 1) (fun _ t => t.heap = Hq) (fun _ : Nat => False)) 0 0 (fun _ : Nat => False) := by
  refine Met.ofW (cc := cX2_has) (maxL := 2) (ret := (some .boolean)) (by decide) rfl ?_
  intro p e s m args below meth c s₁ B hml hv
  obtain ⟨rfl, hH, hP, hK, hN⟩ := hv
  subst hH
  have hx := B.exec
  have hb := B.bytes
  have hr := B.returns
  have hts := atoms_spec (ws := wsX2_has) B.pre
  have hown : s.vm.findClass RX2 = some m.cls := findClass_of_methodNamed B.named
  have hlocks := B.notSynchronized
  have hS : va_S (fun _ : Nat => False) s.heap s.heap [] := va_S.rf
  have hiX2 : ∀ w ∈ u_ws RX2 TX2 3, w ∈ wsX2_has := by decide +kernel
  have hl := lv_entry ([.ref dr, .int (nI j)]) (n := 2) (Nat.le_of_ble_eq_true rfl)
  rw [lg_entry_eq]
  generalize (lg_sl ([.ref dr, .int (nI j)]) ++ List.replicate (2 - (lg_sl ([.ref dr, .int (nI j)])).length) Slot.unset).toArray = ls at hl ⊢
  have hl : lv_has ls 2 [(0, .ref dr), (1, .int (nI j))] := hl
  refine lv_iload_n hx hb dX2_has_0 rfl (lv_at hl 1 rfl) ?_
  refine lv_if_lt (tgt := 16) hx hb dX2_has_1 (by decide) (fun c_1 => absurd c_1 (nI_pos (by omega))) (fun _ => ?_)
  refine lv_iload_n hx hb dX2_has_4 rfl (lv_at hl 1 rfl) ?_
  refine lv_aload_n hx hb dX2_has_5 rfl (lv_at hl 0 rfl) ?_
  refine va_get (D := (dC, dI)) (ci := 2) (v := .int (nI n)) (C := RX2) (T := TX2) (N := 3) hx hb hts hiX2 hown hK hP 0 rfl rfl 2 (by decide) (hts (.fieldLink RX2 18 "MadeItSo$Drawing" "things" "I") (by decide +kernel)) (fun _ h9 => h9) rfl dX2_has_6 ?_
  refine lv_icmp_ge (tgt := 16) hx hb dX2_has_9 (by decide) (fun c_9 => absurd c_9 (fun h => absurd ((nI_leI (by omega) (by omega)).mp h) (by omega))) (fun _ => ?_)
  refine lv_iconst (v := 1) hx hb dX2_has_12 (by decide +kernel) ?_
  refine lv_goto (tgt := 17) hx hb dX2_has_13 (by decide) ?_
  refine W.widen (k := 0) (n := 0) (Nat.le_of_ble_eq_true rfl) (Nat.le_of_ble_eq_true rfl) ?_
  exact W.zret (v := 1) hx hb hr (mz_nz (by decide +kernel)) (fun t ht hW => ⟨⟨1, (), rfl, rfl, ht⟩, hS.F ht⟩) hS.2.2 dX2_has_17
set_option maxHeartbeats 1000000 in
set_option maxRecDepth 100000 in
theorem mz_d_has (l : Launch) (dC : Nat → ClassId) (dI : Nat → Nat → Nat) (cI cJ cZ : ClassId) (dr : Nat) (dp : Nat) (dc : Nat) (n : Nat) (p0 : Int32) (Hq : Heap) (hn : n ≤ 8) : Met l yX2_has wsX2_has ({ frames := 0, cells := 0, slots := 0, locals := 0 }) (va_Pc [.ref dr, .int p0] (fun U => U.heap = Hq ∧ va_P (dC, dI) vwCl [(dr, .inr (2, [.ref dp, .ref dc, .int (nI n)]))] Hq ∧ va_K (dC, dI) vwCl [(cI, FieldType.int), (cJ, FieldType.long), (cZ, FieldType.boolean)] U ∧ mz_N U)) (va_Qi (fun (r : Int32) (_ : Unit) => (r = 1 ∧ ∃ j : Nat, j < n ∧ p0 = nI j) ∨ r = 0) (fun _ t => t.heap = Hq) (fun _ : Nat => False)) 0 0 (fun _ : Nat => False) := by
  refine Met.ofW (cc := cX2_has) (maxL := 2) (ret := (some .boolean)) (by decide) rfl ?_
  intro p e s m args below meth c s₁ B hml hv
  obtain ⟨rfl, hH, hP, hK, hN⟩ := hv
  subst hH
  have hx := B.exec
  have hb := B.bytes
  have hr := B.returns
  have hts := atoms_spec (ws := wsX2_has) B.pre
  have hown : s.vm.findClass RX2 = some m.cls := findClass_of_methodNamed B.named
  have hlocks := B.notSynchronized
  have hS : va_S (fun _ : Nat => False) s.heap s.heap [] := va_S.rf
  have hiX2 : ∀ w ∈ u_ws RX2 TX2 3, w ∈ wsX2_has := by decide +kernel
  have hl := lv_entry ([.ref dr, .int p0]) (n := 2) (Nat.le_of_ble_eq_true rfl)
  rw [lg_entry_eq]
  generalize (lg_sl ([.ref dr, .int p0]) ++ List.replicate (2 - (lg_sl ([.ref dr, .int p0])).length) Slot.unset).toArray = ls at hl ⊢
  have hl : lv_has ls 2 [(0, .ref dr), (1, .int p0)] := hl
  refine lv_iload_n hx hb dX2_has_0 rfl (lv_at hl 1 rfl) ?_
  refine lv_if_lt (tgt := 16) hx hb dX2_has_1 (by decide) (fun c_1 => ?_) (fun c_1 => ?_)
  · skip
    refine lv_iconst (v := 0) hx hb dX2_has_16 (by decide +kernel) ?_
    refine W.widen (k := 0) (n := 0) (Nat.le_of_ble_eq_true rfl) (Nat.le_of_ble_eq_true rfl) ?_
    exact W.zret (v := 0) hx hb hr (mz_nz (by decide +kernel)) (fun t ht hW => ⟨⟨0, (), rfl, Or.inr rfl, ht⟩, hS.F ht⟩) hS.2.2 dX2_has_17
  · skip
    refine lv_iload_n hx hb dX2_has_4 rfl (lv_at hl 1 rfl) ?_
    refine lv_aload_n hx hb dX2_has_5 rfl (lv_at hl 0 rfl) ?_
    refine va_get (D := (dC, dI)) (ci := 2) (v := .int (nI n)) (C := RX2) (T := TX2) (N := 3) hx hb hts hiX2 hown hK hP 0 rfl rfl 2 (by decide) (hts (.fieldLink RX2 18 "MadeItSo$Drawing" "things" "I") (by decide +kernel)) (fun _ h9 => h9) rfl dX2_has_6 ?_
    refine lv_icmp_ge (tgt := 16) hx hb dX2_has_9 (by decide) (fun c_9 => ?_) (fun c_9 => ?_)
    · skip
      refine lv_iconst (v := 0) hx hb dX2_has_16 (by decide +kernel) ?_
      refine W.widen (k := 0) (n := 0) (Nat.le_of_ble_eq_true rfl) (Nat.le_of_ble_eq_true rfl) ?_
      exact W.zret (v := 0) hx hb hr (mz_nz (by decide +kernel)) (fun t ht hW => ⟨⟨0, (), rfl, Or.inr rfl, ht⟩, hS.F ht⟩) hS.2.2 dX2_has_17
    · skip
      refine lv_iconst (v := 1) hx hb dX2_has_12 (by decide +kernel) ?_
      refine lv_goto (tgt := 17) hx hb dX2_has_13 (by decide) ?_
      refine W.widen (k := 0) (n := 0) (Nat.le_of_ble_eq_true rfl) (Nat.le_of_ble_eq_true rfl) ?_
      exact W.zret (v := 1) hx hb hr (mz_nz (by decide +kernel)) (fun t ht hW => ⟨⟨1, (), rfl, Or.inl ⟨rfl, mz_ix c_1 c_9 (by omega)⟩, ht⟩, hS.F ht⟩) hS.2.2 dX2_has_17
set_option maxHeartbeats 1000000 in
set_option maxRecDepth 100000 in
theorem mz_d_everything (l : Launch) (dC : Nat → ClassId) (dI : Nat → Nat → Nat) (cI cJ cZ : ClassId) (dr : Nat) (dp : Nat) (dc : Nat) (n : Nat) (Hq : Heap)  : Met l yX2_everything wsX2_everything ({ frames := 0, cells := 0, slots := 0, locals := 0 }) (va_Pc [.ref dr] (fun U => U.heap = Hq ∧ va_P (dC, dI) vwCl [(dr, .inr (2, [.ref dp, .ref dc, .int (nI n)]))] Hq ∧ va_K (dC, dI) vwCl [(cI, FieldType.int), (cJ, FieldType.long), (cZ, FieldType.boolean)] U ∧ mz_N U)) (va_Qi (fun (r : Int32) (_ : Unit) => True) (fun _ t => t.heap = Hq) (fun _ : Nat => False)) 0 0 (fun _ : Nat => False) := by
  refine Met.ofW (cc := cX2_everything) (maxL := 1) (ret := (some .int)) (by decide) rfl ?_
  intro p e s m args below meth c s₁ B hml hv
  obtain ⟨rfl, hH, hP, hK, hN⟩ := hv
  subst hH
  have hx := B.exec
  have hb := B.bytes
  have hr := B.returns
  have hts := atoms_spec (ws := wsX2_everything) B.pre
  have hown : s.vm.findClass RX2 = some m.cls := findClass_of_methodNamed B.named
  have hlocks := B.notSynchronized
  have hS : va_S (fun _ : Nat => False) s.heap s.heap [] := va_S.rf
  have hiX2 : ∀ w ∈ u_ws RX2 TX2 3, w ∈ wsX2_everything := by decide +kernel
  have hl := lv_entry ([.ref dr]) (n := 1) (Nat.le_of_ble_eq_true rfl)
  rw [lg_entry_eq]
  generalize (lg_sl ([.ref dr]) ++ List.replicate (1 - (lg_sl ([.ref dr])).length) Slot.unset).toArray = ls at hl ⊢
  have hl : lv_has ls 1 [(0, .ref dr)] := hl
  refine lv_iconst (v := 1) hx hb dX2_everything_0 (by decide +kernel) ?_
  refine lv_aload_n hx hb dX2_everything_1 rfl (lv_at hl 0 rfl) ?_
  refine va_get (D := (dC, dI)) (ci := 2) (v := .int (nI n)) (C := RX2) (T := TX2) (N := 3) hx hb hts hiX2 hown hK hP 0 rfl rfl 2 (by decide) (hts (.fieldLink RX2 18 "MadeItSo$Drawing" "things" "I") (by decide +kernel)) (fun _ h9 => h9) rfl dX2_everything_2 ?_
  refine lv_ishl hx hb dX2_everything_5 ?_
  refine lv_topi (fun v_5 ev_5 => ?_)
  refine lv_iconst (v := 1) hx hb dX2_everything_6 (by decide +kernel) ?_
  refine lv_isub hx hb dX2_everything_7 ?_
  refine lv_topi (fun v_7 ev_7 => ?_)
  refine W.widen (k := 0) (n := 0) (Nat.le_of_ble_eq_true rfl) (Nat.le_of_ble_eq_true rfl) ?_
  exact W.iret (v := v_7) hx hb hr (fun t ht hW => ⟨⟨v_7, (), rfl, trivial, ht⟩, hS.F ht⟩) hS.2.2 dX2_everything_8
set_option maxHeartbeats 1000000 in
set_option maxRecDepth 100000 in
theorem mz_d_parentsOf (l : Launch) (dC : Nat → ClassId) (dI : Nat → Nat → Nat) (cI cJ cZ : ClassId) (dr : Nat) (dp : Nat) (dc : Nat) (n : Nat) (fp : Nat → Int32) (p0 : Int32) (Hq : Heap) (hn : n ≤ 8) : Met l yX2_parentsOf wsX2_parentsOf ({ frames := 1, cells := 0, slots := 0, locals := 21 }) (va_Pc [.ref dr, .int p0] (fun U => U.heap = Hq ∧ va_P (dC, dI) vwCl [(dr, .inr (2, [.ref dp, .ref dc, .int (nI n)])), (dp, .inl (cI, 8, .inl fp))] Hq ∧ va_K (dC, dI) vwCl [(cI, FieldType.int), (cJ, FieldType.long), (cZ, FieldType.boolean)] U ∧ mz_N U)) (va_Qi (fun (r : Int32) (_ : Unit) => True) (fun _ t => t.heap = Hq) (fun _ : Nat => False)) 0 0 (fun _ : Nat => False) := by
  refine Met.ofW (cc := cX2_parentsOf) (maxL := 2) (ret := (some .int)) (by decide) rfl ?_
  intro p e s m args below meth c s₁ B hml hv
  obtain ⟨rfl, hH, hP, hK, hN⟩ := hv
  subst hH
  have hx := B.exec
  have hb := B.bytes
  have hr := B.returns
  have hts := atoms_spec (ws := wsX2_parentsOf) B.pre
  have hown : s.vm.findClass RX2 = some m.cls := findClass_of_methodNamed B.named
  have hlocks := B.notSynchronized
  have hS : va_S (fun _ : Nat => False) s.heap s.heap [] := va_S.rf
  have hiX2 : ∀ w ∈ u_ws RX2 TX2 3, w ∈ wsX2_parentsOf := by decide +kernel
  have hl := lv_entry ([.ref dr, .int p0]) (n := 2) (Nat.le_of_ble_eq_true rfl)
  rw [lg_entry_eq]
  generalize (lg_sl ([.ref dr, .int p0]) ++ List.replicate (2 - (lg_sl ([.ref dr, .int p0])).length) Slot.unset).toArray = ls at hl ⊢
  have hl : lv_has ls 2 [(0, .ref dr), (1, .int p0)] := hl
  refine lv_aload_n hx hb dX2_parentsOf_0 rfl (lv_at hl 0 rfl) ?_
  refine lv_iload_n hx hb dX2_parentsOf_1 rfl (lv_at hl 1 rfl) ?_
  have hPc := hP.sub (ws' := [(dr, .inr (2, [.ref dp, .ref dc, .int (nI n)]))]) [0] rfl
  refine va_calli (va_runV (As := [.int p0]) (rest := []) ⟨hx, hb, hml, hown, hts⟩ (mz_d_has l dC dI cI cJ cZ dr dp dc n p0 s.heap (by first | assumption | omega)) (cwV 1 hts gX2_parentsOf_X2_has rfl rfl rfl (by decide +kernel) ⟨Nat.le_of_ble_eq_true rfl, Nat.le_of_ble_eq_true rfl⟩) ⟨fun a U g mk q => mz_blP q, va_recv hK hPc (ci := 2) (q0 := 0) rfl rfl, fun U hU hW => ⟨rfl, hU, hPc, va_K.moved hW.alike hK, mz_nw hW hN⟩⟩ rfl rfl hl.1 rfl (lv_room (Nat.le_of_ble_eq_true rfl)) dX2_parentsOf_2 ⟨Nat.le_of_ble_eq_true rfl, Nat.le_of_ble_eq_true rfl⟩) hS (fun q _ h => h.elim) (fun q h => h.elim) (fun r_2 u t H1 locs ht hvm hw_2 hB hz1 hk1 hS => ?_)
  have hE : s.heap = H1 := hB.symm.trans ht
  subst hE
  rcases (show (r_2 = 1 ∧ ∃ j : Nat, j < n ∧ p0 = nI j) ∨ r_2 = 0 from hw_2) with ⟨rfl, j_2, hj_2, he_2⟩ | rfl
  · skip
    subst he_2
    refine lv_if_eq (tgt := 17) hx hb dX2_parentsOf_5 (by decide) (fun c_5 => absurd c_5 (by decide +kernel)) (fun _ => ?_)
    refine lv_aload_n hx hb dX2_parentsOf_8 rfl (lv_at hl 0 rfl) ?_
    refine va_get (D := (dC, dI)) (ci := 2) (v := .ref dp) (C := RX2) (T := TX2) (N := 3) hx hb hts hiX2 hown hK hP 0 rfl rfl 0 (by decide) (hts (.fieldLink RX2 9 "MadeItSo$Drawing" "parents" "[I") (by decide +kernel)) (fun _ h9 => h9) rfl dX2_parentsOf_9 ?_
    refine lv_iload_n hx hb dX2_parentsOf_12 rfl (lv_at hl 1 rfl) ?_
    refine va_iald hx hb hK hP 1 0 rfl rfl (vp_in_nI (by omega) (by omega)) dX2_parentsOf_13 ?_
    refine lv_topi (fun v_13 ev_13 => ?_)
    refine lv_goto (tgt := 18) hx hb dX2_parentsOf_14 (by decide) ?_
    refine W.widen (k := 0) (n := 0) (Nat.le_of_ble_eq_true rfl) (Nat.le_of_ble_eq_true rfl) ?_
    exact W.iret (v := v_13) hx hb hr (fun t ht hW => ⟨⟨v_13, (), rfl, trivial, ht⟩, hS.F ht⟩) hS.2.2 dX2_parentsOf_18
  · skip
    refine lv_if_eq (tgt := 17) hx hb dX2_parentsOf_5 (by decide) (fun _ => ?_) (fun c_5 => absurd (by decide +kernel) c_5)
    refine lv_iconst (v := 0) hx hb dX2_parentsOf_17 (by decide +kernel) ?_
    refine W.widen (k := 0) (n := 0) (Nat.le_of_ble_eq_true rfl) (Nat.le_of_ble_eq_true rfl) ?_
    exact W.iret (v := 0) hx hb hr (fun t ht hW => ⟨⟨0, (), rfl, trivial, ht⟩, hS.F ht⟩) hS.2.2 dX2_parentsOf_18
set_option maxHeartbeats 1000000 in
set_option maxRecDepth 100000 in
theorem mz_d_childrenOf (l : Launch) (dC : Nat → ClassId) (dI : Nat → Nat → Nat) (cI cJ cZ : ClassId) (dr : Nat) (dp : Nat) (dc : Nat) (n : Nat) (fc : Nat → Int32) (p0 : Int32) (Hq : Heap) (hn : n ≤ 8) : Met l yX2_childrenOf wsX2_childrenOf ({ frames := 1, cells := 0, slots := 0, locals := 21 }) (va_Pc [.ref dr, .int p0] (fun U => U.heap = Hq ∧ va_P (dC, dI) vwCl [(dr, .inr (2, [.ref dp, .ref dc, .int (nI n)])), (dc, .inl (cI, 8, .inl fc))] Hq ∧ va_K (dC, dI) vwCl [(cI, FieldType.int), (cJ, FieldType.long), (cZ, FieldType.boolean)] U ∧ mz_N U)) (va_Qi (fun (r : Int32) (_ : Unit) => True) (fun _ t => t.heap = Hq) (fun _ : Nat => False)) 0 0 (fun _ : Nat => False) := by
  refine Met.ofW (cc := cX2_childrenOf) (maxL := 2) (ret := (some .int)) (by decide) rfl ?_
  intro p e s m args below meth c s₁ B hml hv
  obtain ⟨rfl, hH, hP, hK, hN⟩ := hv
  subst hH
  have hx := B.exec
  have hb := B.bytes
  have hr := B.returns
  have hts := atoms_spec (ws := wsX2_childrenOf) B.pre
  have hown : s.vm.findClass RX2 = some m.cls := findClass_of_methodNamed B.named
  have hlocks := B.notSynchronized
  have hS : va_S (fun _ : Nat => False) s.heap s.heap [] := va_S.rf
  have hiX2 : ∀ w ∈ u_ws RX2 TX2 3, w ∈ wsX2_childrenOf := by decide +kernel
  have hl := lv_entry ([.ref dr, .int p0]) (n := 2) (Nat.le_of_ble_eq_true rfl)
  rw [lg_entry_eq]
  generalize (lg_sl ([.ref dr, .int p0]) ++ List.replicate (2 - (lg_sl ([.ref dr, .int p0])).length) Slot.unset).toArray = ls at hl ⊢
  have hl : lv_has ls 2 [(0, .ref dr), (1, .int p0)] := hl
  refine lv_aload_n hx hb dX2_childrenOf_0 rfl (lv_at hl 0 rfl) ?_
  refine lv_iload_n hx hb dX2_childrenOf_1 rfl (lv_at hl 1 rfl) ?_
  have hPc := hP.sub (ws' := [(dr, .inr (2, [.ref dp, .ref dc, .int (nI n)]))]) [0] rfl
  refine va_calli (va_runV (As := [.int p0]) (rest := []) ⟨hx, hb, hml, hown, hts⟩ (mz_d_has l dC dI cI cJ cZ dr dp dc n p0 s.heap (by first | assumption | omega)) (cwV 1 hts gX2_childrenOf_X2_has rfl rfl rfl (by decide +kernel) ⟨Nat.le_of_ble_eq_true rfl, Nat.le_of_ble_eq_true rfl⟩) ⟨fun a U g mk q => mz_blP q, va_recv hK hPc (ci := 2) (q0 := 0) rfl rfl, fun U hU hW => ⟨rfl, hU, hPc, va_K.moved hW.alike hK, mz_nw hW hN⟩⟩ rfl rfl hl.1 rfl (lv_room (Nat.le_of_ble_eq_true rfl)) dX2_childrenOf_2 ⟨Nat.le_of_ble_eq_true rfl, Nat.le_of_ble_eq_true rfl⟩) hS (fun q _ h => h.elim) (fun q h => h.elim) (fun r_2 u t H1 locs ht hvm hw_2 hB hz1 hk1 hS => ?_)
  have hE : s.heap = H1 := hB.symm.trans ht
  subst hE
  rcases (show (r_2 = 1 ∧ ∃ j : Nat, j < n ∧ p0 = nI j) ∨ r_2 = 0 from hw_2) with ⟨rfl, j_2, hj_2, he_2⟩ | rfl
  · skip
    subst he_2
    refine lv_if_eq (tgt := 17) hx hb dX2_childrenOf_5 (by decide) (fun c_5 => absurd c_5 (by decide +kernel)) (fun _ => ?_)
    refine lv_aload_n hx hb dX2_childrenOf_8 rfl (lv_at hl 0 rfl) ?_
    refine va_get (D := (dC, dI)) (ci := 2) (v := .ref dc) (C := RX2) (T := TX2) (N := 3) hx hb hts hiX2 hown hK hP 0 rfl rfl 1 (by decide) (hts (.fieldLink RX2 15 "MadeItSo$Drawing" "children" "[I") (by decide +kernel)) (fun _ h9 => h9) rfl dX2_childrenOf_9 ?_
    refine lv_iload_n hx hb dX2_childrenOf_12 rfl (lv_at hl 1 rfl) ?_
    refine va_iald hx hb hK hP 1 0 rfl rfl (vp_in_nI (by omega) (by omega)) dX2_childrenOf_13 ?_
    refine lv_topi (fun v_13 ev_13 => ?_)
    refine lv_goto (tgt := 18) hx hb dX2_childrenOf_14 (by decide) ?_
    refine W.widen (k := 0) (n := 0) (Nat.le_of_ble_eq_true rfl) (Nat.le_of_ble_eq_true rfl) ?_
    exact W.iret (v := v_13) hx hb hr (fun t ht hW => ⟨⟨v_13, (), rfl, trivial, ht⟩, hS.F ht⟩) hS.2.2 dX2_childrenOf_18
  · skip
    refine lv_if_eq (tgt := 17) hx hb dX2_childrenOf_5 (by decide) (fun _ => ?_) (fun c_5 => absurd (by decide +kernel) c_5)
    refine lv_iconst (v := 0) hx hb dX2_childrenOf_17 (by decide +kernel) ?_
    refine W.widen (k := 0) (n := 0) (Nat.le_of_ble_eq_true rfl) (Nat.le_of_ble_eq_true rfl) ?_
    exact W.iret (v := 0) hx hb hr (fun t ht hW => ⟨⟨0, (), rfl, trivial, ht⟩, hS.F ht⟩) hS.2.2 dX2_childrenOf_18
set_option maxHeartbeats 1000000 in
set_option maxRecDepth 100000 in
theorem mz_d_joinedTo (l : Launch) (dC : Nat → ClassId) (dI : Nat → Nat → Nat) (cI cJ cZ : ClassId) (dr : Nat) (dp : Nat) (dc : Nat) (n : Nat) (fp : Nat → Int32) (fc : Nat → Int32) (p0 : Int32) (Hq : Heap) (hn : n ≤ 8) : Met l yX2_joinedTo wsX2_joinedTo ({ frames := 1, cells := 0, slots := 0, locals := 21 }) (va_Pc [.ref dr, .int p0] (fun U => U.heap = Hq ∧ va_P (dC, dI) vwCl [(dr, .inr (2, [.ref dp, .ref dc, .int (nI n)])), (dp, .inl (cI, 8, .inl fp)), (dc, .inl (cI, 8, .inl fc))] Hq ∧ va_K (dC, dI) vwCl [(cI, FieldType.int), (cJ, FieldType.long), (cZ, FieldType.boolean)] U ∧ mz_N U)) (va_Qi (fun (r : Int32) (_ : Unit) => True) (fun _ t => t.heap = Hq) (fun _ : Nat => False)) 0 0 (fun _ : Nat => False) := by
  refine Met.ofW (cc := cX2_joinedTo) (maxL := 2) (ret := (some .int)) (by decide) rfl ?_
  intro p e s m args below meth c s₁ B hml hv
  obtain ⟨rfl, hH, hP, hK, hN⟩ := hv
  subst hH
  have hx := B.exec
  have hb := B.bytes
  have hr := B.returns
  have hts := atoms_spec (ws := wsX2_joinedTo) B.pre
  have hown : s.vm.findClass RX2 = some m.cls := findClass_of_methodNamed B.named
  have hlocks := B.notSynchronized
  have hS : va_S (fun _ : Nat => False) s.heap s.heap [] := va_S.rf
  have hiX2 : ∀ w ∈ u_ws RX2 TX2 3, w ∈ wsX2_joinedTo := by decide +kernel
  have hl := lv_entry ([.ref dr, .int p0]) (n := 2) (Nat.le_of_ble_eq_true rfl)
  rw [lg_entry_eq]
  generalize (lg_sl ([.ref dr, .int p0]) ++ List.replicate (2 - (lg_sl ([.ref dr, .int p0])).length) Slot.unset).toArray = ls at hl ⊢
  have hl : lv_has ls 2 [(0, .ref dr), (1, .int p0)] := hl
  refine lv_aload_n hx hb dX2_joinedTo_0 rfl (lv_at hl 0 rfl) ?_
  refine lv_iload_n hx hb dX2_joinedTo_1 rfl (lv_at hl 1 rfl) ?_
  have hPc := hP.sub (ws' := [(dr, .inr (2, [.ref dp, .ref dc, .int (nI n)]))]) [0] rfl
  refine va_calli (va_runV (As := [.int p0]) (rest := []) ⟨hx, hb, hml, hown, hts⟩ (mz_d_has l dC dI cI cJ cZ dr dp dc n p0 s.heap (by first | assumption | omega)) (cwV 1 hts gX2_joinedTo_X2_has rfl rfl rfl (by decide +kernel) ⟨Nat.le_of_ble_eq_true rfl, Nat.le_of_ble_eq_true rfl⟩) ⟨fun a U g mk q => mz_blP q, va_recv hK hPc (ci := 2) (q0 := 0) rfl rfl, fun U hU hW => ⟨rfl, hU, hPc, va_K.moved hW.alike hK, mz_nw hW hN⟩⟩ rfl rfl hl.1 rfl (lv_room (Nat.le_of_ble_eq_true rfl)) dX2_joinedTo_2 ⟨Nat.le_of_ble_eq_true rfl, Nat.le_of_ble_eq_true rfl⟩) hS (fun q _ h => h.elim) (fun q h => h.elim) (fun r_2 u t H1 locs ht hvm hw_2 hB hz1 hk1 hS => ?_)
  have hE : s.heap = H1 := hB.symm.trans ht
  subst hE
  rcases (show (r_2 = 1 ∧ ∃ j : Nat, j < n ∧ p0 = nI j) ∨ r_2 = 0 from hw_2) with ⟨rfl, j_2, hj_2, he_2⟩ | rfl
  · skip
    subst he_2
    refine lv_if_eq (tgt := 24) hx hb dX2_joinedTo_5 (by decide) (fun c_5 => absurd c_5 (by decide +kernel)) (fun _ => ?_)
    refine lv_aload_n hx hb dX2_joinedTo_8 rfl (lv_at hl 0 rfl) ?_
    refine va_get (D := (dC, dI)) (ci := 2) (v := .ref dp) (C := RX2) (T := TX2) (N := 3) hx hb hts hiX2 hown hK hP 0 rfl rfl 0 (by decide) (hts (.fieldLink RX2 9 "MadeItSo$Drawing" "parents" "[I") (by decide +kernel)) (fun _ h9 => h9) rfl dX2_joinedTo_9 ?_
    refine lv_iload_n hx hb dX2_joinedTo_12 rfl (lv_at hl 1 rfl) ?_
    refine va_iald hx hb hK hP 1 0 rfl rfl (vp_in_nI (by omega) (by omega)) dX2_joinedTo_13 ?_
    refine lv_topi (fun v_13 ev_13 => ?_)
    refine lv_aload_n hx hb dX2_joinedTo_14 rfl (lv_at hl 0 rfl) ?_
    refine va_get (D := (dC, dI)) (ci := 2) (v := .ref dc) (C := RX2) (T := TX2) (N := 3) hx hb hts hiX2 hown hK hP 0 rfl rfl 1 (by decide) (hts (.fieldLink RX2 15 "MadeItSo$Drawing" "children" "[I") (by decide +kernel)) (fun _ h9 => h9) rfl dX2_joinedTo_15 ?_
    refine lv_iload_n hx hb dX2_joinedTo_18 rfl (lv_at hl 1 rfl) ?_
    refine va_iald hx hb hK hP 2 0 rfl rfl (vp_in_nI (by omega) (by omega)) dX2_joinedTo_19 ?_
    refine lv_topi (fun v_19 ev_19 => ?_)
    refine lv_ior hx hb dX2_joinedTo_20 ?_
    refine lv_topi (fun v_20 ev_20 => ?_)
    refine lv_goto (tgt := 25) hx hb dX2_joinedTo_21 (by decide) ?_
    refine W.widen (k := 0) (n := 0) (Nat.le_of_ble_eq_true rfl) (Nat.le_of_ble_eq_true rfl) ?_
    exact W.iret (v := v_20) hx hb hr (fun t ht hW => ⟨⟨v_20, (), rfl, trivial, ht⟩, hS.F ht⟩) hS.2.2 dX2_joinedTo_25
  · skip
    refine lv_if_eq (tgt := 24) hx hb dX2_joinedTo_5 (by decide) (fun _ => ?_) (fun c_5 => absurd (by decide +kernel) c_5)
    refine lv_iconst (v := 0) hx hb dX2_joinedTo_24 (by decide +kernel) ?_
    refine W.widen (k := 0) (n := 0) (Nat.le_of_ble_eq_true rfl) (Nat.le_of_ble_eq_true rfl) ?_
    exact W.iret (v := 0) hx hb hr (fun t ht hW => ⟨⟨0, (), rfl, trivial, ht⟩, hS.F ht⟩) hS.2.2 dX2_joinedTo_25
set_option maxHeartbeats 1000000 in
set_option maxRecDepth 100000 in
theorem mz_d_leads (l : Launch) (dC : Nat → ClassId) (dI : Nat → Nat → Nat) (cI cJ cZ : ClassId) (dr : Nat) (dp : Nat) (dc : Nat) (n : Nat) (fc : Nat → Int32) (p0 : Int32) (p1 : Int32) (Hq : Heap) (hn : n ≤ 8) : Met l yX2_leads wsX2_leads ({ frames := 1, cells := 0, slots := 0, locals := 21 }) (va_Pc [.ref dr, .int p0, .int p1] (fun U => U.heap = Hq ∧ va_P (dC, dI) vwCl [(dr, .inr (2, [.ref dp, .ref dc, .int (nI n)])), (dc, .inl (cI, 8, .inl fc))] Hq ∧ va_K (dC, dI) vwCl [(cI, FieldType.int), (cJ, FieldType.long), (cZ, FieldType.boolean)] U ∧ mz_N U)) (va_Qi (fun (r : Int32) (_ : Unit) => r = 0 ∨ r = 1) (fun _ t => t.heap = Hq) (fun _ : Nat => False)) 0 0 (fun _ : Nat => False) := by
  refine Met.ofW (cc := cX2_leads) (maxL := 3) (ret := (some .boolean)) (by decide) rfl ?_
  intro p e s m args below meth c s₁ B hml hv
  obtain ⟨rfl, hH, hP, hK, hN⟩ := hv
  subst hH
  have hx := B.exec
  have hb := B.bytes
  have hr := B.returns
  have hts := atoms_spec (ws := wsX2_leads) B.pre
  have hown : s.vm.findClass RX2 = some m.cls := findClass_of_methodNamed B.named
  have hlocks := B.notSynchronized
  have hS : va_S (fun _ : Nat => False) s.heap s.heap [] := va_S.rf
  have hiX2 : ∀ w ∈ u_ws RX2 TX2 3, w ∈ wsX2_leads := by decide +kernel
  have hl := lv_entry ([.ref dr, .int p0, .int p1]) (n := 3) (Nat.le_of_ble_eq_true rfl)
  rw [lg_entry_eq]
  generalize (lg_sl ([.ref dr, .int p0, .int p1]) ++ List.replicate (3 - (lg_sl ([.ref dr, .int p0, .int p1])).length) Slot.unset).toArray = ls at hl ⊢
  have hl : lv_has ls 3 [(0, .ref dr), (1, .int p0), (2, .int p1)] := hl
  refine lv_aload_n hx hb dX2_leads_0 rfl (lv_at hl 0 rfl) ?_
  refine lv_iload_n hx hb dX2_leads_1 rfl (lv_at hl 1 rfl) ?_
  have hPc := hP.sub (ws' := [(dr, .inr (2, [.ref dp, .ref dc, .int (nI n)]))]) [0] rfl
  refine va_calli (va_runV (As := [.int p0]) (rest := []) ⟨hx, hb, hml, hown, hts⟩ (mz_d_has l dC dI cI cJ cZ dr dp dc n p0 s.heap (by first | assumption | omega)) (cwV 1 hts gX2_leads_X2_has rfl rfl rfl (by decide +kernel) ⟨Nat.le_of_ble_eq_true rfl, Nat.le_of_ble_eq_true rfl⟩) ⟨fun a U g mk q => mz_blP q, va_recv hK hPc (ci := 2) (q0 := 0) rfl rfl, fun U hU hW => ⟨rfl, hU, hPc, va_K.moved hW.alike hK, mz_nw hW hN⟩⟩ rfl rfl hl.1 rfl (lv_room (Nat.le_of_ble_eq_true rfl)) dX2_leads_2 ⟨Nat.le_of_ble_eq_true rfl, Nat.le_of_ble_eq_true rfl⟩) hS (fun q _ h => h.elim) (fun q h => h.elim) (fun r_2 u t H1 locs ht hvm hw_2 hB hz1 hk1 hS => ?_)
  have hE : s.heap = H1 := hB.symm.trans ht
  subst hE
  rcases (show (r_2 = 1 ∧ ∃ j : Nat, j < n ∧ p0 = nI j) ∨ r_2 = 0 from hw_2) with ⟨rfl, j_2, hj_2, he_2⟩ | rfl
  · skip
    subst he_2
    refine lv_if_eq (tgt := 33) hx hb dX2_leads_5 (by decide) (fun c_5 => absurd c_5 (by decide +kernel)) (fun _ => ?_)
    refine lv_aload_n hx hb dX2_leads_8 rfl (lv_at hl 0 rfl) ?_
    refine lv_iload_n hx hb dX2_leads_9 rfl (lv_at hl 2 rfl) ?_
    have hPc := hP.sub (ws' := [(dr, .inr (2, [.ref dp, .ref dc, .int (nI n)]))]) [0] rfl
    refine va_calli (va_runV (As := [.int p1]) (rest := []) ⟨hx, hb, hml, hown, hts⟩ (mz_d_has l dC dI cI cJ cZ dr dp dc n p1 s.heap (by first | assumption | omega)) (cwV 1 hts gX2_leads_X2_has rfl rfl rfl (by decide +kernel) ⟨Nat.le_of_ble_eq_true rfl, Nat.le_of_ble_eq_true rfl⟩) ⟨fun a U g mk q => mz_blP q, va_recv hK hPc (ci := 2) (q0 := 0) rfl rfl, fun U hU hW => ⟨rfl, hU, hPc, va_K.moved hW.alike hK, mz_nw hW hN⟩⟩ rfl rfl hl.1 rfl (lv_room (Nat.le_of_ble_eq_true rfl)) dX2_leads_10 ⟨Nat.le_of_ble_eq_true rfl, Nat.le_of_ble_eq_true rfl⟩) hS (fun q _ h => h.elim) (fun q h => h.elim) (fun r_10 u t H1 locs ht hvm hw_10 hB hz1 hk1 hS => ?_)
    have hE : s.heap = H1 := hB.symm.trans ht
    subst hE
    rcases (show (r_10 = 1 ∧ ∃ j : Nat, j < n ∧ p1 = nI j) ∨ r_10 = 0 from hw_10) with ⟨rfl, j_10, hj_10, he_10⟩ | rfl
    · skip
      subst he_10
      refine lv_if_eq (tgt := 33) hx hb dX2_leads_13 (by decide) (fun c_13 => absurd c_13 (by decide +kernel)) (fun _ => ?_)
      refine lv_aload_n hx hb dX2_leads_16 rfl (lv_at hl 0 rfl) ?_
      refine va_get (D := (dC, dI)) (ci := 2) (v := .ref dc) (C := RX2) (T := TX2) (N := 3) hx hb hts hiX2 hown hK hP 0 rfl rfl 1 (by decide) (hts (.fieldLink RX2 15 "MadeItSo$Drawing" "children" "[I") (by decide +kernel)) (fun _ h9 => h9) rfl dX2_leads_17 ?_
      refine lv_iload_n hx hb dX2_leads_20 rfl (lv_at hl 1 rfl) ?_
      refine va_iald hx hb hK hP 1 0 rfl rfl (vp_in_nI (by omega) (by omega)) dX2_leads_21 ?_
      refine lv_topi (fun v_21 ev_21 => ?_)
      refine lv_iload_n hx hb dX2_leads_22 rfl (lv_at hl 2 rfl) ?_
      have hPc := hP.sub (ws' := []) [] rfl
      refine va_calli (va_runSN (As := [.int v_21, .int (nI j_10)]) (rest := []) ⟨hx, hb, hml, hown, hts⟩ (mz_g_inHeap l dC dI cI cJ cZ v_21 (nI j_10) s.heap ) ⟨va_cnB (host := "MadeItSo") 2 hts gX2_leads_X7_inHeap_n26 rfl rfl rfl (hN (RX2, 26, yX7_inHeap, "MadeItSo") (by decide +kernel)) (hts (.initialized RX7) (by decide +kernel)) (by decide +kernel) ⟨Nat.le_of_ble_eq_true rfl, Nat.le_of_ble_eq_true rfl⟩, hts (.static yX7_inHeap) (by decide +kernel), trivial⟩ ⟨fun a U g mk q => mz_blP q, fun U hU hW => ⟨rfl, hU, hPc, va_K.moved hW.alike hK, mz_nw hW hN⟩⟩ rfl rfl hl.1 rfl (lv_room (Nat.le_of_ble_eq_true rfl)) dX2_leads_23 ⟨Nat.le_of_ble_eq_true rfl, Nat.le_of_ble_eq_true rfl⟩) hS (fun q _ h => h.elim) (fun q h => h.elim) (fun r_23 u t H1 locs ht hvm hw_23 hB hz1 hk1 hS => ?_)
      have hE : s.heap = H1 := hB.symm.trans ht
      subst hE
      refine lv_if_eq (tgt := 33) hx hb dX2_leads_26 (by decide) (fun c_26 => ?_) (fun c_26 => ?_)
      · skip
        refine lv_iconst (v := 0) hx hb dX2_leads_33 (by decide +kernel) ?_
        refine W.widen (k := 0) (n := 0) (Nat.le_of_ble_eq_true rfl) (Nat.le_of_ble_eq_true rfl) ?_
        exact W.zret (v := 0) hx hb hr (mz_nz (by decide +kernel)) (fun t ht hW => ⟨⟨0, (), rfl, Or.inl rfl, ht⟩, hS.F ht⟩) hS.2.2 dX2_leads_34
      · skip
        refine lv_iconst (v := 1) hx hb dX2_leads_29 (by decide +kernel) ?_
        refine lv_goto (tgt := 34) hx hb dX2_leads_30 (by decide) ?_
        refine W.widen (k := 0) (n := 0) (Nat.le_of_ble_eq_true rfl) (Nat.le_of_ble_eq_true rfl) ?_
        exact W.zret (v := 1) hx hb hr (mz_nz (by decide +kernel)) (fun t ht hW => ⟨⟨1, (), rfl, Or.inr rfl, ht⟩, hS.F ht⟩) hS.2.2 dX2_leads_34
    · skip
      refine lv_if_eq (tgt := 33) hx hb dX2_leads_13 (by decide) (fun _ => ?_) (fun c_13 => absurd (by decide +kernel) c_13)
      refine lv_iconst (v := 0) hx hb dX2_leads_33 (by decide +kernel) ?_
      refine W.widen (k := 0) (n := 0) (Nat.le_of_ble_eq_true rfl) (Nat.le_of_ble_eq_true rfl) ?_
      exact W.zret (v := 0) hx hb hr (mz_nz (by decide +kernel)) (fun t ht hW => ⟨⟨0, (), rfl, Or.inl rfl, ht⟩, hS.F ht⟩) hS.2.2 dX2_leads_34
  · skip
    refine lv_if_eq (tgt := 33) hx hb dX2_leads_5 (by decide) (fun _ => ?_) (fun c_5 => absurd (by decide +kernel) c_5)
    refine lv_iconst (v := 0) hx hb dX2_leads_33 (by decide +kernel) ?_
    refine W.widen (k := 0) (n := 0) (Nat.le_of_ble_eq_true rfl) (Nat.le_of_ble_eq_true rfl) ?_
    exact W.zret (v := 0) hx hb hr (mz_nz (by decide +kernel)) (fun t ht hW => ⟨⟨0, (), rfl, Or.inl rfl, ht⟩, hS.F ht⟩) hS.2.2 dX2_leads_34
set_option maxHeartbeats 1000000 in
set_option maxRecDepth 100000 in
theorem mz_d_gather (l : Launch) (dC : Nat → ClassId) (dI : Nat → Nat → Nat) (cI cJ cZ : ClassId) (ar : Nat) (f : Nat → Int32) (p0 : Int32) (Hq : Heap)  : Met l yX2_gather wsX2_gather ({ frames := 1, cells := 0, slots := 0, locals := 21 }) (va_Pc [.int p0, .ref ar] (fun U => U.heap = Hq ∧ va_P (dC, dI) vwCl [(ar, .inl (cI, 8, .inl f))] Hq ∧ va_K (dC, dI) vwCl [(cI, FieldType.int), (cJ, FieldType.long), (cZ, FieldType.boolean)] U ∧ mz_N U)) (va_Qi (fun (r : Int32) (_ : Unit) => True) (fun _ t => t.heap = Hq) (fun _ : Nat => False)) 0 0 (fun _ : Nat => False) := by
  refine Met.ofW (cc := cX2_gather) (maxL := 4) (ret := (some .int)) (by decide) rfl ?_
  intro p e s m args below meth c s₁ B hml hv
  obtain ⟨rfl, hH, hP, hK, hN⟩ := hv
  subst hH
  have hx := B.exec
  have hb := B.bytes
  have hr := B.returns
  have hts := atoms_spec (ws := wsX2_gather) B.pre
  have hown : s.vm.findClass RX2 = some m.cls := findClass_of_methodNamed B.named
  have hlocks := B.notSynchronized
  have hS : va_S (fun _ : Nat => False) s.heap s.heap [] := va_S.rf
  have hl := lv_entry ([.int p0, .ref ar]) (n := 4) (Nat.le_of_ble_eq_true rfl)
  rw [lg_entry_eq]
  generalize (lg_sl ([.int p0, .ref ar]) ++ List.replicate (4 - (lg_sl ([.int p0, .ref ar])).length) Slot.unset).toArray = ls at hl ⊢
  have hl : lv_has ls 4 [(0, .int p0), (1, .ref ar)] := hl
  refine lv_iconst (v := 0) hx hb dX2_gather_0 (by decide +kernel) ?_
  refine lv_istore_n (lv' := [(2, .int 0), (0, .int p0), (1, .ref ar)]) hx hb dX2_gather_1 rfl hl (by decide) rfl (fun ls hl => ?_)
  refine lv_iconst (v := 0) hx hb dX2_gather_2 (by decide +kernel) ?_
  refine lv_istore_n (lv' := [(3, .int 0), (2, .int 0), (0, .int p0), (1, .ref ar)]) hx hb dX2_gather_3 rfl hl (by decide) rfl (fun ls hl => ?_)
  refine mz_loopU (fun k H locs ls => ∃ (i_4 : Nat), ∃ (x2_4 : Int32), i_4 ≤ 8 ∧ H = s.heap ∧ va_S (fun _ : Nat => False) s.heap H locs ∧ lv_has ls 4 [(3, .int (nI i_4)), (2, .int x2_4), (0, .int p0), (1, .ref ar)] ∧ k = 8 - i_4) ?_ _ _ _ _ ⟨0, 0, by omega, rfl, hS, lv_sub hl [0, 1, 2, 3] rfl, rfl⟩
  intro k_4 H locs ls hI_4 ih_4
  obtain ⟨i_4, x2_4, hi_4, hH_4, hS, hl, hk_4⟩ := hI_4
  subst hH_4
  refine lv_iload_n hx hb dX2_gather_4 rfl (lv_at hl 0 rfl) ?_
  refine lv_aload_n hx hb dX2_gather_5 rfl (lv_at hl 3 rfl) ?_
  refine va_alen (v := 8) hx hb hK hP 0 0 rfl rfl rfl dX2_gather_6 ?_
  refine lv_icmp_ge (tgt := 30) hx hb dX2_gather_7 (by decide) (fun c_7 => ?_) (fun c_7 => ?_)
  · skip
    have d_7 : 8 ≤ i_4 := (nI_leI (a := 8) (b := i_4) (by omega) (by omega)).mp c_7
    refine lv_iload_n hx hb dX2_gather_30 rfl (lv_at hl 1 rfl) ?_
    refine W.widen (k := 0) (n := 0) (Nat.le_of_ble_eq_true rfl) (Nat.le_of_ble_eq_true rfl) ?_
    exact W.iret (v := x2_4) hx hb hr (fun t ht hW => ⟨⟨x2_4, (), rfl, trivial, ht⟩, hS.F ht⟩) hS.2.2 dX2_gather_31
  · skip
    have d_7 : ¬ 8 ≤ i_4 := fun h => c_7 ((nI_leI (a := 8) (b := i_4) (by omega) (by omega)).mpr h)
    refine lv_iload_n hx hb dX2_gather_10 rfl (lv_at hl 2 rfl) ?_
    refine lv_iload_n hx hb dX2_gather_11 rfl (lv_at hl 0 rfl) ?_
    have hPc := hP.sub (ws' := []) [] rfl
    refine va_calli (va_runSN (As := [.int p0, .int (nI i_4)]) (rest := []) ⟨hx, hb, hml, hown, hts⟩ (mz_g_inHeap l dC dI cI cJ cZ p0 (nI i_4) s.heap ) ⟨va_cnB (host := "MadeItSo") 2 hts gX2_gather_X7_inHeap_n26 rfl rfl rfl (hN (RX2, 26, yX7_inHeap, "MadeItSo") (by decide +kernel)) (hts (.initialized RX7) (by decide +kernel)) (by decide +kernel) ⟨Nat.le_of_ble_eq_true rfl, Nat.le_of_ble_eq_true rfl⟩, hts (.static yX7_inHeap) (by decide +kernel), trivial⟩ ⟨fun a U g mk q => mz_blP q, fun U hU hW => ⟨rfl, hU, hPc, va_K.moved hW.alike hK, mz_nw hW hN⟩⟩ rfl rfl hl.1 rfl (lv_room (Nat.le_of_ble_eq_true rfl)) dX2_gather_12 ⟨Nat.le_of_ble_eq_true rfl, Nat.le_of_ble_eq_true rfl⟩) hS (fun q _ h => h.elim) (fun q h => h.elim) (fun r_12 u t H1 locs ht hvm hw_12 hB hz1 hk1 hS => ?_)
    have hE : s.heap = H1 := hB.symm.trans ht
    subst hE
    refine lv_if_eq (tgt := 24) hx hb dX2_gather_15 (by decide) (fun c_15 => ?_) (fun c_15 => ?_)
    · skip
      refine lv_iinc (v := (nI (i_4 + 1))) (lv' := [(3, .int (nI (i_4 + 1))), (2, .int x2_4), (0, .int p0), (1, .ref ar)]) hx hb dX2_gather_24 hl (k := 0) rfl (nI_1 _) (by decide) rfl (fun ls hl => ?_)
      refine lv_goto (tgt := 4) hx hb dX2_gather_27 (by decide) ?_
      exact ih_4 _ (by omega) _ _ _ ⟨(i_4 + 1), x2_4, by omega, rfl, hS, lv_sub hl [0, 1, 2, 3] rfl, rfl⟩
    · skip
      refine lv_iload_n hx hb dX2_gather_18 rfl (lv_at hl 1 rfl) ?_
      refine lv_aload_n hx hb dX2_gather_19 rfl (lv_at hl 3 rfl) ?_
      refine lv_iload_n hx hb dX2_gather_20 rfl (lv_at hl 0 rfl) ?_
      refine va_iald hx hb hK hP 0 0 rfl rfl (vp_in_nI (by omega) (by omega)) dX2_gather_21 ?_
      refine lv_topi (fun v_21 ev_21 => ?_)
      refine lv_ior hx hb dX2_gather_22 ?_
      refine lv_topi (fun v_22 ev_22 => ?_)
      refine lv_istore_n (lv' := [(2, .int v_22), (3, .int (nI i_4)), (0, .int p0), (1, .ref ar)]) hx hb dX2_gather_23 rfl hl (by decide) rfl (fun ls hl => ?_)
      refine lv_iinc (v := (nI (i_4 + 1))) (lv' := [(3, .int (nI (i_4 + 1))), (2, .int v_22), (0, .int p0), (1, .ref ar)]) hx hb dX2_gather_24 hl (k := 1) rfl (nI_1 _) (by decide) rfl (fun ls hl => ?_)
      refine lv_goto (tgt := 4) hx hb dX2_gather_27 (by decide) ?_
      exact ih_4 _ (by omega) _ _ _ ⟨(i_4 + 1), v_22, by omega, rfl, hS, lv_sub hl [0, 1, 2, 3] rfl, rfl⟩
set_option maxHeartbeats 1000000 in
set_option maxRecDepth 100000 in
theorem mz_d_spread_p (l : Launch) (dC : Nat → ClassId) (dI : Nat → Nat → Nat) (cI cJ cZ : ClassId) (dr : Nat) (dp : Nat) (dc : Nat) (n : Nat) (fp : Nat → Int32) (p0 : Int32) (Hq : Heap)  : Met l yX2_spread wsX2_spread ({ frames := 2, cells := 0, slots := 0, locals := 44 }) (va_Pc [.ref dr, .int p0, .ref dp] (fun U => U.heap = Hq ∧ va_P (dC, dI) vwCl [(dr, .inr (2, [.ref dp, .ref dc, .int (nI n)])), (dp, .inl (cI, 8, .inl fp))] Hq ∧ va_K (dC, dI) vwCl [(cI, FieldType.int), (cJ, FieldType.long), (cZ, FieldType.boolean)] U ∧ mz_N U)) (va_Qi (fun (r : Int32) (_ : Unit) => True) (fun _ t => t.heap = Hq) (fun _ : Nat => False)) 0 0 (fun _ : Nat => False) := by
  refine Met.ofW (cc := cX2_spread) (maxL := 6) (ret := (some .int)) (by decide) rfl ?_
  intro p e s m args below meth c s₁ B hml hv
  obtain ⟨rfl, hH, hP, hK, hN⟩ := hv
  subst hH
  have hx := B.exec
  have hb := B.bytes
  have hr := B.returns
  have hts := atoms_spec (ws := wsX2_spread) B.pre
  have hown : s.vm.findClass RX2 = some m.cls := findClass_of_methodNamed B.named
  have hlocks := B.notSynchronized
  have hS : va_S (fun _ : Nat => False) s.heap s.heap [] := va_S.rf
  have hl := lv_entry ([.ref dr, .int p0, .ref dp]) (n := 6) (Nat.le_of_ble_eq_true rfl)
  rw [lg_entry_eq]
  generalize (lg_sl ([.ref dr, .int p0, .ref dp]) ++ List.replicate (6 - (lg_sl ([.ref dr, .int p0, .ref dp])).length) Slot.unset).toArray = ls at hl ⊢
  have hl : lv_has ls 6 [(0, .ref dr), (1, .int p0), (2, .ref dp)] := hl
  refine lv_iload_n hx hb dX2_spread_0 rfl (lv_at hl 1 rfl) ?_
  refine lv_istore_n (lv' := [(3, .int p0), (0, .ref dr), (1, .int p0), (2, .ref dp)]) hx hb dX2_spread_1 rfl hl (by decide) rfl (fun ls hl => ?_)
  refine lv_iconst (v := 0) hx hb dX2_spread_2 (by decide +kernel) ?_
  refine lv_istore (lv' := [(4, .int 0), (3, .int p0), (0, .ref dr), (1, .int p0), (2, .ref dp)]) hx hb dX2_spread_3 hl (by decide) rfl (fun ls hl => ?_)
  refine mz_loopU (fun k H locs ls => ∃ (i_5 : Nat), ∃ (x3_5 : Int32), i_5 ≤ 8 ∧ H = s.heap ∧ va_S (fun _ : Nat => False) s.heap H locs ∧ lv_has ls 6 [(4, .int (nI i_5)), (3, .int x3_5), (0, .ref dr), (1, .int p0), (2, .ref dp)] ∧ k = 8 - i_5) ?_ _ _ _ _ ⟨0, p0, by omega, rfl, hS, lv_sub hl [0, 1, 2, 3, 4] rfl, rfl⟩
  intro k_5 H locs ls hI_5 ih_5
  obtain ⟨i_5, x3_5, hi_5, hH_5, hS, hl, hk_5⟩ := hI_5
  subst hH_5
  refine lv_iload hx hb dX2_spread_5 (lv_at hl 0 rfl) ?_
  refine lv_bipush (v := 8) hx hb dX2_spread_7 (by decide +kernel) ?_
  refine lv_icmp_ge (tgt := 39) hx hb dX2_spread_9 (by decide) (fun c_9 => ?_) (fun c_9 => ?_)
  · skip
    have d_9 : 8 ≤ i_5 := (nI_leI (a := 8) (b := i_5) (by omega) (by omega)).mp c_9
    refine lv_iload_n hx hb dX2_spread_39 rfl (lv_at hl 1 rfl) ?_
    refine W.widen (k := 0) (n := 0) (Nat.le_of_ble_eq_true rfl) (Nat.le_of_ble_eq_true rfl) ?_
    exact W.iret (v := x3_5) hx hb hr (fun t ht hW => ⟨⟨x3_5, (), rfl, trivial, ht⟩, hS.F ht⟩) hS.2.2 dX2_spread_40
  · skip
    have d_9 : ¬ 8 ≤ i_5 := fun h => c_9 ((nI_leI (a := 8) (b := i_5) (by omega) (by omega)).mpr h)
    refine lv_iload_n hx hb dX2_spread_12 rfl (lv_at hl 1 rfl) ?_
    refine lv_iload_n hx hb dX2_spread_13 rfl (lv_at hl 1 rfl) ?_
    refine lv_aload_n hx hb dX2_spread_14 rfl (lv_at hl 4 rfl) ?_
    have hPc := hP.sub (ws' := [(dp, .inl (cI, 8, .inl fp))]) [1] rfl
    refine va_calli (va_runS (As := [.int x3_5, .ref dp]) (rest := [.int x3_5]) ⟨hx, hb, hml, hown, hts⟩ (mz_d_gather l dC dI cI cJ cZ dp fp x3_5 s.heap ) (va_cwS 2 hts gX2_spread_X2_gather rfl rfl rfl (by decide +kernel) ⟨Nat.le_of_ble_eq_true rfl, Nat.le_of_ble_eq_true rfl⟩) ⟨fun a U g mk q => mz_blP q, fun U hU hW => ⟨rfl, hU, hPc, va_K.moved hW.alike hK, mz_nw hW hN⟩⟩ rfl rfl hl.1 rfl (lv_room (Nat.le_of_ble_eq_true rfl)) dX2_spread_15 ⟨Nat.le_of_ble_eq_true rfl, Nat.le_of_ble_eq_true rfl⟩) hS (fun q _ h => h.elim) (fun q h => h.elim) (fun r_15 u t H1 locs ht hvm hw_15 hB hz1 hk1 hS => ?_)
    have hE : s.heap = H1 := hB.symm.trans ht
    subst hE
    refine lv_ior hx hb dX2_spread_18 ?_
    refine lv_topi (fun v_18 ev_18 => ?_)
    refine lv_istore (lv' := [(5, .int v_18), (4, .int (nI i_5)), (3, .int x3_5), (0, .ref dr), (1, .int p0), (2, .ref dp)]) hx hb dX2_spread_19 hl (by decide) rfl (fun ls hl => ?_)
    refine lv_iload hx hb dX2_spread_21 (lv_at hl 0 rfl) ?_
    refine lv_iload_n hx hb dX2_spread_23 rfl (lv_at hl 2 rfl) ?_
    refine lv_icmp_ne (tgt := 30) hx hb dX2_spread_24 (by decide) (fun c_24 => ?_) (fun c_24 => ?_)
    · skip
      refine lv_iload hx hb dX2_spread_30 (lv_at hl 0 rfl) ?_
      refine lv_istore_n (lv' := [(3, .int v_18), (5, .int v_18), (4, .int (nI i_5)), (0, .ref dr), (1, .int p0), (2, .ref dp)]) hx hb dX2_spread_32 rfl hl (by decide) rfl (fun ls hl => ?_)
      refine lv_iinc (v := (nI (i_5 + 1))) (lv' := [(4, .int (nI (i_5 + 1))), (3, .int v_18), (5, .int v_18), (0, .ref dr), (1, .int p0), (2, .ref dp)]) hx hb dX2_spread_33 hl (k := 2) rfl (nI_1 _) (by decide) rfl (fun ls hl => ?_)
      refine lv_goto (tgt := 5) hx hb dX2_spread_36 (by decide) ?_
      exact ih_5 _ (by omega) _ _ _ ⟨(i_5 + 1), v_18, by omega, rfl, hS, lv_sub hl [0, 1, 3, 4, 5] rfl, rfl⟩
    · skip
      refine lv_goto (tgt := 39) hx hb dX2_spread_27 (by decide) ?_
      refine lv_iload_n hx hb dX2_spread_39 rfl (lv_at hl 2 rfl) ?_
      refine W.widen (k := 0) (n := 0) (Nat.le_of_ble_eq_true rfl) (Nat.le_of_ble_eq_true rfl) ?_
      exact W.iret (v := x3_5) hx hb hr (fun t ht hW => ⟨⟨x3_5, (), rfl, trivial, ht⟩, hS.F ht⟩) hS.2.2 dX2_spread_40
set_option maxHeartbeats 1000000 in
set_option maxRecDepth 100000 in
theorem mz_d_spread_c (l : Launch) (dC : Nat → ClassId) (dI : Nat → Nat → Nat) (cI cJ cZ : ClassId) (dr : Nat) (dp : Nat) (dc : Nat) (n : Nat) (fc : Nat → Int32) (p0 : Int32) (Hq : Heap)  : Met l yX2_spread wsX2_spread ({ frames := 2, cells := 0, slots := 0, locals := 44 }) (va_Pc [.ref dr, .int p0, .ref dc] (fun U => U.heap = Hq ∧ va_P (dC, dI) vwCl [(dr, .inr (2, [.ref dp, .ref dc, .int (nI n)])), (dc, .inl (cI, 8, .inl fc))] Hq ∧ va_K (dC, dI) vwCl [(cI, FieldType.int), (cJ, FieldType.long), (cZ, FieldType.boolean)] U ∧ mz_N U)) (va_Qi (fun (r : Int32) (_ : Unit) => True) (fun _ t => t.heap = Hq) (fun _ : Nat => False)) 0 0 (fun _ : Nat => False) := by
  refine Met.ofW (cc := cX2_spread) (maxL := 6) (ret := (some .int)) (by decide) rfl ?_
  intro p e s m args below meth c s₁ B hml hv
  obtain ⟨rfl, hH, hP, hK, hN⟩ := hv
  subst hH
  have hx := B.exec
  have hb := B.bytes
  have hr := B.returns
  have hts := atoms_spec (ws := wsX2_spread) B.pre
  have hown : s.vm.findClass RX2 = some m.cls := findClass_of_methodNamed B.named
  have hlocks := B.notSynchronized
  have hS : va_S (fun _ : Nat => False) s.heap s.heap [] := va_S.rf
  have hl := lv_entry ([.ref dr, .int p0, .ref dc]) (n := 6) (Nat.le_of_ble_eq_true rfl)
  rw [lg_entry_eq]
  generalize (lg_sl ([.ref dr, .int p0, .ref dc]) ++ List.replicate (6 - (lg_sl ([.ref dr, .int p0, .ref dc])).length) Slot.unset).toArray = ls at hl ⊢
  have hl : lv_has ls 6 [(0, .ref dr), (1, .int p0), (2, .ref dc)] := hl
  refine lv_iload_n hx hb dX2_spread_0 rfl (lv_at hl 1 rfl) ?_
  refine lv_istore_n (lv' := [(3, .int p0), (0, .ref dr), (1, .int p0), (2, .ref dc)]) hx hb dX2_spread_1 rfl hl (by decide) rfl (fun ls hl => ?_)
  refine lv_iconst (v := 0) hx hb dX2_spread_2 (by decide +kernel) ?_
  refine lv_istore (lv' := [(4, .int 0), (3, .int p0), (0, .ref dr), (1, .int p0), (2, .ref dc)]) hx hb dX2_spread_3 hl (by decide) rfl (fun ls hl => ?_)
  refine mz_loopU (fun k H locs ls => ∃ (i_5 : Nat), ∃ (x3_5 : Int32), i_5 ≤ 8 ∧ H = s.heap ∧ va_S (fun _ : Nat => False) s.heap H locs ∧ lv_has ls 6 [(4, .int (nI i_5)), (3, .int x3_5), (0, .ref dr), (1, .int p0), (2, .ref dc)] ∧ k = 8 - i_5) ?_ _ _ _ _ ⟨0, p0, by omega, rfl, hS, lv_sub hl [0, 1, 2, 3, 4] rfl, rfl⟩
  intro k_5 H locs ls hI_5 ih_5
  obtain ⟨i_5, x3_5, hi_5, hH_5, hS, hl, hk_5⟩ := hI_5
  subst hH_5
  refine lv_iload hx hb dX2_spread_5 (lv_at hl 0 rfl) ?_
  refine lv_bipush (v := 8) hx hb dX2_spread_7 (by decide +kernel) ?_
  refine lv_icmp_ge (tgt := 39) hx hb dX2_spread_9 (by decide) (fun c_9 => ?_) (fun c_9 => ?_)
  · skip
    have d_9 : 8 ≤ i_5 := (nI_leI (a := 8) (b := i_5) (by omega) (by omega)).mp c_9
    refine lv_iload_n hx hb dX2_spread_39 rfl (lv_at hl 1 rfl) ?_
    refine W.widen (k := 0) (n := 0) (Nat.le_of_ble_eq_true rfl) (Nat.le_of_ble_eq_true rfl) ?_
    exact W.iret (v := x3_5) hx hb hr (fun t ht hW => ⟨⟨x3_5, (), rfl, trivial, ht⟩, hS.F ht⟩) hS.2.2 dX2_spread_40
  · skip
    have d_9 : ¬ 8 ≤ i_5 := fun h => c_9 ((nI_leI (a := 8) (b := i_5) (by omega) (by omega)).mpr h)
    refine lv_iload_n hx hb dX2_spread_12 rfl (lv_at hl 1 rfl) ?_
    refine lv_iload_n hx hb dX2_spread_13 rfl (lv_at hl 1 rfl) ?_
    refine lv_aload_n hx hb dX2_spread_14 rfl (lv_at hl 4 rfl) ?_
    have hPc := hP.sub (ws' := [(dc, .inl (cI, 8, .inl fc))]) [1] rfl
    refine va_calli (va_runS (As := [.int x3_5, .ref dc]) (rest := [.int x3_5]) ⟨hx, hb, hml, hown, hts⟩ (mz_d_gather l dC dI cI cJ cZ dc fc x3_5 s.heap ) (va_cwS 2 hts gX2_spread_X2_gather rfl rfl rfl (by decide +kernel) ⟨Nat.le_of_ble_eq_true rfl, Nat.le_of_ble_eq_true rfl⟩) ⟨fun a U g mk q => mz_blP q, fun U hU hW => ⟨rfl, hU, hPc, va_K.moved hW.alike hK, mz_nw hW hN⟩⟩ rfl rfl hl.1 rfl (lv_room (Nat.le_of_ble_eq_true rfl)) dX2_spread_15 ⟨Nat.le_of_ble_eq_true rfl, Nat.le_of_ble_eq_true rfl⟩) hS (fun q _ h => h.elim) (fun q h => h.elim) (fun r_15 u t H1 locs ht hvm hw_15 hB hz1 hk1 hS => ?_)
    have hE : s.heap = H1 := hB.symm.trans ht
    subst hE
    refine lv_ior hx hb dX2_spread_18 ?_
    refine lv_topi (fun v_18 ev_18 => ?_)
    refine lv_istore (lv' := [(5, .int v_18), (4, .int (nI i_5)), (3, .int x3_5), (0, .ref dr), (1, .int p0), (2, .ref dc)]) hx hb dX2_spread_19 hl (by decide) rfl (fun ls hl => ?_)
    refine lv_iload hx hb dX2_spread_21 (lv_at hl 0 rfl) ?_
    refine lv_iload_n hx hb dX2_spread_23 rfl (lv_at hl 2 rfl) ?_
    refine lv_icmp_ne (tgt := 30) hx hb dX2_spread_24 (by decide) (fun c_24 => ?_) (fun c_24 => ?_)
    · skip
      refine lv_iload hx hb dX2_spread_30 (lv_at hl 0 rfl) ?_
      refine lv_istore_n (lv' := [(3, .int v_18), (5, .int v_18), (4, .int (nI i_5)), (0, .ref dr), (1, .int p0), (2, .ref dc)]) hx hb dX2_spread_32 rfl hl (by decide) rfl (fun ls hl => ?_)
      refine lv_iinc (v := (nI (i_5 + 1))) (lv' := [(4, .int (nI (i_5 + 1))), (3, .int v_18), (5, .int v_18), (0, .ref dr), (1, .int p0), (2, .ref dc)]) hx hb dX2_spread_33 hl (k := 2) rfl (nI_1 _) (by decide) rfl (fun ls hl => ?_)
      refine lv_goto (tgt := 5) hx hb dX2_spread_36 (by decide) ?_
      exact ih_5 _ (by omega) _ _ _ ⟨(i_5 + 1), v_18, by omega, rfl, hS, lv_sub hl [0, 1, 3, 4, 5] rfl, rfl⟩
    · skip
      refine lv_goto (tgt := 39) hx hb dX2_spread_27 (by decide) ?_
      refine lv_iload_n hx hb dX2_spread_39 rfl (lv_at hl 2 rfl) ?_
      refine W.widen (k := 0) (n := 0) (Nat.le_of_ble_eq_true rfl) (Nat.le_of_ble_eq_true rfl) ?_
      exact W.iret (v := x3_5) hx hb hr (fun t ht hW => ⟨⟨x3_5, (), rfl, trivial, ht⟩, hS.F ht⟩) hS.2.2 dX2_spread_40
set_option maxHeartbeats 1000000 in
set_option maxRecDepth 100000 in
theorem mz_d_withAllBelow (l : Launch) (dC : Nat → ClassId) (dI : Nat → Nat → Nat) (cI cJ cZ : ClassId) (dr : Nat) (dp : Nat) (dc : Nat) (n : Nat) (fc : Nat → Int32) (p0 : Int32) (Hq : Heap)  : Met l yX2_withAllBelow wsX2_withAllBelow ({ frames := 3, cells := 0, slots := 0, locals := 69 }) (va_Pc [.ref dr, .int p0] (fun U => U.heap = Hq ∧ va_P (dC, dI) vwCl [(dr, .inr (2, [.ref dp, .ref dc, .int (nI n)])), (dc, .inl (cI, 8, .inl fc))] Hq ∧ va_K (dC, dI) vwCl [(cI, FieldType.int), (cJ, FieldType.long), (cZ, FieldType.boolean)] U ∧ mz_N U)) (va_Qi (fun (r : Int32) (_ : Unit) => True) (fun _ t => t.heap = Hq) (fun _ : Nat => False)) 0 0 (fun _ : Nat => False) := by
  refine Met.ofW (cc := cX2_withAllBelow) (maxL := 2) (ret := (some .int)) (by decide) rfl ?_
  intro p e s m args below meth c s₁ B hml hv
  obtain ⟨rfl, hH, hP, hK, hN⟩ := hv
  subst hH
  have hx := B.exec
  have hb := B.bytes
  have hr := B.returns
  have hts := atoms_spec (ws := wsX2_withAllBelow) B.pre
  have hown : s.vm.findClass RX2 = some m.cls := findClass_of_methodNamed B.named
  have hlocks := B.notSynchronized
  have hS : va_S (fun _ : Nat => False) s.heap s.heap [] := va_S.rf
  have hiX2 : ∀ w ∈ u_ws RX2 TX2 3, w ∈ wsX2_withAllBelow := by decide +kernel
  have hl := lv_entry ([.ref dr, .int p0]) (n := 2) (Nat.le_of_ble_eq_true rfl)
  rw [lg_entry_eq]
  generalize (lg_sl ([.ref dr, .int p0]) ++ List.replicate (2 - (lg_sl ([.ref dr, .int p0])).length) Slot.unset).toArray = ls at hl ⊢
  have hl : lv_has ls 2 [(0, .ref dr), (1, .int p0)] := hl
  refine lv_aload_n hx hb dX2_withAllBelow_0 rfl (lv_at hl 0 rfl) ?_
  refine lv_iload_n hx hb dX2_withAllBelow_1 rfl (lv_at hl 1 rfl) ?_
  refine lv_aload_n hx hb dX2_withAllBelow_2 rfl (lv_at hl 0 rfl) ?_
  refine va_get (D := (dC, dI)) (ci := 2) (v := .ref dc) (C := RX2) (T := TX2) (N := 3) hx hb hts hiX2 hown hK hP 0 rfl rfl 1 (by decide) (hts (.fieldLink RX2 15 "MadeItSo$Drawing" "children" "[I") (by decide +kernel)) (fun _ h9 => h9) rfl dX2_withAllBelow_3 ?_
  have hPc := hP.sub (ws' := [(dr, .inr (2, [.ref dp, .ref dc, .int (nI n)])), (dc, .inl (cI, 8, .inl fc))]) [0, 1] rfl
  refine va_calli (va_runV (As := [.int p0, .ref dc]) (rest := []) ⟨hx, hb, hml, hown, hts⟩ (mz_d_spread_c l dC dI cI cJ cZ dr dp dc n fc p0 s.heap ) (cwV 2 hts gX2_withAllBelow_X2_spread rfl rfl rfl (by decide +kernel) ⟨Nat.le_of_ble_eq_true rfl, Nat.le_of_ble_eq_true rfl⟩) ⟨fun a U g mk q => mz_blP q, va_recv hK hPc (ci := 2) (q0 := 0) rfl rfl, fun U hU hW => ⟨rfl, hU, hPc, va_K.moved hW.alike hK, mz_nw hW hN⟩⟩ rfl rfl hl.1 rfl (lv_room (Nat.le_of_ble_eq_true rfl)) dX2_withAllBelow_6 ⟨Nat.le_of_ble_eq_true rfl, Nat.le_of_ble_eq_true rfl⟩) hS (fun q _ h => h.elim) (fun q h => h.elim) (fun r_6 u t H1 locs ht hvm hw_6 hB hz1 hk1 hS => ?_)
  have hE : s.heap = H1 := hB.symm.trans ht
  subst hE
  refine W.widen (k := 0) (n := 0) (Nat.le_of_ble_eq_true rfl) (Nat.le_of_ble_eq_true rfl) ?_
  exact W.iret (v := r_6) hx hb hr (fun t ht hW => ⟨⟨r_6, (), rfl, trivial, ht⟩, hS.F ht⟩) hS.2.2 dX2_withAllBelow_9
set_option maxHeartbeats 1000000 in
set_option maxRecDepth 100000 in
theorem mz_d_allBelow (l : Launch) (dC : Nat → ClassId) (dI : Nat → Nat → Nat) (cI cJ cZ : ClassId) (dr : Nat) (dp : Nat) (dc : Nat) (n : Nat) (fc : Nat → Int32) (p0 : Int32) (Hq : Heap) (hn : n ≤ 8) : Met l yX2_allBelow wsX2_allBelow ({ frames := 4, cells := 0, slots := 0, locals := 90 }) (va_Pc [.ref dr, .int p0] (fun U => U.heap = Hq ∧ va_P (dC, dI) vwCl [(dr, .inr (2, [.ref dp, .ref dc, .int (nI n)])), (dc, .inl (cI, 8, .inl fc))] Hq ∧ va_K (dC, dI) vwCl [(cI, FieldType.int), (cJ, FieldType.long), (cZ, FieldType.boolean)] U ∧ mz_N U)) (va_Qi (fun (r : Int32) (_ : Unit) => True) (fun _ t => t.heap = Hq) (fun _ : Nat => False)) 0 0 (fun _ : Nat => False) := by
  refine Met.ofW (cc := cX2_allBelow) (maxL := 2) (ret := (some .int)) (by decide) rfl ?_
  intro p e s m args below meth c s₁ B hml hv
  obtain ⟨rfl, hH, hP, hK, hN⟩ := hv
  subst hH
  have hx := B.exec
  have hb := B.bytes
  have hr := B.returns
  have hts := atoms_spec (ws := wsX2_allBelow) B.pre
  have hown : s.vm.findClass RX2 = some m.cls := findClass_of_methodNamed B.named
  have hlocks := B.notSynchronized
  have hS : va_S (fun _ : Nat => False) s.heap s.heap [] := va_S.rf
  have hl := lv_entry ([.ref dr, .int p0]) (n := 2) (Nat.le_of_ble_eq_true rfl)
  rw [lg_entry_eq]
  generalize (lg_sl ([.ref dr, .int p0]) ++ List.replicate (2 - (lg_sl ([.ref dr, .int p0])).length) Slot.unset).toArray = ls at hl ⊢
  have hl : lv_has ls 2 [(0, .ref dr), (1, .int p0)] := hl
  refine lv_aload_n hx hb dX2_allBelow_0 rfl (lv_at hl 0 rfl) ?_
  refine lv_aload_n hx hb dX2_allBelow_1 rfl (lv_at hl 0 rfl) ?_
  refine lv_iload_n hx hb dX2_allBelow_2 rfl (lv_at hl 1 rfl) ?_
  have hPc := hP.sub (ws' := [(dr, .inr (2, [.ref dp, .ref dc, .int (nI n)])), (dc, .inl (cI, 8, .inl fc))]) [0, 1] rfl
  refine va_calli (va_runV (As := [.int p0]) (rest := [.ref dr]) ⟨hx, hb, hml, hown, hts⟩ (mz_d_childrenOf l dC dI cI cJ cZ dr dp dc n fc p0 s.heap (by first | assumption | omega)) (cwV 1 hts gX2_allBelow_X2_childrenOf rfl rfl rfl (by decide +kernel) ⟨Nat.le_of_ble_eq_true rfl, Nat.le_of_ble_eq_true rfl⟩) ⟨fun a U g mk q => mz_blP q, va_recv hK hPc (ci := 2) (q0 := 0) rfl rfl, fun U hU hW => ⟨rfl, hU, hPc, va_K.moved hW.alike hK, mz_nw hW hN⟩⟩ rfl rfl hl.1 rfl (lv_room (Nat.le_of_ble_eq_true rfl)) dX2_allBelow_3 ⟨Nat.le_of_ble_eq_true rfl, Nat.le_of_ble_eq_true rfl⟩) hS (fun q _ h => h.elim) (fun q h => h.elim) (fun r_3 u t H1 locs ht hvm hw_3 hB hz1 hk1 hS => ?_)
  have hE : s.heap = H1 := hB.symm.trans ht
  subst hE
  have hPc := hP.sub (ws' := [(dr, .inr (2, [.ref dp, .ref dc, .int (nI n)])), (dc, .inl (cI, 8, .inl fc))]) [0, 1] rfl
  refine va_calli (va_runV (As := [.int r_3]) (rest := []) ⟨hx, hb, hml, hown, hts⟩ (mz_d_withAllBelow l dC dI cI cJ cZ dr dp dc n fc r_3 s.heap ) (cwV 1 hts gX2_allBelow_X2_withAllBelow rfl rfl rfl (by decide +kernel) ⟨Nat.le_of_ble_eq_true rfl, Nat.le_of_ble_eq_true rfl⟩) ⟨fun a U g mk q => mz_blP q, va_recv hK hPc (ci := 2) (q0 := 0) rfl rfl, fun U hU hW => ⟨rfl, hU, hPc, va_K.moved hW.alike hK, mz_nw hW hN⟩⟩ rfl rfl hl.1 rfl (lv_room (Nat.le_of_ble_eq_true rfl)) dX2_allBelow_6 ⟨Nat.le_of_ble_eq_true rfl, Nat.le_of_ble_eq_true rfl⟩) hS (fun q _ h => h.elim) (fun q h => h.elim) (fun r_6 u t H1 locs ht hvm hw_6 hB hz1 hk1 hS => ?_)
  have hE : s.heap = H1 := hB.symm.trans ht
  subst hE
  refine W.widen (k := 0) (n := 0) (Nat.le_of_ble_eq_true rfl) (Nat.le_of_ble_eq_true rfl) ?_
  exact W.iret (v := r_6) hx hb hr (fun t ht hW => ⟨⟨r_6, (), rfl, trivial, ht⟩, hS.F ht⟩) hS.2.2 dX2_allBelow_9
set_option maxHeartbeats 1000000 in
set_option maxRecDepth 100000 in
theorem mz_d_road (l : Launch) (dC : Nat → ClassId) (dI : Nat → Nat → Nat) (cI cJ cZ : ClassId) (dr : Nat) (dp : Nat) (dc : Nat) (n : Nat) (fp : Nat → Int32) (fc : Nat → Int32) (p0 : Int32) (p1 : Int32) (Hq : Heap) (hn : n ≤ 8) : Met l yX2_road wsX2_road ({ frames := 5, cells := 0, slots := 0, locals := 111 }) (va_Pc [.ref dr, .int p0, .int p1] (fun U => U.heap = Hq ∧ va_P (dC, dI) vwCl [(dr, .inr (2, [.ref dp, .ref dc, .int (nI n)])), (dp, .inl (cI, 8, .inl fp)), (dc, .inl (cI, 8, .inl fc))] Hq ∧ va_K (dC, dI) vwCl [(cI, FieldType.int), (cJ, FieldType.long), (cZ, FieldType.boolean)] U ∧ mz_N U)) (va_Qi (fun (r : Int32) (_ : Unit) => True) (fun _ t => t.heap = Hq) (fun _ : Nat => False)) 0 0 (fun _ : Nat => False) := by
  refine Met.ofW (cc := cX2_road) (maxL := 3) (ret := (some .int)) (by decide) rfl ?_
  intro p e s m args below meth c s₁ B hml hv
  obtain ⟨rfl, hH, hP, hK, hN⟩ := hv
  subst hH
  have hx := B.exec
  have hb := B.bytes
  have hr := B.returns
  have hts := atoms_spec (ws := wsX2_road) B.pre
  have hown : s.vm.findClass RX2 = some m.cls := findClass_of_methodNamed B.named
  have hlocks := B.notSynchronized
  have hS : va_S (fun _ : Nat => False) s.heap s.heap [] := va_S.rf
  have hiX2 : ∀ w ∈ u_ws RX2 TX2 3, w ∈ wsX2_road := by decide +kernel
  have hl := lv_entry ([.ref dr, .int p0, .int p1]) (n := 3) (Nat.le_of_ble_eq_true rfl)
  rw [lg_entry_eq]
  generalize (lg_sl ([.ref dr, .int p0, .int p1]) ++ List.replicate (3 - (lg_sl ([.ref dr, .int p0, .int p1])).length) Slot.unset).toArray = ls at hl ⊢
  have hl : lv_has ls 3 [(0, .ref dr), (1, .int p0), (2, .int p1)] := hl
  refine lv_aload_n hx hb dX2_road_0 rfl (lv_at hl 0 rfl) ?_
  refine lv_iload_n hx hb dX2_road_1 rfl (lv_at hl 1 rfl) ?_
  have hPc := hP.sub (ws' := [(dr, .inr (2, [.ref dp, .ref dc, .int (nI n)])), (dc, .inl (cI, 8, .inl fc))]) [0, 2] rfl
  refine va_calli (va_runV (As := [.int p0]) (rest := []) ⟨hx, hb, hml, hown, hts⟩ (mz_d_allBelow l dC dI cI cJ cZ dr dp dc n fc p0 s.heap (by first | assumption | omega)) (cwV 1 hts gX2_road_X2_allBelow rfl rfl rfl (by decide +kernel) ⟨Nat.le_of_ble_eq_true rfl, Nat.le_of_ble_eq_true rfl⟩) ⟨fun a U g mk q => mz_blP q, va_recv hK hPc (ci := 2) (q0 := 0) rfl rfl, fun U hU hW => ⟨rfl, hU, hPc, va_K.moved hW.alike hK, mz_nw hW hN⟩⟩ rfl rfl hl.1 rfl (lv_room (Nat.le_of_ble_eq_true rfl)) dX2_road_2 ⟨Nat.le_of_ble_eq_true rfl, Nat.le_of_ble_eq_true rfl⟩) hS (fun q _ h => h.elim) (fun q h => h.elim) (fun r_2 u t H1 locs ht hvm hw_2 hB hz1 hk1 hS => ?_)
  have hE : s.heap = H1 := hB.symm.trans ht
  subst hE
  refine lv_aload_n hx hb dX2_road_5 rfl (lv_at hl 0 rfl) ?_
  refine lv_iload_n hx hb dX2_road_6 rfl (lv_at hl 2 rfl) ?_
  have hPc := hP.sub (ws' := []) [] rfl
  refine va_calli (va_runSN (As := [.int p1]) (rest := [.ref dr, .int r_2]) ⟨hx, hb, hml, hown, hts⟩ (mz_g_bit l dC dI cI cJ cZ p1 s.heap ) ⟨va_cnB (host := "MadeItSo") 1 hts gX2_road_X7_bit_n37 rfl rfl rfl (hN (RX2, 37, yX7_bit, "MadeItSo") (by decide +kernel)) (hts (.initialized RX7) (by decide +kernel)) (by decide +kernel) ⟨Nat.le_of_ble_eq_true rfl, Nat.le_of_ble_eq_true rfl⟩, hts (.static yX7_bit) (by decide +kernel), trivial⟩ ⟨fun a U g mk q => mz_blP q, fun U hU hW => ⟨rfl, hU, hPc, va_K.moved hW.alike hK, mz_nw hW hN⟩⟩ rfl rfl hl.1 rfl (lv_room (Nat.le_of_ble_eq_true rfl)) dX2_road_7 ⟨Nat.le_of_ble_eq_true rfl, Nat.le_of_ble_eq_true rfl⟩) hS (fun q _ h => h.elim) (fun q h => h.elim) (fun r_7 u t H1 locs ht hvm hw_7 hB hz1 hk1 hS => ?_)
  have hE : s.heap = H1 := hB.symm.trans ht
  subst hE
  obtain rfl : r_7 = (1 <<< (p1 &&& 31)) := hw_7
  refine lv_aload_n hx hb dX2_road_10 rfl (lv_at hl 0 rfl) ?_
  refine va_get (D := (dC, dI)) (ci := 2) (v := .ref dp) (C := RX2) (T := TX2) (N := 3) hx hb hts hiX2 hown hK hP 0 rfl rfl 0 (by decide) (hts (.fieldLink RX2 9 "MadeItSo$Drawing" "parents" "[I") (by decide +kernel)) (fun _ h9 => h9) rfl dX2_road_11 ?_
  have hPc := hP.sub (ws' := [(dr, .inr (2, [.ref dp, .ref dc, .int (nI n)])), (dp, .inl (cI, 8, .inl fp))]) [0, 1] rfl
  refine va_calli (va_runV (As := [.int (1 <<< (p1 &&& 31)), .ref dp]) (rest := [.int r_2]) ⟨hx, hb, hml, hown, hts⟩ (mz_d_spread_p l dC dI cI cJ cZ dr dp dc n fp (1 <<< (p1 &&& 31)) s.heap ) (cwV 2 hts gX2_road_X2_spread rfl rfl rfl (by decide +kernel) ⟨Nat.le_of_ble_eq_true rfl, Nat.le_of_ble_eq_true rfl⟩) ⟨fun a U g mk q => mz_blP q, va_recv hK hPc (ci := 2) (q0 := 0) rfl rfl, fun U hU hW => ⟨rfl, hU, hPc, va_K.moved hW.alike hK, mz_nw hW hN⟩⟩ rfl rfl hl.1 rfl (lv_room (Nat.le_of_ble_eq_true rfl)) dX2_road_14 ⟨Nat.le_of_ble_eq_true rfl, Nat.le_of_ble_eq_true rfl⟩) hS (fun q _ h => h.elim) (fun q h => h.elim) (fun r_14 u t H1 locs ht hvm hw_14 hB hz1 hk1 hS => ?_)
  have hE : s.heap = H1 := hB.symm.trans ht
  subst hE
  refine lv_iand hx hb dX2_road_17 ?_
  refine lv_topi (fun v_17 ev_17 => ?_)
  refine W.widen (k := 0) (n := 0) (Nat.le_of_ble_eq_true rfl) (Nat.le_of_ble_eq_true rfl) ?_
  exact W.iret (v := v_17) hx hb hr (fun t ht hW => ⟨⟨v_17, (), rfl, trivial, ht⟩, hS.F ht⟩) hS.2.2 dX2_road_18
set_option maxHeartbeats 1000000 in
set_option maxRecDepth 100000 in
theorem mz_d_canJoin (l : Launch) (dC : Nat → ClassId) (dI : Nat → Nat → Nat) (cI cJ cZ : ClassId) (dr : Nat) (dp : Nat) (dc : Nat) (n : Nat) (fp : Nat → Int32) (fc : Nat → Int32) (p0 : Int32) (p1 : Int32) (Hq : Heap) (hn : n ≤ 8) : Met l yX2_canJoin wsX2_canJoin ({ frames := 5, cells := 0, slots := 0, locals := 111 }) (va_Pc [.ref dr, .int p0, .int p1] (fun U => U.heap = Hq ∧ va_P (dC, dI) vwCl [(dr, .inr (2, [.ref dp, .ref dc, .int (nI n)])), (dp, .inl (cI, 8, .inl fp)), (dc, .inl (cI, 8, .inl fc))] Hq ∧ va_K (dC, dI) vwCl [(cI, FieldType.int), (cJ, FieldType.long), (cZ, FieldType.boolean)] U ∧ mz_N U)) (va_Qi (fun (r : Int32) (_ : Unit) => r = 0 ∨ r = 1) (fun _ t => t.heap = Hq) (fun _ : Nat => False)) 0 0 (fun _ : Nat => False) := by
  refine Met.ofW (cc := cX2_canJoin) (maxL := 3) (ret := (some .boolean)) (by decide) rfl ?_
  intro p e s m args below meth c s₁ B hml hv
  obtain ⟨rfl, hH, hP, hK, hN⟩ := hv
  subst hH
  have hx := B.exec
  have hb := B.bytes
  have hr := B.returns
  have hts := atoms_spec (ws := wsX2_canJoin) B.pre
  have hown : s.vm.findClass RX2 = some m.cls := findClass_of_methodNamed B.named
  have hlocks := B.notSynchronized
  have hS : va_S (fun _ : Nat => False) s.heap s.heap [] := va_S.rf
  have hl := lv_entry ([.ref dr, .int p0, .int p1]) (n := 3) (Nat.le_of_ble_eq_true rfl)
  rw [lg_entry_eq]
  generalize (lg_sl ([.ref dr, .int p0, .int p1]) ++ List.replicate (3 - (lg_sl ([.ref dr, .int p0, .int p1])).length) Slot.unset).toArray = ls at hl ⊢
  have hl : lv_has ls 3 [(0, .ref dr), (1, .int p0), (2, .int p1)] := hl
  refine lv_iload_n hx hb dX2_canJoin_0 rfl (lv_at hl 1 rfl) ?_
  refine lv_iload_n hx hb dX2_canJoin_1 rfl (lv_at hl 2 rfl) ?_
  refine lv_icmp_eq (tgt := 33) hx hb dX2_canJoin_2 (by decide) (fun c_2 => ?_) (fun c_2 => ?_)
  · skip
    refine lv_iconst (v := 0) hx hb dX2_canJoin_33 (by decide +kernel) ?_
    refine W.widen (k := 0) (n := 0) (Nat.le_of_ble_eq_true rfl) (Nat.le_of_ble_eq_true rfl) ?_
    exact W.zret (v := 0) hx hb hr (mz_nz (by decide +kernel)) (fun t ht hW => ⟨⟨0, (), rfl, Or.inl rfl, ht⟩, hS.F ht⟩) hS.2.2 dX2_canJoin_34
  · skip
    refine lv_aload_n hx hb dX2_canJoin_5 rfl (lv_at hl 0 rfl) ?_
    refine lv_iload_n hx hb dX2_canJoin_6 rfl (lv_at hl 1 rfl) ?_
    have hPc := hP.sub (ws' := [(dr, .inr (2, [.ref dp, .ref dc, .int (nI n)])), (dp, .inl (cI, 8, .inl fp)), (dc, .inl (cI, 8, .inl fc))]) [0, 1, 2] rfl
    refine va_calli (va_runV (As := [.int p0]) (rest := []) ⟨hx, hb, hml, hown, hts⟩ (mz_d_joinedTo l dC dI cI cJ cZ dr dp dc n fp fc p0 s.heap (by first | assumption | omega)) (cwV 1 hts gX2_canJoin_X2_joinedTo rfl rfl rfl (by decide +kernel) ⟨Nat.le_of_ble_eq_true rfl, Nat.le_of_ble_eq_true rfl⟩) ⟨fun a U g mk q => mz_blP q, va_recv hK hPc (ci := 2) (q0 := 0) rfl rfl, fun U hU hW => ⟨rfl, hU, hPc, va_K.moved hW.alike hK, mz_nw hW hN⟩⟩ rfl rfl hl.1 rfl (lv_room (Nat.le_of_ble_eq_true rfl)) dX2_canJoin_7 ⟨Nat.le_of_ble_eq_true rfl, Nat.le_of_ble_eq_true rfl⟩) hS (fun q _ h => h.elim) (fun q h => h.elim) (fun r_7 u t H1 locs ht hvm hw_7 hB hz1 hk1 hS => ?_)
    have hE : s.heap = H1 := hB.symm.trans ht
    subst hE
    refine lv_iload_n hx hb dX2_canJoin_10 rfl (lv_at hl 2 rfl) ?_
    have hPc := hP.sub (ws' := []) [] rfl
    refine va_calli (va_runSN (As := [.int r_7, .int p1]) (rest := []) ⟨hx, hb, hml, hown, hts⟩ (mz_g_inHeap l dC dI cI cJ cZ r_7 p1 s.heap ) ⟨va_cnB (host := "MadeItSo") 2 hts gX2_canJoin_X7_inHeap_n26 rfl rfl rfl (hN (RX2, 26, yX7_inHeap, "MadeItSo") (by decide +kernel)) (hts (.initialized RX7) (by decide +kernel)) (by decide +kernel) ⟨Nat.le_of_ble_eq_true rfl, Nat.le_of_ble_eq_true rfl⟩, hts (.static yX7_inHeap) (by decide +kernel), trivial⟩ ⟨fun a U g mk q => mz_blP q, fun U hU hW => ⟨rfl, hU, hPc, va_K.moved hW.alike hK, mz_nw hW hN⟩⟩ rfl rfl hl.1 rfl (lv_room (Nat.le_of_ble_eq_true rfl)) dX2_canJoin_11 ⟨Nat.le_of_ble_eq_true rfl, Nat.le_of_ble_eq_true rfl⟩) hS (fun q _ h => h.elim) (fun q h => h.elim) (fun r_11 u t H1 locs ht hvm hw_11 hB hz1 hk1 hS => ?_)
    have hE : s.heap = H1 := hB.symm.trans ht
    subst hE
    refine lv_if_ne (tgt := 33) hx hb dX2_canJoin_14 (by decide) (fun c_14 => ?_) (fun c_14 => ?_)
    · skip
      refine lv_iconst (v := 0) hx hb dX2_canJoin_33 (by decide +kernel) ?_
      refine W.widen (k := 0) (n := 0) (Nat.le_of_ble_eq_true rfl) (Nat.le_of_ble_eq_true rfl) ?_
      exact W.zret (v := 0) hx hb hr (mz_nz (by decide +kernel)) (fun t ht hW => ⟨⟨0, (), rfl, Or.inl rfl, ht⟩, hS.F ht⟩) hS.2.2 dX2_canJoin_34
    · skip
      refine lv_aload_n hx hb dX2_canJoin_17 rfl (lv_at hl 0 rfl) ?_
      refine lv_iload_n hx hb dX2_canJoin_18 rfl (lv_at hl 2 rfl) ?_
      have hPc := hP.sub (ws' := [(dr, .inr (2, [.ref dp, .ref dc, .int (nI n)])), (dc, .inl (cI, 8, .inl fc))]) [0, 2] rfl
      refine va_calli (va_runV (As := [.int p1]) (rest := []) ⟨hx, hb, hml, hown, hts⟩ (mz_d_allBelow l dC dI cI cJ cZ dr dp dc n fc p1 s.heap (by first | assumption | omega)) (cwV 1 hts gX2_canJoin_X2_allBelow rfl rfl rfl (by decide +kernel) ⟨Nat.le_of_ble_eq_true rfl, Nat.le_of_ble_eq_true rfl⟩) ⟨fun a U g mk q => mz_blP q, va_recv hK hPc (ci := 2) (q0 := 0) rfl rfl, fun U hU hW => ⟨rfl, hU, hPc, va_K.moved hW.alike hK, mz_nw hW hN⟩⟩ rfl rfl hl.1 rfl (lv_room (Nat.le_of_ble_eq_true rfl)) dX2_canJoin_19 ⟨Nat.le_of_ble_eq_true rfl, Nat.le_of_ble_eq_true rfl⟩) hS (fun q _ h => h.elim) (fun q h => h.elim) (fun r_19 u t H1 locs ht hvm hw_19 hB hz1 hk1 hS => ?_)
      have hE : s.heap = H1 := hB.symm.trans ht
      subst hE
      refine lv_iload_n hx hb dX2_canJoin_22 rfl (lv_at hl 1 rfl) ?_
      have hPc := hP.sub (ws' := []) [] rfl
      refine va_calli (va_runSN (As := [.int r_19, .int p0]) (rest := []) ⟨hx, hb, hml, hown, hts⟩ (mz_g_inHeap l dC dI cI cJ cZ r_19 p0 s.heap ) ⟨va_cnB (host := "MadeItSo") 2 hts gX2_canJoin_X7_inHeap_n26 rfl rfl rfl (hN (RX2, 26, yX7_inHeap, "MadeItSo") (by decide +kernel)) (hts (.initialized RX7) (by decide +kernel)) (by decide +kernel) ⟨Nat.le_of_ble_eq_true rfl, Nat.le_of_ble_eq_true rfl⟩, hts (.static yX7_inHeap) (by decide +kernel), trivial⟩ ⟨fun a U g mk q => mz_blP q, fun U hU hW => ⟨rfl, hU, hPc, va_K.moved hW.alike hK, mz_nw hW hN⟩⟩ rfl rfl hl.1 rfl (lv_room (Nat.le_of_ble_eq_true rfl)) dX2_canJoin_23 ⟨Nat.le_of_ble_eq_true rfl, Nat.le_of_ble_eq_true rfl⟩) hS (fun q _ h => h.elim) (fun q h => h.elim) (fun r_23 u t H1 locs ht hvm hw_23 hB hz1 hk1 hS => ?_)
      have hE : s.heap = H1 := hB.symm.trans ht
      subst hE
      refine lv_if_ne (tgt := 33) hx hb dX2_canJoin_26 (by decide) (fun c_26 => ?_) (fun c_26 => ?_)
      · skip
        refine lv_iconst (v := 0) hx hb dX2_canJoin_33 (by decide +kernel) ?_
        refine W.widen (k := 0) (n := 0) (Nat.le_of_ble_eq_true rfl) (Nat.le_of_ble_eq_true rfl) ?_
        exact W.zret (v := 0) hx hb hr (mz_nz (by decide +kernel)) (fun t ht hW => ⟨⟨0, (), rfl, Or.inl rfl, ht⟩, hS.F ht⟩) hS.2.2 dX2_canJoin_34
      · skip
        refine lv_iconst (v := 1) hx hb dX2_canJoin_29 (by decide +kernel) ?_
        refine lv_goto (tgt := 34) hx hb dX2_canJoin_30 (by decide) ?_
        refine W.widen (k := 0) (n := 0) (Nat.le_of_ble_eq_true rfl) (Nat.le_of_ble_eq_true rfl) ?_
        exact W.zret (v := 1) hx hb hr (mz_nz (by decide +kernel)) (fun t ht hW => ⟨⟨1, (), rfl, Or.inr rfl, ht⟩, hS.F ht⟩) hS.2.2 dX2_canJoin_34
set_option maxHeartbeats 1000000 in
set_option maxRecDepth 100000 in
theorem mz_d_arrows (l : Launch) (dC : Nat → ClassId) (dI : Nat → Nat → Nat) (cI cJ cZ : ClassId) (dr : Nat) (dp : Nat) (dc : Nat) (n : Nat) (fp : Nat → Int32) (Hq : Heap) (hn : n ≤ 8) : Met l yX2_arrows wsX2_arrows ({ frames := 1, cells := 0, slots := 0, locals := 20 }) (va_Pc [.ref dr] (fun U => U.heap = Hq ∧ va_P (dC, dI) vwCl [(dr, .inr (2, [.ref dp, .ref dc, .int (nI n)])), (dp, .inl (cI, 8, .inl fp))] Hq ∧ va_K (dC, dI) vwCl [(cI, FieldType.int), (cJ, FieldType.long), (cZ, FieldType.boolean)] U ∧ mz_N U)) (va_Qi (fun (r : Int32) (_ : Unit) => True) (fun _ t => t.heap = Hq) (fun _ : Nat => False)) 0 0 (fun _ : Nat => False) := by
  refine Met.ofW (cc := cX2_arrows) (maxL := 3) (ret := (some .int)) (by decide) rfl ?_
  intro p e s m args below meth c s₁ B hml hv
  obtain ⟨rfl, hH, hP, hK, hN⟩ := hv
  subst hH
  have hx := B.exec
  have hb := B.bytes
  have hr := B.returns
  have hts := atoms_spec (ws := wsX2_arrows) B.pre
  have hown : s.vm.findClass RX2 = some m.cls := findClass_of_methodNamed B.named
  have hlocks := B.notSynchronized
  have hS : va_S (fun _ : Nat => False) s.heap s.heap [] := va_S.rf
  have hiX2 : ∀ w ∈ u_ws RX2 TX2 3, w ∈ wsX2_arrows := by decide +kernel
  have hl := lv_entry ([.ref dr]) (n := 3) (Nat.le_of_ble_eq_true rfl)
  rw [lg_entry_eq]
  generalize (lg_sl ([.ref dr]) ++ List.replicate (3 - (lg_sl ([.ref dr])).length) Slot.unset).toArray = ls at hl ⊢
  have hl : lv_has ls 3 [(0, .ref dr)] := hl
  refine lv_iconst (v := 0) hx hb dX2_arrows_0 (by decide +kernel) ?_
  refine lv_istore_n (lv' := [(1, .int 0), (0, .ref dr)]) hx hb dX2_arrows_1 rfl hl (by decide) rfl (fun ls hl => ?_)
  refine lv_iconst (v := 0) hx hb dX2_arrows_2 (by decide +kernel) ?_
  refine lv_istore_n (lv' := [(2, .int 0), (1, .int 0), (0, .ref dr)]) hx hb dX2_arrows_3 rfl hl (by decide) rfl (fun ls hl => ?_)
  refine mz_loopU (fun k H locs ls => ∃ (i_4 : Nat), ∃ (x1_4 : Int32), i_4 ≤ n ∧ H = s.heap ∧ va_S (fun _ : Nat => False) s.heap H locs ∧ lv_has ls 3 [(2, .int (nI i_4)), (1, .int x1_4), (0, .ref dr)] ∧ k = n - i_4) ?_ _ _ _ _ ⟨0, 0, by omega, rfl, hS, lv_sub hl [0, 1, 2] rfl, rfl⟩
  intro k_4 H locs ls hI_4 ih_4
  obtain ⟨i_4, x1_4, hi_4, hH_4, hS, hl, hk_4⟩ := hI_4
  subst hH_4
  refine lv_iload_n hx hb dX2_arrows_4 rfl (lv_at hl 0 rfl) ?_
  refine lv_aload_n hx hb dX2_arrows_5 rfl (lv_at hl 2 rfl) ?_
  refine va_get (D := (dC, dI)) (ci := 2) (v := .int (nI n)) (C := RX2) (T := TX2) (N := 3) hx hb hts hiX2 hown hK hP 0 rfl rfl 2 (by decide) (hts (.fieldLink RX2 18 "MadeItSo$Drawing" "things" "I") (by decide +kernel)) (fun _ h9 => h9) rfl dX2_arrows_6 ?_
  refine lv_icmp_ge (tgt := 30) hx hb dX2_arrows_9 (by decide) (fun c_9 => ?_) (fun c_9 => ?_)
  · skip
    have d_9 : n ≤ i_4 := (nI_leI (a := n) (b := i_4) (by omega) (by omega)).mp c_9
    refine lv_iload_n hx hb dX2_arrows_30 rfl (lv_at hl 1 rfl) ?_
    refine W.widen (k := 0) (n := 0) (Nat.le_of_ble_eq_true rfl) (Nat.le_of_ble_eq_true rfl) ?_
    exact W.iret (v := x1_4) hx hb hr (fun t ht hW => ⟨⟨x1_4, (), rfl, trivial, ht⟩, hS.F ht⟩) hS.2.2 dX2_arrows_31
  · skip
    have d_9 : ¬ n ≤ i_4 := fun h => c_9 ((nI_leI (a := n) (b := i_4) (by omega) (by omega)).mpr h)
    refine lv_iload_n hx hb dX2_arrows_12 rfl (lv_at hl 1 rfl) ?_
    refine lv_aload_n hx hb dX2_arrows_13 rfl (lv_at hl 2 rfl) ?_
    refine va_get (D := (dC, dI)) (ci := 2) (v := .ref dp) (C := RX2) (T := TX2) (N := 3) hx hb hts hiX2 hown hK hP 0 rfl rfl 0 (by decide) (hts (.fieldLink RX2 9 "MadeItSo$Drawing" "parents" "[I") (by decide +kernel)) (fun _ h9 => h9) rfl dX2_arrows_14 ?_
    refine lv_iload_n hx hb dX2_arrows_17 rfl (lv_at hl 0 rfl) ?_
    refine va_iald hx hb hK hP 1 0 rfl rfl (vp_in_nI (by omega) (by omega)) dX2_arrows_18 ?_
    refine lv_topi (fun v_18 ev_18 => ?_)
    have hPc := hP.sub (ws' := []) [] rfl
    refine va_calli (va_runS (As := [.int v_18]) (rest := [.int x1_4]) ⟨hx, hb, hml, hown, hts⟩ (mz_g_bitCount l dC dI cI cJ cZ v_18 s.heap ) (va_cwS 1 hts gX2_arrows_J6_bitCount_0f7a4 rfl rfl rfl (by decide +kernel) ⟨Nat.le_of_ble_eq_true rfl, Nat.le_of_ble_eq_true rfl⟩) ⟨fun a U g mk q => mz_blP q, fun U hU hW => ⟨rfl, hU, hPc, va_K.moved hW.alike hK, mz_nw hW hN⟩⟩ rfl rfl hl.1 rfl (lv_room (Nat.le_of_ble_eq_true rfl)) dX2_arrows_19 ⟨Nat.le_of_ble_eq_true rfl, Nat.le_of_ble_eq_true rfl⟩) hS (fun q _ h => h.elim) (fun q h => h.elim) (fun r_19 u t H1 locs ht hvm hw_19 hB hz1 hk1 hS => ?_)
    have hE : s.heap = H1 := hB.symm.trans ht
    subst hE
    refine lv_iadd hx hb dX2_arrows_22 ?_
    refine lv_topi (fun v_22 ev_22 => ?_)
    refine lv_istore_n (lv' := [(1, .int v_22), (2, .int (nI i_4)), (0, .ref dr)]) hx hb dX2_arrows_23 rfl hl (by decide) rfl (fun ls hl => ?_)
    refine lv_iinc (v := (nI (i_4 + 1))) (lv' := [(2, .int (nI (i_4 + 1))), (1, .int v_22), (0, .ref dr)]) hx hb dX2_arrows_24 hl (k := 1) rfl (nI_1 _) (by decide) rfl (fun ls hl => ?_)
    refine lv_goto (tgt := 4) hx hb dX2_arrows_27 (by decide) ?_
    exact ih_4 _ (by omega) _ _ _ ⟨(i_4 + 1), v_22, by omega, rfl, hS, lv_sub hl [0, 1, 2] rfl, rfl⟩
set_option maxHeartbeats 1000000 in
set_option maxRecDepth 100000 in
theorem mz_d_nextAfter (l : Launch) (dC : Nat → ClassId) (dI : Nat → Nat → Nat) (cI cJ cZ : ClassId) (dr : Nat) (dp : Nat) (dc : Nat) (n : Nat) (fp : Nat → Int32) (p0 : Int32) (Hq : Heap) (hn : n ≤ 8) : Met l yX2_nextAfter wsX2_nextAfter ({ frames := 1, cells := 0, slots := 0, locals := 21 }) (va_Pc [.ref dr, .int p0] (fun U => U.heap = Hq ∧ va_P (dC, dI) vwCl [(dr, .inr (2, [.ref dp, .ref dc, .int (nI n)])), (dp, .inl (cI, 8, .inl fp))] Hq ∧ va_K (dC, dI) vwCl [(cI, FieldType.int), (cJ, FieldType.long), (cZ, FieldType.boolean)] U ∧ mz_N U)) (va_Qi (fun (r : Int32) (_ : Unit) => True) (fun _ t => t.heap = Hq) (fun _ : Nat => False)) 0 0 (fun _ : Nat => False) := by
  refine Met.ofW (cc := cX2_nextAfter) (maxL := 3) (ret := (some .int)) (by decide) rfl ?_
  intro p e s m args below meth c s₁ B hml hv
  obtain ⟨rfl, hH, hP, hK, hN⟩ := hv
  subst hH
  have hx := B.exec
  have hb := B.bytes
  have hr := B.returns
  have hts := atoms_spec (ws := wsX2_nextAfter) B.pre
  have hown : s.vm.findClass RX2 = some m.cls := findClass_of_methodNamed B.named
  have hlocks := B.notSynchronized
  have hS : va_S (fun _ : Nat => False) s.heap s.heap [] := va_S.rf
  have hiX2 : ∀ w ∈ u_ws RX2 TX2 3, w ∈ wsX2_nextAfter := by decide +kernel
  have hl := lv_entry ([.ref dr, .int p0]) (n := 3) (Nat.le_of_ble_eq_true rfl)
  rw [lg_entry_eq]
  generalize (lg_sl ([.ref dr, .int p0]) ++ List.replicate (3 - (lg_sl ([.ref dr, .int p0])).length) Slot.unset).toArray = ls at hl ⊢
  have hl : lv_has ls 3 [(0, .ref dr), (1, .int p0)] := hl
  refine lv_iconst (v := 0) hx hb dX2_nextAfter_0 (by decide +kernel) ?_
  refine lv_istore_n (lv' := [(2, .int 0), (0, .ref dr), (1, .int p0)]) hx hb dX2_nextAfter_1 rfl hl (by decide) rfl (fun ls hl => ?_)
  refine mz_loopU (fun k H locs ls => ∃ (i_2 : Nat), i_2 ≤ n ∧ H = s.heap ∧ va_S (fun _ : Nat => False) s.heap H locs ∧ lv_has ls 3 [(2, .int (nI i_2)), (0, .ref dr), (1, .int p0)] ∧ k = n - i_2) ?_ _ _ _ _ ⟨0, by omega, rfl, hS, lv_sub hl [0, 1, 2] rfl, rfl⟩
  intro k_2 H locs ls hI_2 ih_2
  obtain ⟨i_2, hi_2, hH_2, hS, hl, hk_2⟩ := hI_2
  subst hH_2
  refine lv_iload_n hx hb dX2_nextAfter_2 rfl (lv_at hl 0 rfl) ?_
  refine lv_aload_n hx hb dX2_nextAfter_3 rfl (lv_at hl 1 rfl) ?_
  refine va_get (D := (dC, dI)) (ci := 2) (v := .int (nI n)) (C := RX2) (T := TX2) (N := 3) hx hb hts hiX2 hown hK hP 0 rfl rfl 2 (by decide) (hts (.fieldLink RX2 18 "MadeItSo$Drawing" "things" "I") (by decide +kernel)) (fun _ h9 => h9) rfl dX2_nextAfter_4 ?_
  refine lv_icmp_ge (tgt := 39) hx hb dX2_nextAfter_7 (by decide) (fun c_7 => ?_) (fun c_7 => ?_)
  · skip
    have d_7 : n ≤ i_2 := (nI_leI (a := n) (b := i_2) (by omega) (by omega)).mp c_7
    refine lv_iconst (v := (-1)) hx hb dX2_nextAfter_39 (by decide +kernel) ?_
    refine W.widen (k := 0) (n := 0) (Nat.le_of_ble_eq_true rfl) (Nat.le_of_ble_eq_true rfl) ?_
    exact W.iret (v := (-1)) hx hb hr (fun t ht hW => ⟨⟨(-1), (), rfl, trivial, ht⟩, hS.F ht⟩) hS.2.2 dX2_nextAfter_40
  · skip
    have d_7 : ¬ n ≤ i_2 := fun h => c_7 ((nI_leI (a := n) (b := i_2) (by omega) (by omega)).mpr h)
    refine lv_iload_n hx hb dX2_nextAfter_10 rfl (lv_at hl 2 rfl) ?_
    refine lv_iload_n hx hb dX2_nextAfter_11 rfl (lv_at hl 0 rfl) ?_
    have hPc := hP.sub (ws' := []) [] rfl
    refine va_calli (va_runSN (As := [.int p0, .int (nI i_2)]) (rest := []) ⟨hx, hb, hml, hown, hts⟩ (mz_g_inHeap l dC dI cI cJ cZ p0 (nI i_2) s.heap ) ⟨va_cnB (host := "MadeItSo") 2 hts gX2_nextAfter_X7_inHeap_n26 rfl rfl rfl (hN (RX2, 26, yX7_inHeap, "MadeItSo") (by decide +kernel)) (hts (.initialized RX7) (by decide +kernel)) (by decide +kernel) ⟨Nat.le_of_ble_eq_true rfl, Nat.le_of_ble_eq_true rfl⟩, hts (.static yX7_inHeap) (by decide +kernel), trivial⟩ ⟨fun a U g mk q => mz_blP q, fun U hU hW => ⟨rfl, hU, hPc, va_K.moved hW.alike hK, mz_nw hW hN⟩⟩ rfl rfl hl.1 rfl (lv_room (Nat.le_of_ble_eq_true rfl)) dX2_nextAfter_12 ⟨Nat.le_of_ble_eq_true rfl, Nat.le_of_ble_eq_true rfl⟩) hS (fun q _ h => h.elim) (fun q h => h.elim) (fun r_12 u t H1 locs ht hvm hw_12 hB hz1 hk1 hS => ?_)
    have hE : s.heap = H1 := hB.symm.trans ht
    subst hE
    refine lv_if_ne (tgt := 33) hx hb dX2_nextAfter_15 (by decide) (fun c_15 => ?_) (fun c_15 => ?_)
    · skip
      refine lv_iinc (v := (nI (i_2 + 1))) (lv' := [(2, .int (nI (i_2 + 1))), (0, .ref dr), (1, .int p0)]) hx hb dX2_nextAfter_33 hl (k := 0) rfl (nI_1 _) (by decide) rfl (fun ls hl => ?_)
      refine lv_goto (tgt := 2) hx hb dX2_nextAfter_36 (by decide) ?_
      exact ih_2 _ (by omega) _ _ _ ⟨(i_2 + 1), by omega, rfl, hS, lv_sub hl [0, 1, 2] rfl, rfl⟩
    · skip
      refine lv_aload_n hx hb dX2_nextAfter_18 rfl (lv_at hl 1 rfl) ?_
      refine va_get (D := (dC, dI)) (ci := 2) (v := .ref dp) (C := RX2) (T := TX2) (N := 3) hx hb hts hiX2 hown hK hP 0 rfl rfl 0 (by decide) (hts (.fieldLink RX2 9 "MadeItSo$Drawing" "parents" "[I") (by decide +kernel)) (fun _ h9 => h9) rfl dX2_nextAfter_19 ?_
      refine lv_iload_n hx hb dX2_nextAfter_22 rfl (lv_at hl 0 rfl) ?_
      refine va_iald hx hb hK hP 1 0 rfl rfl (vp_in_nI (by omega) (by omega)) dX2_nextAfter_23 ?_
      refine lv_topi (fun v_23 ev_23 => ?_)
      refine lv_iload_n hx hb dX2_nextAfter_24 rfl (lv_at hl 2 rfl) ?_
      refine lv_iconst (v := (-1)) hx hb dX2_nextAfter_25 (by decide +kernel) ?_
      refine lv_ixor hx hb dX2_nextAfter_26 ?_
      refine lv_topi (fun v_26 ev_26 => ?_)
      refine lv_iand hx hb dX2_nextAfter_27 ?_
      refine lv_topi (fun v_27 ev_27 => ?_)
      refine lv_if_ne (tgt := 33) hx hb dX2_nextAfter_28 (by decide) (fun c_28 => ?_) (fun c_28 => ?_)
      · skip
        refine lv_iinc (v := (nI (i_2 + 1))) (lv' := [(2, .int (nI (i_2 + 1))), (0, .ref dr), (1, .int p0)]) hx hb dX2_nextAfter_33 hl (k := 0) rfl (nI_1 _) (by decide) rfl (fun ls hl => ?_)
        refine lv_goto (tgt := 2) hx hb dX2_nextAfter_36 (by decide) ?_
        exact ih_2 _ (by omega) _ _ _ ⟨(i_2 + 1), by omega, rfl, hS, lv_sub hl [0, 1, 2] rfl, rfl⟩
      · skip
        refine lv_iload_n hx hb dX2_nextAfter_31 rfl (lv_at hl 0 rfl) ?_
        refine W.widen (k := 0) (n := 0) (Nat.le_of_ble_eq_true rfl) (Nat.le_of_ble_eq_true rfl) ?_
        exact W.iret (v := (nI i_2)) hx hb hr (fun t ht hW => ⟨⟨(nI i_2), (), rfl, trivial, ht⟩, hS.F ht⟩) hS.2.2 dX2_nextAfter_32
set_option maxHeartbeats 1000000 in
set_option maxRecDepth 100000 in
theorem mz_d_barred (l : Launch) (dC : Nat → ClassId) (dI : Nat → Nat → Nat) (cI cJ cZ : ClassId) (dr : Nat) (dp : Nat) (dc : Nat) (n : Nat) (fp : Nat → Int32) (fc : Nat → Int32) (p0 : Int32) (p1 : Int32) (p2 : Int32) (Hq : Heap)  : Met l yX2_barred wsX2_barred ({ frames := 3, cells := 0, slots := 0, locals := 69 }) (va_Pc [.ref dr, .int p0, .int p1, .int p2] (fun U => U.heap = Hq ∧ va_P (dC, dI) vwCl [(dr, .inr (2, [.ref dp, .ref dc, .int (nI n)])), (dp, .inl (cI, 8, .inl fp)), (dc, .inl (cI, 8, .inl fc))] Hq ∧ va_K (dC, dI) vwCl [(cI, FieldType.int), (cJ, FieldType.long), (cZ, FieldType.boolean)] U ∧ mz_N U)) (va_Qi (fun (r : Int32) (_ : Unit) => r = 0 ∨ r = 1) (fun _ t => t.heap = Hq) (fun _ : Nat => False)) 0 0 (fun _ : Nat => False) := by
  refine Met.ofW (cc := cX2_barred) (maxL := 12) (ret := (some .boolean)) (by decide) rfl ?_
  intro p e s m args below meth c s₁ B hml hv
  obtain ⟨rfl, hH, hP, hK, hN⟩ := hv
  subst hH
  have hx := B.exec
  have hb := B.bytes
  have hr := B.returns
  have hts := atoms_spec (ws := wsX2_barred) B.pre
  have hown : s.vm.findClass RX2 = some m.cls := findClass_of_methodNamed B.named
  have hlocks := B.notSynchronized
  have hS : va_S (fun _ : Nat => False) s.heap s.heap [] := va_S.rf
  have hiX2 : ∀ w ∈ u_ws RX2 TX2 3, w ∈ wsX2_barred := by decide +kernel
  have hl := lv_entry ([.ref dr, .int p0, .int p1, .int p2]) (n := 12) (Nat.le_of_ble_eq_true rfl)
  rw [lg_entry_eq]
  generalize (lg_sl ([.ref dr, .int p0, .int p1, .int p2]) ++ List.replicate (12 - (lg_sl ([.ref dr, .int p0, .int p1, .int p2])).length) Slot.unset).toArray = ls at hl ⊢
  have hl : lv_has ls 12 [(0, .ref dr), (1, .int p0), (2, .int p1), (3, .int p2)] := hl
  refine lv_aload_n hx hb dX2_barred_0 rfl (lv_at hl 0 rfl) ?_
  refine lv_iload_n hx hb dX2_barred_1 rfl (lv_at hl 3 rfl) ?_
  refine lv_aload_n hx hb dX2_barred_2 rfl (lv_at hl 0 rfl) ?_
  refine va_get (D := (dC, dI)) (ci := 2) (v := .ref dp) (C := RX2) (T := TX2) (N := 3) hx hb hts hiX2 hown hK hP 0 rfl rfl 0 (by decide) (hts (.fieldLink RX2 9 "MadeItSo$Drawing" "parents" "[I") (by decide +kernel)) (fun _ h9 => h9) rfl dX2_barred_3 ?_
  have hPc := hP.sub (ws' := [(dr, .inr (2, [.ref dp, .ref dc, .int (nI n)])), (dp, .inl (cI, 8, .inl fp))]) [0, 1] rfl
  refine va_calli (va_runV (As := [.int p2, .ref dp]) (rest := []) ⟨hx, hb, hml, hown, hts⟩ (mz_d_spread_p l dC dI cI cJ cZ dr dp dc n fp p2 s.heap ) (cwV 2 hts gX2_barred_X2_spread rfl rfl rfl (by decide +kernel) ⟨Nat.le_of_ble_eq_true rfl, Nat.le_of_ble_eq_true rfl⟩) ⟨fun a U g mk q => mz_blP q, va_recv hK hPc (ci := 2) (q0 := 0) rfl rfl, fun U hU hW => ⟨rfl, hU, hPc, va_K.moved hW.alike hK, mz_nw hW hN⟩⟩ rfl rfl hl.1 rfl (lv_room (Nat.le_of_ble_eq_true rfl)) dX2_barred_6 ⟨Nat.le_of_ble_eq_true rfl, Nat.le_of_ble_eq_true rfl⟩) hS (fun q _ h => h.elim) (fun q h => h.elim) (fun r_6 u t H1 locs ht hvm hw_6 hB hz1 hk1 hS => ?_)
  have hE : s.heap = H1 := hB.symm.trans ht
  subst hE
  refine lv_istore (lv' := [(4, .int r_6), (0, .ref dr), (1, .int p0), (2, .int p1), (3, .int p2)]) hx hb dX2_barred_9 hl (by decide) rfl (fun ls hl => ?_)
  refine lv_iload_n hx hb dX2_barred_11 rfl (lv_at hl 2 rfl) ?_
  refine lv_istore (lv' := [(5, .int p0), (4, .int r_6), (0, .ref dr), (1, .int p0), (2, .int p1), (3, .int p2)]) hx hb dX2_barred_12 hl (by decide) rfl (fun ls hl => ?_)
  refine lv_iconst (v := 0) hx hb dX2_barred_14 (by decide +kernel) ?_
  refine lv_istore (lv' := [(6, .int 0), (5, .int p0), (4, .int r_6), (0, .ref dr), (1, .int p0), (2, .int p1), (3, .int p2)]) hx hb dX2_barred_15 hl (by decide) rfl (fun ls hl => ?_)
  refine lv_iconst (v := 0) hx hb dX2_barred_17 (by decide +kernel) ?_
  refine lv_istore (lv' := [(7, .int 0), (6, .int 0), (5, .int p0), (4, .int r_6), (0, .ref dr), (1, .int p0), (2, .int p1), (3, .int p2)]) hx hb dX2_barred_18 hl (by decide) rfl (fun ls hl => ?_)
  refine mz_loopU (fun k H locs ls => ∃ (i_20 : Nat), ∃ (x6_20 : Int32), ∃ (x5_20 : Int32), i_20 ≤ 16 ∧ H = s.heap ∧ va_S (fun _ : Nat => False) s.heap H locs ∧ lv_has ls 12 [(7, .int (nI i_20)), (6, .int x6_20), (5, .int x5_20), (4, .int r_6), (0, .ref dr), (1, .int p0), (2, .int p1), (3, .int p2)] ∧ k = 16 - i_20) ?_ _ _ _ _ ⟨0, 0, p0, by omega, rfl, hS, lv_sub hl [0, 1, 2, 3, 4, 5, 6, 7] rfl, rfl⟩
  intro k_20 H locs ls hI_20 ih_20
  obtain ⟨i_20, x6_20, x5_20, hi_20, hH_20, hS, hl, hk_20⟩ := hI_20
  subst hH_20
  refine lv_iload hx hb dX2_barred_20 (lv_at hl 0 rfl) ?_
  refine lv_bipush (v := 16) hx hb dX2_barred_22 (by decide +kernel) ?_
  refine lv_icmp_ge (tgt := 111) hx hb dX2_barred_24 (by decide) (fun c_24 => ?_) (fun c_24 => ?_)
  · skip
    have d_24 : 16 ≤ i_20 := (nI_leI (a := 16) (b := i_20) (by omega) (by omega)).mp c_24
    refine lv_iload hx hb dX2_barred_111 (lv_at hl 2 rfl) ?_
    refine lv_iload hx hb dX2_barred_113 (lv_at hl 1 rfl) ?_
    refine lv_ior hx hb dX2_barred_115 ?_
    refine lv_topi (fun v_115 ev_115 => ?_)
    refine lv_iload_n hx hb dX2_barred_116 rfl (lv_at hl 6 rfl) ?_
    refine lv_iand hx hb dX2_barred_117 ?_
    refine lv_topi (fun v_117 ev_117 => ?_)
    refine lv_if_ne (tgt := 125) hx hb dX2_barred_118 (by decide) (fun c_118 => ?_) (fun c_118 => ?_)
    · skip
      refine lv_iconst (v := 0) hx hb dX2_barred_125 (by decide +kernel) ?_
      refine W.widen (k := 0) (n := 0) (Nat.le_of_ble_eq_true rfl) (Nat.le_of_ble_eq_true rfl) ?_
      exact W.zret (v := 0) hx hb hr (mz_nz (by decide +kernel)) (fun t ht hW => ⟨⟨0, (), rfl, Or.inl rfl, ht⟩, hS.F ht⟩) hS.2.2 dX2_barred_126
    · skip
      refine lv_iconst (v := 1) hx hb dX2_barred_121 (by decide +kernel) ?_
      refine lv_goto (tgt := 126) hx hb dX2_barred_122 (by decide) ?_
      refine W.widen (k := 0) (n := 0) (Nat.le_of_ble_eq_true rfl) (Nat.le_of_ble_eq_true rfl) ?_
      exact W.zret (v := 1) hx hb hr (mz_nz (by decide +kernel)) (fun t ht hW => ⟨⟨1, (), rfl, Or.inr rfl, ht⟩, hS.F ht⟩) hS.2.2 dX2_barred_126
  · skip
    have d_24 : ¬ 16 ≤ i_20 := fun h => c_24 ((nI_leI (a := 16) (b := i_20) (by omega) (by omega)).mpr h)
    refine lv_iload hx hb dX2_barred_27 (lv_at hl 2 rfl) ?_
    refine lv_iload_n hx hb dX2_barred_29 rfl (lv_at hl 7 rfl) ?_
    refine lv_iconst (v := (-1)) hx hb dX2_barred_30 (by decide +kernel) ?_
    refine lv_ixor hx hb dX2_barred_31 ?_
    refine lv_topi (fun v_31 ev_31 => ?_)
    refine lv_iand hx hb dX2_barred_32 ?_
    refine lv_topi (fun v_32 ev_32 => ?_)
    refine lv_iload hx hb dX2_barred_33 (lv_at hl 1 rfl) ?_
    refine lv_iload hx hb dX2_barred_35 (lv_at hl 3 rfl) ?_
    refine lv_iand hx hb dX2_barred_37 ?_
    refine lv_topi (fun v_37 ev_37 => ?_)
    refine lv_ior hx hb dX2_barred_38 ?_
    refine lv_topi (fun v_38 ev_38 => ?_)
    refine lv_istore (lv' := [(8, .int v_38), (7, .int (nI i_20)), (6, .int x6_20), (5, .int x5_20), (4, .int r_6), (0, .ref dr), (1, .int p0), (2, .int p1), (3, .int p2)]) hx hb dX2_barred_39 hl (by decide) rfl (fun ls hl => ?_)
    refine lv_iload hx hb dX2_barred_41 (lv_at hl 3 rfl) ?_
    refine lv_iload hx hb dX2_barred_43 (lv_at hl 2 rfl) ?_
    refine lv_ior hx hb dX2_barred_45 ?_
    refine lv_topi (fun v_45 ev_45 => ?_)
    refine lv_iload_n hx hb dX2_barred_46 rfl (lv_at hl 8 rfl) ?_
    refine lv_iconst (v := (-1)) hx hb dX2_barred_47 (by decide +kernel) ?_
    refine lv_ixor hx hb dX2_barred_48 ?_
    refine lv_topi (fun v_48 ev_48 => ?_)
    refine lv_iand hx hb dX2_barred_49 ?_
    refine lv_topi (fun v_49 ev_49 => ?_)
    refine lv_istore (lv' := [(9, .int v_49), (8, .int v_38), (7, .int (nI i_20)), (6, .int x6_20), (5, .int x5_20), (4, .int r_6), (0, .ref dr), (1, .int p0), (2, .int p1), (3, .int p2)]) hx hb dX2_barred_50 hl (by decide) rfl (fun ls hl => ?_)
    refine lv_iload hx hb dX2_barred_52 (lv_at hl 4 rfl) ?_
    refine lv_iload hx hb dX2_barred_54 (lv_at hl 1 rfl) ?_
    refine lv_aload_n hx hb dX2_barred_56 rfl (lv_at hl 6 rfl) ?_
    refine va_get (D := (dC, dI)) (ci := 2) (v := .ref dp) (C := RX2) (T := TX2) (N := 3) hx hb hts hiX2 hown hK hP 0 rfl rfl 0 (by decide) (hts (.fieldLink RX2 9 "MadeItSo$Drawing" "parents" "[I") (by decide +kernel)) (fun _ h9 => h9) rfl dX2_barred_57 ?_
    have hPc := hP.sub (ws' := [(dp, .inl (cI, 8, .inl fp))]) [1] rfl
    refine va_calli (va_runS (As := [.int v_38, .ref dp]) (rest := [.int x5_20]) ⟨hx, hb, hml, hown, hts⟩ (mz_d_gather l dC dI cI cJ cZ dp fp v_38 s.heap ) (va_cwS 2 hts gX2_barred_X2_gather rfl rfl rfl (by decide +kernel) ⟨Nat.le_of_ble_eq_true rfl, Nat.le_of_ble_eq_true rfl⟩) ⟨fun a U g mk q => mz_blP q, fun U hU hW => ⟨rfl, hU, hPc, va_K.moved hW.alike hK, mz_nw hW hN⟩⟩ rfl rfl hl.1 rfl (lv_room (Nat.le_of_ble_eq_true rfl)) dX2_barred_60 ⟨Nat.le_of_ble_eq_true rfl, Nat.le_of_ble_eq_true rfl⟩) hS (fun q _ h => h.elim) (fun q h => h.elim) (fun r_60 u t H1 locs ht hvm hw_60 hB hz1 hk1 hS => ?_)
    have hE : s.heap = H1 := hB.symm.trans ht
    subst hE
    refine lv_ior hx hb dX2_barred_63 ?_
    refine lv_topi (fun v_63 ev_63 => ?_)
    refine lv_istore (lv' := [(10, .int v_63), (9, .int v_49), (8, .int v_38), (7, .int (nI i_20)), (6, .int x6_20), (5, .int x5_20), (4, .int r_6), (0, .ref dr), (1, .int p0), (2, .int p1), (3, .int p2)]) hx hb dX2_barred_64 hl (by decide) rfl (fun ls hl => ?_)
    refine lv_iload hx hb dX2_barred_66 (lv_at hl 4 rfl) ?_
    refine lv_iload hx hb dX2_barred_68 (lv_at hl 1 rfl) ?_
    refine lv_aload_n hx hb dX2_barred_70 rfl (lv_at hl 7 rfl) ?_
    refine va_get (D := (dC, dI)) (ci := 2) (v := .ref dc) (C := RX2) (T := TX2) (N := 3) hx hb hts hiX2 hown hK hP 0 rfl rfl 1 (by decide) (hts (.fieldLink RX2 15 "MadeItSo$Drawing" "children" "[I") (by decide +kernel)) (fun _ h9 => h9) rfl dX2_barred_71 ?_
    have hPc := hP.sub (ws' := [(dc, .inl (cI, 8, .inl fc))]) [2] rfl
    refine va_calli (va_runS (As := [.int v_49, .ref dc]) (rest := [.int x6_20]) ⟨hx, hb, hml, hown, hts⟩ (mz_d_gather l dC dI cI cJ cZ dc fc v_49 s.heap ) (va_cwS 2 hts gX2_barred_X2_gather rfl rfl rfl (by decide +kernel) ⟨Nat.le_of_ble_eq_true rfl, Nat.le_of_ble_eq_true rfl⟩) ⟨fun a U g mk q => mz_blP q, fun U hU hW => ⟨rfl, hU, hPc, va_K.moved hW.alike hK, mz_nw hW hN⟩⟩ rfl rfl hl.1 rfl (lv_room (Nat.le_of_ble_eq_true rfl)) dX2_barred_74 ⟨Nat.le_of_ble_eq_true rfl, Nat.le_of_ble_eq_true rfl⟩) hS (fun q _ h => h.elim) (fun q h => h.elim) (fun r_74 u t H1 locs ht hvm hw_74 hB hz1 hk1 hS => ?_)
    have hE : s.heap = H1 := hB.symm.trans ht
    subst hE
    refine lv_ior hx hb dX2_barred_77 ?_
    refine lv_topi (fun v_77 ev_77 => ?_)
    refine lv_istore (lv' := [(11, .int v_77), (10, .int v_63), (9, .int v_49), (8, .int v_38), (7, .int (nI i_20)), (6, .int x6_20), (5, .int x5_20), (4, .int r_6), (0, .ref dr), (1, .int p0), (2, .int p1), (3, .int p2)]) hx hb dX2_barred_78 hl (by decide) rfl (fun ls hl => ?_)
    refine lv_iload hx hb dX2_barred_80 (lv_at hl 1 rfl) ?_
    refine lv_iload hx hb dX2_barred_82 (lv_at hl 6 rfl) ?_
    refine lv_icmp_ne (tgt := 97) hx hb dX2_barred_84 (by decide) (fun c_84 => ?_) (fun c_84 => ?_)
    · skip
      refine lv_iload hx hb dX2_barred_97 (lv_at hl 1 rfl) ?_
      refine lv_istore (lv' := [(5, .int v_63), (11, .int v_77), (10, .int v_63), (9, .int v_49), (8, .int v_38), (7, .int (nI i_20)), (6, .int x6_20), (4, .int r_6), (0, .ref dr), (1, .int p0), (2, .int p1), (3, .int p2)]) hx hb dX2_barred_99 hl (by decide) rfl (fun ls hl => ?_)
      refine lv_iload hx hb dX2_barred_101 (lv_at hl 1 rfl) ?_
      refine lv_istore (lv' := [(6, .int v_77), (5, .int v_63), (11, .int v_77), (10, .int v_63), (9, .int v_49), (8, .int v_38), (7, .int (nI i_20)), (4, .int r_6), (0, .ref dr), (1, .int p0), (2, .int p1), (3, .int p2)]) hx hb dX2_barred_103 hl (by decide) rfl (fun ls hl => ?_)
      refine lv_iinc (v := (nI (i_20 + 1))) (lv' := [(7, .int (nI (i_20 + 1))), (6, .int v_77), (5, .int v_63), (11, .int v_77), (10, .int v_63), (9, .int v_49), (8, .int v_38), (4, .int r_6), (0, .ref dr), (1, .int p0), (2, .int p1), (3, .int p2)]) hx hb dX2_barred_105 hl (k := 6) rfl (nI_1 _) (by decide) rfl (fun ls hl => ?_)
      refine lv_goto (tgt := 20) hx hb dX2_barred_108 (by decide) ?_
      exact ih_20 _ (by omega) _ _ _ ⟨(i_20 + 1), v_77, v_63, by omega, rfl, hS, lv_sub hl [0, 1, 2, 7, 8, 9, 10, 11] rfl, rfl⟩
    · skip
      refine lv_iload hx hb dX2_barred_87 (lv_at hl 0 rfl) ?_
      refine lv_iload hx hb dX2_barred_89 (lv_at hl 5 rfl) ?_
      refine lv_icmp_ne (tgt := 97) hx hb dX2_barred_91 (by decide) (fun c_91 => ?_) (fun c_91 => ?_)
      · skip
        refine lv_iload hx hb dX2_barred_97 (lv_at hl 1 rfl) ?_
        refine lv_istore (lv' := [(5, .int v_63), (11, .int v_77), (10, .int v_63), (9, .int v_49), (8, .int v_38), (7, .int (nI i_20)), (6, .int x6_20), (4, .int r_6), (0, .ref dr), (1, .int p0), (2, .int p1), (3, .int p2)]) hx hb dX2_barred_99 hl (by decide) rfl (fun ls hl => ?_)
        refine lv_iload hx hb dX2_barred_101 (lv_at hl 1 rfl) ?_
        refine lv_istore (lv' := [(6, .int v_77), (5, .int v_63), (11, .int v_77), (10, .int v_63), (9, .int v_49), (8, .int v_38), (7, .int (nI i_20)), (4, .int r_6), (0, .ref dr), (1, .int p0), (2, .int p1), (3, .int p2)]) hx hb dX2_barred_103 hl (by decide) rfl (fun ls hl => ?_)
        refine lv_iinc (v := (nI (i_20 + 1))) (lv' := [(7, .int (nI (i_20 + 1))), (6, .int v_77), (5, .int v_63), (11, .int v_77), (10, .int v_63), (9, .int v_49), (8, .int v_38), (4, .int r_6), (0, .ref dr), (1, .int p0), (2, .int p1), (3, .int p2)]) hx hb dX2_barred_105 hl (k := 6) rfl (nI_1 _) (by decide) rfl (fun ls hl => ?_)
        refine lv_goto (tgt := 20) hx hb dX2_barred_108 (by decide) ?_
        exact ih_20 _ (by omega) _ _ _ ⟨(i_20 + 1), v_77, v_63, by omega, rfl, hS, lv_sub hl [0, 1, 2, 7, 8, 9, 10, 11] rfl, rfl⟩
      · skip
        refine lv_goto (tgt := 111) hx hb dX2_barred_94 (by decide) ?_
        refine lv_iload hx hb dX2_barred_111 (lv_at hl 6 rfl) ?_
        refine lv_iload hx hb dX2_barred_113 (lv_at hl 5 rfl) ?_
        refine lv_ior hx hb dX2_barred_115 ?_
        refine lv_topi (fun v_115 ev_115 => ?_)
        refine lv_iload_n hx hb dX2_barred_116 rfl (lv_at hl 10 rfl) ?_
        refine lv_iand hx hb dX2_barred_117 ?_
        refine lv_topi (fun v_117 ev_117 => ?_)
        refine lv_if_ne (tgt := 125) hx hb dX2_barred_118 (by decide) (fun c_118 => ?_) (fun c_118 => ?_)
        · skip
          refine lv_iconst (v := 0) hx hb dX2_barred_125 (by decide +kernel) ?_
          refine W.widen (k := 0) (n := 0) (Nat.le_of_ble_eq_true rfl) (Nat.le_of_ble_eq_true rfl) ?_
          exact W.zret (v := 0) hx hb hr (mz_nz (by decide +kernel)) (fun t ht hW => ⟨⟨0, (), rfl, Or.inl rfl, ht⟩, hS.F ht⟩) hS.2.2 dX2_barred_126
        · skip
          refine lv_iconst (v := 1) hx hb dX2_barred_121 (by decide +kernel) ?_
          refine lv_goto (tgt := 126) hx hb dX2_barred_122 (by decide) ?_
          refine W.widen (k := 0) (n := 0) (Nat.le_of_ble_eq_true rfl) (Nat.le_of_ble_eq_true rfl) ?_
          exact W.zret (v := 1) hx hb hr (mz_nz (by decide +kernel)) (fun t ht hW => ⟨⟨1, (), rfl, Or.inr rfl, ht⟩, hS.F ht⟩) hS.2.2 dX2_barred_126
set_option maxHeartbeats 1000000 in
set_option maxRecDepth 100000 in
theorem mz_d_apart (l : Launch) (dC : Nat → ClassId) (dI : Nat → Nat → Nat) (cI cJ cZ : ClassId) (dr : Nat) (dp : Nat) (dc : Nat) (n : Nat) (fp : Nat → Int32) (fc : Nat → Int32) (p0 : Int32) (Hq : Heap) (hn : n ≤ 8) : Met l yX2_apart wsX2_apart ({ frames := 2, cells := 0, slots := 0, locals := 42 }) (va_Pc [.ref dr, .int p0] (fun U => U.heap = Hq ∧ va_P (dC, dI) vwCl [(dr, .inr (2, [.ref dp, .ref dc, .int (nI n)])), (dp, .inl (cI, 8, .inl fp)), (dc, .inl (cI, 8, .inl fc))] Hq ∧ va_K (dC, dI) vwCl [(cI, FieldType.int), (cJ, FieldType.long), (cZ, FieldType.boolean)] U ∧ mz_N U)) (va_Qi (fun (r : Int32) (_ : Unit) => r = 0 ∨ r = 1) (fun _ t => t.heap = Hq) (fun _ : Nat => False)) 0 0 (fun _ : Nat => False) := by
  refine Met.ofW (cc := cX2_apart) (maxL := 3) (ret := (some .boolean)) (by decide) rfl ?_
  intro p e s m args below meth c s₁ B hml hv
  obtain ⟨rfl, hH, hP, hK, hN⟩ := hv
  subst hH
  have hx := B.exec
  have hb := B.bytes
  have hr := B.returns
  have hts := atoms_spec (ws := wsX2_apart) B.pre
  have hown : s.vm.findClass RX2 = some m.cls := findClass_of_methodNamed B.named
  have hlocks := B.notSynchronized
  have hS : va_S (fun _ : Nat => False) s.heap s.heap [] := va_S.rf
  have hiX2 : ∀ w ∈ u_ws RX2 TX2 3, w ∈ wsX2_apart := by decide +kernel
  have hl := lv_entry ([.ref dr, .int p0]) (n := 3) (Nat.le_of_ble_eq_true rfl)
  rw [lg_entry_eq]
  generalize (lg_sl ([.ref dr, .int p0]) ++ List.replicate (3 - (lg_sl ([.ref dr, .int p0])).length) Slot.unset).toArray = ls at hl ⊢
  have hl : lv_has ls 3 [(0, .ref dr), (1, .int p0)] := hl
  refine lv_iconst (v := 0) hx hb dX2_apart_0 (by decide +kernel) ?_
  refine lv_istore_n (lv' := [(2, .int 0), (0, .ref dr), (1, .int p0)]) hx hb dX2_apart_1 rfl hl (by decide) rfl (fun ls hl => ?_)
  refine mz_loopU (fun k H locs ls => ∃ (i_2 : Nat), i_2 ≤ n ∧ H = s.heap ∧ va_S (fun _ : Nat => False) s.heap H locs ∧ lv_has ls 3 [(2, .int (nI i_2)), (0, .ref dr), (1, .int p0)] ∧ k = n - i_2) ?_ _ _ _ _ ⟨0, by omega, rfl, hS, lv_sub hl [0, 1, 2] rfl, rfl⟩
  intro k_2 H locs ls hI_2 ih_2
  obtain ⟨i_2, hi_2, hH_2, hS, hl, hk_2⟩ := hI_2
  subst hH_2
  refine lv_iload_n hx hb dX2_apart_2 rfl (lv_at hl 0 rfl) ?_
  refine lv_aload_n hx hb dX2_apart_3 rfl (lv_at hl 1 rfl) ?_
  refine va_get (D := (dC, dI)) (ci := 2) (v := .int (nI n)) (C := RX2) (T := TX2) (N := 3) hx hb hts hiX2 hown hK hP 0 rfl rfl 2 (by decide) (hts (.fieldLink RX2 18 "MadeItSo$Drawing" "things" "I") (by decide +kernel)) (fun _ h9 => h9) rfl dX2_apart_4 ?_
  refine lv_icmp_ge (tgt := 36) hx hb dX2_apart_7 (by decide) (fun c_7 => ?_) (fun c_7 => ?_)
  · skip
    have d_7 : n ≤ i_2 := (nI_leI (a := n) (b := i_2) (by omega) (by omega)).mp c_7
    refine lv_iconst (v := 1) hx hb dX2_apart_36 (by decide +kernel) ?_
    refine W.widen (k := 0) (n := 0) (Nat.le_of_ble_eq_true rfl) (Nat.le_of_ble_eq_true rfl) ?_
    exact W.zret (v := 1) hx hb hr (mz_nz (by decide +kernel)) (fun t ht hW => ⟨⟨1, (), rfl, Or.inr rfl, ht⟩, hS.F ht⟩) hS.2.2 dX2_apart_37
  · skip
    have d_7 : ¬ n ≤ i_2 := fun h => c_7 ((nI_leI (a := n) (b := i_2) (by omega) (by omega)).mpr h)
    refine lv_iload_n hx hb dX2_apart_10 rfl (lv_at hl 2 rfl) ?_
    refine lv_iload_n hx hb dX2_apart_11 rfl (lv_at hl 0 rfl) ?_
    have hPc := hP.sub (ws' := []) [] rfl
    refine va_calli (va_runSN (As := [.int p0, .int (nI i_2)]) (rest := []) ⟨hx, hb, hml, hown, hts⟩ (mz_g_inHeap l dC dI cI cJ cZ p0 (nI i_2) s.heap ) ⟨va_cnB (host := "MadeItSo") 2 hts gX2_apart_X7_inHeap_n26 rfl rfl rfl (hN (RX2, 26, yX7_inHeap, "MadeItSo") (by decide +kernel)) (hts (.initialized RX7) (by decide +kernel)) (by decide +kernel) ⟨Nat.le_of_ble_eq_true rfl, Nat.le_of_ble_eq_true rfl⟩, hts (.static yX7_inHeap) (by decide +kernel), trivial⟩ ⟨fun a U g mk q => mz_blP q, fun U hU hW => ⟨rfl, hU, hPc, va_K.moved hW.alike hK, mz_nw hW hN⟩⟩ rfl rfl hl.1 rfl (lv_room (Nat.le_of_ble_eq_true rfl)) dX2_apart_12 ⟨Nat.le_of_ble_eq_true rfl, Nat.le_of_ble_eq_true rfl⟩) hS (fun q _ h => h.elim) (fun q h => h.elim) (fun r_12 u t H1 locs ht hvm hw_12 hB hz1 hk1 hS => ?_)
    have hE : s.heap = H1 := hB.symm.trans ht
    subst hE
    refine lv_if_eq (tgt := 30) hx hb dX2_apart_15 (by decide) (fun c_15 => ?_) (fun c_15 => ?_)
    · skip
      refine lv_iinc (v := (nI (i_2 + 1))) (lv' := [(2, .int (nI (i_2 + 1))), (0, .ref dr), (1, .int p0)]) hx hb dX2_apart_30 hl (k := 0) rfl (nI_1 _) (by decide) rfl (fun ls hl => ?_)
      refine lv_goto (tgt := 2) hx hb dX2_apart_33 (by decide) ?_
      exact ih_2 _ (by omega) _ _ _ ⟨(i_2 + 1), by omega, rfl, hS, lv_sub hl [0, 1, 2] rfl, rfl⟩
    · skip
      refine lv_aload_n hx hb dX2_apart_18 rfl (lv_at hl 1 rfl) ?_
      refine lv_iload_n hx hb dX2_apart_19 rfl (lv_at hl 0 rfl) ?_
      have hPc := hP.sub (ws' := [(dr, .inr (2, [.ref dp, .ref dc, .int (nI n)])), (dp, .inl (cI, 8, .inl fp)), (dc, .inl (cI, 8, .inl fc))]) [0, 1, 2] rfl
      refine va_calli (va_runV (As := [.int (nI i_2)]) (rest := []) ⟨hx, hb, hml, hown, hts⟩ (mz_d_joinedTo l dC dI cI cJ cZ dr dp dc n fp fc (nI i_2) s.heap (by first | assumption | omega)) (cwV 1 hts gX2_apart_X2_joinedTo rfl rfl rfl (by decide +kernel) ⟨Nat.le_of_ble_eq_true rfl, Nat.le_of_ble_eq_true rfl⟩) ⟨fun a U g mk q => mz_blP q, va_recv hK hPc (ci := 2) (q0 := 0) rfl rfl, fun U hU hW => ⟨rfl, hU, hPc, va_K.moved hW.alike hK, mz_nw hW hN⟩⟩ rfl rfl hl.1 rfl (lv_room (Nat.le_of_ble_eq_true rfl)) dX2_apart_20 ⟨Nat.le_of_ble_eq_true rfl, Nat.le_of_ble_eq_true rfl⟩) hS (fun q _ h => h.elim) (fun q h => h.elim) (fun r_20 u t H1 locs ht hvm hw_20 hB hz1 hk1 hS => ?_)
      have hE : s.heap = H1 := hB.symm.trans ht
      subst hE
      refine lv_iload_n hx hb dX2_apart_23 rfl (lv_at hl 2 rfl) ?_
      refine lv_iand hx hb dX2_apart_24 ?_
      refine lv_topi (fun v_24 ev_24 => ?_)
      refine lv_if_eq (tgt := 30) hx hb dX2_apart_25 (by decide) (fun c_25 => ?_) (fun c_25 => ?_)
      · skip
        refine lv_iinc (v := (nI (i_2 + 1))) (lv' := [(2, .int (nI (i_2 + 1))), (0, .ref dr), (1, .int p0)]) hx hb dX2_apart_30 hl (k := 0) rfl (nI_1 _) (by decide) rfl (fun ls hl => ?_)
        refine lv_goto (tgt := 2) hx hb dX2_apart_33 (by decide) ?_
        exact ih_2 _ (by omega) _ _ _ ⟨(i_2 + 1), by omega, rfl, hS, lv_sub hl [0, 1, 2] rfl, rfl⟩
      · skip
        refine lv_iconst (v := 0) hx hb dX2_apart_28 (by decide +kernel) ?_
        refine W.widen (k := 0) (n := 0) (Nat.le_of_ble_eq_true rfl) (Nat.le_of_ble_eq_true rfl) ?_
        exact W.zret (v := 0) hx hb hr (mz_nz (by decide +kernel)) (fun t ht hW => ⟨⟨0, (), rfl, Or.inl rfl, ht⟩, hS.F ht⟩) hS.2.2 dX2_apart_29
set_option maxHeartbeats 1000000 in
set_option maxRecDepth 100000 in
theorem mz_d_unjoinedWith (l : Launch) (dC : Nat → ClassId) (dI : Nat → Nat → Nat) (cI cJ cZ : ClassId) (dr : Nat) (dp : Nat) (dc : Nat) (n : Nat) (fp : Nat → Int32) (fc : Nat → Int32) (p0 : Int32) (p1 : Int32) (Hq : Heap) (hn : n ≤ 8) : Met l yX2_unjoinedWith wsX2_unjoinedWith ({ frames := 2, cells := 0, slots := 0, locals := 42 }) (va_Pc [.ref dr, .int p0, .int p1] (fun U => U.heap = Hq ∧ va_P (dC, dI) vwCl [(dr, .inr (2, [.ref dp, .ref dc, .int (nI n)])), (dp, .inl (cI, 8, .inl fp)), (dc, .inl (cI, 8, .inl fc))] Hq ∧ va_K (dC, dI) vwCl [(cI, FieldType.int), (cJ, FieldType.long), (cZ, FieldType.boolean)] U ∧ mz_N U)) (va_Qi (fun (r : Int32) (_ : Unit) => True) (fun _ t => t.heap = Hq) (fun _ : Nat => False)) 0 0 (fun _ : Nat => False) := by
  refine Met.ofW (cc := cX2_unjoinedWith) (maxL := 3) (ret := (some .int)) (by decide) rfl ?_
  intro p e s m args below meth c s₁ B hml hv
  obtain ⟨rfl, hH, hP, hK, hN⟩ := hv
  subst hH
  have hx := B.exec
  have hb := B.bytes
  have hr := B.returns
  have hts := atoms_spec (ws := wsX2_unjoinedWith) B.pre
  have hown : s.vm.findClass RX2 = some m.cls := findClass_of_methodNamed B.named
  have hlocks := B.notSynchronized
  have hS : va_S (fun _ : Nat => False) s.heap s.heap [] := va_S.rf
  have hl := lv_entry ([.ref dr, .int p0, .int p1]) (n := 3) (Nat.le_of_ble_eq_true rfl)
  rw [lg_entry_eq]
  generalize (lg_sl ([.ref dr, .int p0, .int p1]) ++ List.replicate (3 - (lg_sl ([.ref dr, .int p0, .int p1])).length) Slot.unset).toArray = ls at hl ⊢
  have hl : lv_has ls 3 [(0, .ref dr), (1, .int p0), (2, .int p1)] := hl
  refine lv_iload_n hx hb dX2_unjoinedWith_0 rfl (lv_at hl 2 rfl) ?_
  refine lv_iload_n hx hb dX2_unjoinedWith_1 rfl (lv_at hl 1 rfl) ?_
  have hPc := hP.sub (ws' := []) [] rfl
  refine va_calli (va_runSN (As := [.int p1, .int p0]) (rest := []) ⟨hx, hb, hml, hown, hts⟩ (mz_g_inHeap l dC dI cI cJ cZ p1 p0 s.heap ) ⟨va_cnB (host := "MadeItSo") 2 hts gX2_unjoinedWith_X7_inHeap_n26 rfl rfl rfl (hN (RX2, 26, yX7_inHeap, "MadeItSo") (by decide +kernel)) (hts (.initialized RX7) (by decide +kernel)) (by decide +kernel) ⟨Nat.le_of_ble_eq_true rfl, Nat.le_of_ble_eq_true rfl⟩, hts (.static yX7_inHeap) (by decide +kernel), trivial⟩ ⟨fun a U g mk q => mz_blP q, fun U hU hW => ⟨rfl, hU, hPc, va_K.moved hW.alike hK, mz_nw hW hN⟩⟩ rfl rfl hl.1 rfl (lv_room (Nat.le_of_ble_eq_true rfl)) dX2_unjoinedWith_2 ⟨Nat.le_of_ble_eq_true rfl, Nat.le_of_ble_eq_true rfl⟩) hS (fun q _ h => h.elim) (fun q h => h.elim) (fun r_2 u t H1 locs ht hvm hw_2 hB hz1 hk1 hS => ?_)
  have hE : s.heap = H1 := hB.symm.trans ht
  subst hE
  refine lv_if_eq (tgt := 27) hx hb dX2_unjoinedWith_5 (by decide) (fun c_5 => ?_) (fun c_5 => ?_)
  · skip
    refine lv_iconst (v := 0) hx hb dX2_unjoinedWith_27 (by decide +kernel) ?_
    refine W.widen (k := 0) (n := 0) (Nat.le_of_ble_eq_true rfl) (Nat.le_of_ble_eq_true rfl) ?_
    exact W.iret (v := 0) hx hb hr (fun t ht hW => ⟨⟨0, (), rfl, trivial, ht⟩, hS.F ht⟩) hS.2.2 dX2_unjoinedWith_28
  · skip
    refine lv_iload_n hx hb dX2_unjoinedWith_8 rfl (lv_at hl 2 rfl) ?_
    refine lv_aload_n hx hb dX2_unjoinedWith_9 rfl (lv_at hl 0 rfl) ?_
    refine lv_iload_n hx hb dX2_unjoinedWith_10 rfl (lv_at hl 1 rfl) ?_
    have hPc := hP.sub (ws' := [(dr, .inr (2, [.ref dp, .ref dc, .int (nI n)])), (dp, .inl (cI, 8, .inl fp)), (dc, .inl (cI, 8, .inl fc))]) [0, 1, 2] rfl
    refine va_calli (va_runV (As := [.int p0]) (rest := [.int p1]) ⟨hx, hb, hml, hown, hts⟩ (mz_d_joinedTo l dC dI cI cJ cZ dr dp dc n fp fc p0 s.heap (by first | assumption | omega)) (cwV 1 hts gX2_unjoinedWith_X2_joinedTo rfl rfl rfl (by decide +kernel) ⟨Nat.le_of_ble_eq_true rfl, Nat.le_of_ble_eq_true rfl⟩) ⟨fun a U g mk q => mz_blP q, va_recv hK hPc (ci := 2) (q0 := 0) rfl rfl, fun U hU hW => ⟨rfl, hU, hPc, va_K.moved hW.alike hK, mz_nw hW hN⟩⟩ rfl rfl hl.1 rfl (lv_room (Nat.le_of_ble_eq_true rfl)) dX2_unjoinedWith_11 ⟨Nat.le_of_ble_eq_true rfl, Nat.le_of_ble_eq_true rfl⟩) hS (fun q _ h => h.elim) (fun q h => h.elim) (fun r_11 u t H1 locs ht hvm hw_11 hB hz1 hk1 hS => ?_)
    have hE : s.heap = H1 := hB.symm.trans ht
    subst hE
    refine lv_iconst (v := (-1)) hx hb dX2_unjoinedWith_14 (by decide +kernel) ?_
    refine lv_ixor hx hb dX2_unjoinedWith_15 ?_
    refine lv_topi (fun v_15 ev_15 => ?_)
    refine lv_iand hx hb dX2_unjoinedWith_16 ?_
    refine lv_topi (fun v_16 ev_16 => ?_)
    refine lv_iload_n hx hb dX2_unjoinedWith_17 rfl (lv_at hl 1 rfl) ?_
    have hPc := hP.sub (ws' := []) [] rfl
    refine va_calli (va_runSN (As := [.int p0]) (rest := [.int v_16]) ⟨hx, hb, hml, hown, hts⟩ (mz_g_bit l dC dI cI cJ cZ p0 s.heap ) ⟨va_cnB (host := "MadeItSo") 1 hts gX2_unjoinedWith_X7_bit_n37 rfl rfl rfl (hN (RX2, 37, yX7_bit, "MadeItSo") (by decide +kernel)) (hts (.initialized RX7) (by decide +kernel)) (by decide +kernel) ⟨Nat.le_of_ble_eq_true rfl, Nat.le_of_ble_eq_true rfl⟩, hts (.static yX7_bit) (by decide +kernel), trivial⟩ ⟨fun a U g mk q => mz_blP q, fun U hU hW => ⟨rfl, hU, hPc, va_K.moved hW.alike hK, mz_nw hW hN⟩⟩ rfl rfl hl.1 rfl (lv_room (Nat.le_of_ble_eq_true rfl)) dX2_unjoinedWith_18 ⟨Nat.le_of_ble_eq_true rfl, Nat.le_of_ble_eq_true rfl⟩) hS (fun q _ h => h.elim) (fun q h => h.elim) (fun r_18 u t H1 locs ht hvm hw_18 hB hz1 hk1 hS => ?_)
    have hE : s.heap = H1 := hB.symm.trans ht
    subst hE
    obtain rfl : r_18 = (1 <<< (p0 &&& 31)) := hw_18
    refine lv_iconst (v := (-1)) hx hb dX2_unjoinedWith_21 (by decide +kernel) ?_
    refine lv_ixor hx hb dX2_unjoinedWith_22 ?_
    refine lv_topi (fun v_22 ev_22 => ?_)
    refine lv_iand hx hb dX2_unjoinedWith_23 ?_
    refine lv_topi (fun v_23 ev_23 => ?_)
    refine lv_goto (tgt := 28) hx hb dX2_unjoinedWith_24 (by decide) ?_
    refine W.widen (k := 0) (n := 0) (Nat.le_of_ble_eq_true rfl) (Nat.le_of_ble_eq_true rfl) ?_
    exact W.iret (v := v_23) hx hb hr (fun t ht hW => ⟨⟨v_23, (), rfl, trivial, ht⟩, hS.F ht⟩) hS.2.2 dX2_unjoinedWith_28
set_option maxHeartbeats 1000000 in
set_option maxRecDepth 100000 in
theorem mz_d_sameThirds (l : Launch) (dC : Nat → ClassId) (dI : Nat → Nat → Nat) (cI cJ cZ : ClassId) (dr : Nat) (dp : Nat) (dc : Nat) (n : Nat) (fp : Nat → Int32) (fc : Nat → Int32) (p0 : Int32) (p1 : Int32) (Hq : Heap) (hn : n ≤ 8) : Met l yX2_sameThirds wsX2_sameThirds ({ frames := 3, cells := 0, slots := 0, locals := 64 }) (va_Pc [.ref dr, .int p0, .int p1] (fun U => U.heap = Hq ∧ va_P (dC, dI) vwCl [(dr, .inr (2, [.ref dp, .ref dc, .int (nI n)])), (dp, .inl (cI, 8, .inl fp)), (dc, .inl (cI, 8, .inl fc))] Hq ∧ va_K (dC, dI) vwCl [(cI, FieldType.int), (cJ, FieldType.long), (cZ, FieldType.boolean)] U ∧ mz_N U)) (va_Qi (fun (r : Int32) (_ : Unit) => r = 0 ∨ r = 1) (fun _ t => t.heap = Hq) (fun _ : Nat => False)) 0 0 (fun _ : Nat => False) := by
  refine Met.ofW (cc := cX2_sameThirds) (maxL := 5) (ret := (some .boolean)) (by decide) rfl ?_
  intro p e s m args below meth c s₁ B hml hv
  obtain ⟨rfl, hH, hP, hK, hN⟩ := hv
  subst hH
  have hx := B.exec
  have hb := B.bytes
  have hr := B.returns
  have hts := atoms_spec (ws := wsX2_sameThirds) B.pre
  have hown : s.vm.findClass RX2 = some m.cls := findClass_of_methodNamed B.named
  have hlocks := B.notSynchronized
  have hS : va_S (fun _ : Nat => False) s.heap s.heap [] := va_S.rf
  have hiX2 : ∀ w ∈ u_ws RX2 TX2 3, w ∈ wsX2_sameThirds := by decide +kernel
  have hl := lv_entry ([.ref dr, .int p0, .int p1]) (n := 5) (Nat.le_of_ble_eq_true rfl)
  rw [lg_entry_eq]
  generalize (lg_sl ([.ref dr, .int p0, .int p1]) ++ List.replicate (5 - (lg_sl ([.ref dr, .int p0, .int p1])).length) Slot.unset).toArray = ls at hl ⊢
  have hl : lv_has ls 5 [(0, .ref dr), (1, .int p0), (2, .int p1)] := hl
  refine lv_aload_n hx hb dX2_sameThirds_0 rfl (lv_at hl 0 rfl) ?_
  refine lv_iload_n hx hb dX2_sameThirds_1 rfl (lv_at hl 1 rfl) ?_
  have hPc := hP.sub (ws' := [(dr, .inr (2, [.ref dp, .ref dc, .int (nI n)])), (dp, .inl (cI, 8, .inl fp))]) [0, 1] rfl
  refine va_calli (va_runV (As := [.int p0]) (rest := []) ⟨hx, hb, hml, hown, hts⟩ (mz_d_parentsOf l dC dI cI cJ cZ dr dp dc n fp p0 s.heap (by first | assumption | omega)) (cwV 1 hts gX2_sameThirds_X2_parentsOf rfl rfl rfl (by decide +kernel) ⟨Nat.le_of_ble_eq_true rfl, Nat.le_of_ble_eq_true rfl⟩) ⟨fun a U g mk q => mz_blP q, va_recv hK hPc (ci := 2) (q0 := 0) rfl rfl, fun U hU hW => ⟨rfl, hU, hPc, va_K.moved hW.alike hK, mz_nw hW hN⟩⟩ rfl rfl hl.1 rfl (lv_room (Nat.le_of_ble_eq_true rfl)) dX2_sameThirds_2 ⟨Nat.le_of_ble_eq_true rfl, Nat.le_of_ble_eq_true rfl⟩) hS (fun q _ h => h.elim) (fun q h => h.elim) (fun r_2 u t H1 locs ht hvm hw_2 hB hz1 hk1 hS => ?_)
  have hE : s.heap = H1 := hB.symm.trans ht
  subst hE
  refine lv_istore_n (lv' := [(3, .int r_2), (0, .ref dr), (1, .int p0), (2, .int p1)]) hx hb dX2_sameThirds_5 rfl hl (by decide) rfl (fun ls hl => ?_)
  refine lv_iconst (v := 0) hx hb dX2_sameThirds_6 (by decide +kernel) ?_
  refine lv_istore (lv' := [(4, .int 0), (3, .int r_2), (0, .ref dr), (1, .int p0), (2, .int p1)]) hx hb dX2_sameThirds_7 hl (by decide) rfl (fun ls hl => ?_)
  refine mz_loopU (fun k H locs ls => ∃ (i_9 : Nat), i_9 ≤ n ∧ H = s.heap ∧ va_S (fun _ : Nat => False) s.heap H locs ∧ lv_has ls 5 [(4, .int (nI i_9)), (3, .int r_2), (0, .ref dr), (1, .int p0), (2, .int p1)] ∧ k = n - i_9) ?_ _ _ _ _ ⟨0, by omega, rfl, hS, lv_sub hl [0, 1, 2, 3, 4] rfl, rfl⟩
  intro k_9 H locs ls hI_9 ih_9
  obtain ⟨i_9, hi_9, hH_9, hS, hl, hk_9⟩ := hI_9
  subst hH_9
  refine lv_iload hx hb dX2_sameThirds_9 (lv_at hl 0 rfl) ?_
  refine lv_aload_n hx hb dX2_sameThirds_11 rfl (lv_at hl 2 rfl) ?_
  refine va_get (D := (dC, dI)) (ci := 2) (v := .int (nI n)) (C := RX2) (T := TX2) (N := 3) hx hb hts hiX2 hown hK hP 0 rfl rfl 2 (by decide) (hts (.fieldLink RX2 18 "MadeItSo$Drawing" "things" "I") (by decide +kernel)) (fun _ h9 => h9) rfl dX2_sameThirds_12 ?_
  refine lv_icmp_ge (tgt := 54) hx hb dX2_sameThirds_15 (by decide) (fun c_15 => ?_) (fun c_15 => ?_)
  · skip
    have d_15 : n ≤ i_9 := (nI_leI (a := n) (b := i_9) (by omega) (by omega)).mp c_15
    refine lv_iconst (v := 1) hx hb dX2_sameThirds_54 (by decide +kernel) ?_
    refine W.widen (k := 0) (n := 0) (Nat.le_of_ble_eq_true rfl) (Nat.le_of_ble_eq_true rfl) ?_
    exact W.zret (v := 1) hx hb hr (mz_nz (by decide +kernel)) (fun t ht hW => ⟨⟨1, (), rfl, Or.inr rfl, ht⟩, hS.F ht⟩) hS.2.2 dX2_sameThirds_55
  · skip
    have d_15 : ¬ n ≤ i_9 := fun h => c_15 ((nI_leI (a := n) (b := i_9) (by omega) (by omega)).mpr h)
    refine lv_iload_n hx hb dX2_sameThirds_18 rfl (lv_at hl 1 rfl) ?_
    refine lv_iload_n hx hb dX2_sameThirds_19 rfl (lv_at hl 4 rfl) ?_
    refine lv_ior hx hb dX2_sameThirds_20 ?_
    refine lv_topi (fun v_20 ev_20 => ?_)
    refine lv_iload hx hb dX2_sameThirds_21 (lv_at hl 0 rfl) ?_
    have hPc := hP.sub (ws' := []) [] rfl
    refine va_calli (va_runSN (As := [.int v_20, .int (nI i_9)]) (rest := []) ⟨hx, hb, hml, hown, hts⟩ (mz_g_inHeap l dC dI cI cJ cZ v_20 (nI i_9) s.heap ) ⟨va_cnB (host := "MadeItSo") 2 hts gX2_sameThirds_X7_inHeap_n26 rfl rfl rfl (hN (RX2, 26, yX7_inHeap, "MadeItSo") (by decide +kernel)) (hts (.initialized RX7) (by decide +kernel)) (by decide +kernel) ⟨Nat.le_of_ble_eq_true rfl, Nat.le_of_ble_eq_true rfl⟩, hts (.static yX7_inHeap) (by decide +kernel), trivial⟩ ⟨fun a U g mk q => mz_blP q, fun U hU hW => ⟨rfl, hU, hPc, va_K.moved hW.alike hK, mz_nw hW hN⟩⟩ rfl rfl hl.1 rfl (lv_room (Nat.le_of_ble_eq_true rfl)) dX2_sameThirds_23 ⟨Nat.le_of_ble_eq_true rfl, Nat.le_of_ble_eq_true rfl⟩) hS (fun q _ h => h.elim) (fun q h => h.elim) (fun r_23 u t H1 locs ht hvm hw_23 hB hz1 hk1 hS => ?_)
    have hE : s.heap = H1 := hB.symm.trans ht
    subst hE
    refine lv_if_eq (tgt := 48) hx hb dX2_sameThirds_26 (by decide) (fun c_26 => ?_) (fun c_26 => ?_)
    · skip
      refine lv_iinc (v := (nI (i_9 + 1))) (lv' := [(4, .int (nI (i_9 + 1))), (3, .int r_2), (0, .ref dr), (1, .int p0), (2, .int p1)]) hx hb dX2_sameThirds_48 hl (k := 0) rfl (nI_1 _) (by decide) rfl (fun ls hl => ?_)
      refine lv_goto (tgt := 9) hx hb dX2_sameThirds_51 (by decide) ?_
      exact ih_9 _ (by omega) _ _ _ ⟨(i_9 + 1), by omega, rfl, hS, lv_sub hl [0, 1, 2, 3, 4] rfl, rfl⟩
    · skip
      refine lv_aload_n hx hb dX2_sameThirds_29 rfl (lv_at hl 2 rfl) ?_
      refine lv_iload hx hb dX2_sameThirds_30 (lv_at hl 0 rfl) ?_
      refine lv_iload_n hx hb dX2_sameThirds_32 rfl (lv_at hl 4 rfl) ?_
      have hPc := hP.sub (ws' := [(dr, .inr (2, [.ref dp, .ref dc, .int (nI n)])), (dp, .inl (cI, 8, .inl fp)), (dc, .inl (cI, 8, .inl fc))]) [0, 1, 2] rfl
      refine va_calli (va_runV (As := [.int (nI i_9), .int p1]) (rest := []) ⟨hx, hb, hml, hown, hts⟩ (mz_d_unjoinedWith l dC dI cI cJ cZ dr dp dc n fp fc (nI i_9) p1 s.heap (by first | assumption | omega)) (cwV 2 hts gX2_sameThirds_X2_unjoinedWith rfl rfl rfl (by decide +kernel) ⟨Nat.le_of_ble_eq_true rfl, Nat.le_of_ble_eq_true rfl⟩) ⟨fun a U g mk q => mz_blP q, va_recv hK hPc (ci := 2) (q0 := 0) rfl rfl, fun U hU hW => ⟨rfl, hU, hPc, va_K.moved hW.alike hK, mz_nw hW hN⟩⟩ rfl rfl hl.1 rfl (lv_room (Nat.le_of_ble_eq_true rfl)) dX2_sameThirds_33 ⟨Nat.le_of_ble_eq_true rfl, Nat.le_of_ble_eq_true rfl⟩) hS (fun q _ h => h.elim) (fun q h => h.elim) (fun r_33 u t H1 locs ht hvm hw_33 hB hz1 hk1 hS => ?_)
      have hE : s.heap = H1 := hB.symm.trans ht
      subst hE
      refine lv_aload_n hx hb dX2_sameThirds_36 rfl (lv_at hl 2 rfl) ?_
      refine lv_iload hx hb dX2_sameThirds_37 (lv_at hl 0 rfl) ?_
      refine lv_iload_n hx hb dX2_sameThirds_39 rfl (lv_at hl 1 rfl) ?_
      have hPc := hP.sub (ws' := [(dr, .inr (2, [.ref dp, .ref dc, .int (nI n)])), (dp, .inl (cI, 8, .inl fp)), (dc, .inl (cI, 8, .inl fc))]) [0, 1, 2] rfl
      refine va_calli (va_runV (As := [.int (nI i_9), .int r_2]) (rest := [.int r_33]) ⟨hx, hb, hml, hown, hts⟩ (mz_d_unjoinedWith l dC dI cI cJ cZ dr dp dc n fp fc (nI i_9) r_2 s.heap (by first | assumption | omega)) (cwV 2 hts gX2_sameThirds_X2_unjoinedWith rfl rfl rfl (by decide +kernel) ⟨Nat.le_of_ble_eq_true rfl, Nat.le_of_ble_eq_true rfl⟩) ⟨fun a U g mk q => mz_blP q, va_recv hK hPc (ci := 2) (q0 := 0) rfl rfl, fun U hU hW => ⟨rfl, hU, hPc, va_K.moved hW.alike hK, mz_nw hW hN⟩⟩ rfl rfl hl.1 rfl (lv_room (Nat.le_of_ble_eq_true rfl)) dX2_sameThirds_40 ⟨Nat.le_of_ble_eq_true rfl, Nat.le_of_ble_eq_true rfl⟩) hS (fun q _ h => h.elim) (fun q h => h.elim) (fun r_40 u t H1 locs ht hvm hw_40 hB hz1 hk1 hS => ?_)
      have hE : s.heap = H1 := hB.symm.trans ht
      subst hE
      refine lv_icmp_eq (tgt := 48) hx hb dX2_sameThirds_43 (by decide) (fun c_43 => ?_) (fun c_43 => ?_)
      · skip
        refine lv_iinc (v := (nI (i_9 + 1))) (lv' := [(4, .int (nI (i_9 + 1))), (3, .int r_2), (0, .ref dr), (1, .int p0), (2, .int p1)]) hx hb dX2_sameThirds_48 hl (k := 0) rfl (nI_1 _) (by decide) rfl (fun ls hl => ?_)
        refine lv_goto (tgt := 9) hx hb dX2_sameThirds_51 (by decide) ?_
        exact ih_9 _ (by omega) _ _ _ ⟨(i_9 + 1), by omega, rfl, hS, lv_sub hl [0, 1, 2, 3, 4] rfl, rfl⟩
      · skip
        refine lv_iconst (v := 0) hx hb dX2_sameThirds_46 (by decide +kernel) ?_
        refine W.widen (k := 0) (n := 0) (Nat.le_of_ble_eq_true rfl) (Nat.le_of_ble_eq_true rfl) ?_
        exact W.zret (v := 0) hx hb hr (mz_nz (by decide +kernel)) (fun t ht hW => ⟨⟨0, (), rfl, Or.inl rfl, ht⟩, hS.F ht⟩) hS.2.2 dX2_sameThirds_47
set_option maxHeartbeats 1000000 in
set_option maxRecDepth 100000 in
theorem mz_d_join (l : Launch) (dC : Nat → ClassId) (dI : Nat → Nat → Nat) (cI cJ cZ : ClassId) (dr : Nat) (dp : Nat) (dc : Nat) (n : Nat) (fp : Nat → Int32) (fc : Nat → Int32) (p0 : Int32) (p1 : Int32) (sz : Nat) (hn : n ≤ 8) : Met l yX2_join wsX2_join ({ frames := 1, cells := 0, slots := 0, locals := 21 }) (va_Pc [.ref dr, .int p0, .int p1] (fun U => U.heap.size = sz ∧ va_P (dC, dI) vwCl [(dr, .inr (2, [.ref dp, .ref dc, .int (nI n)])), (dp, .inl (cI, 8, .inl fp)), (dc, .inl (cI, 8, .inl fc))] U.heap ∧ va_K (dC, dI) vwCl [(cI, FieldType.int), (cJ, FieldType.long), (cZ, FieldType.boolean)] U ∧ va_D (fun _ => True) [(dr, .inr (2, [.ref dp, .ref dc, .int (nI n)])), (dp, .inl (cI, 8, .inl fp)), (dc, .inl (cI, 8, .inl fc))] ∧ mz_N U)) (va_Qv (fun (_ : Unit) => True) (fun _ t => ∃ (gp : Nat → Int32), ∃ (gc : Nat → Int32), va_P (dC, dI) vwCl [(dr, .inr (2, [.ref dp, .ref dc, .int (nI n)])), (dp, .inl (cI, 8, .inl gp)), (dc, .inl (cI, 8, .inl gc))] t.heap ∧ va_D (va_A [(dr, .inr (2, [.ref dp, .ref dc, .int (nI n)])), (dp, .inl (cI, 8, .inl fp)), (dc, .inl (cI, 8, .inl fc))] sz) [(dr, .inr (2, [.ref dp, .ref dc, .int (nI n)])), (dp, .inl (cI, 8, .inl gp)), (dc, .inl (cI, 8, .inl gc))]) (va_A [(dr, .inr (2, [.ref dp, .ref dc, .int (nI n)])), (dp, .inl (cI, 8, .inl fp)), (dc, .inl (cI, 8, .inl fc))] sz)) 0 0 (va_A [(dr, .inr (2, [.ref dp, .ref dc, .int (nI n)])), (dp, .inl (cI, 8, .inl fp)), (dc, .inl (cI, 8, .inl fc))] sz) := by
  refine Met.ofW (cc := cX2_join) (maxL := 3) (ret := none) (by decide) rfl ?_
  intro p e s m args below meth c s₁ B hml hv
  obtain ⟨rfl, hsz, hP, hK, hD0, hN⟩ := hv
  subst hsz
  have hx := B.exec
  have hb := B.bytes
  have hr := B.returns
  have hts := atoms_spec (ws := wsX2_join) B.pre
  have hown : s.vm.findClass RX2 = some m.cls := findClass_of_methodNamed B.named
  have hlocks := B.notSynchronized
  have hD := hD0.self (sz := s.heap.size)
  generalize hAe : va_A [(dr, .inr (2, [.ref dp, .ref dc, .int (nI n)])), (dp, .inl (cI, 8, .inl fp)), (dc, .inl (cI, 8, .inl fc))] s.heap.size = A at hD ⊢
  have hA : ∀ q : Nat, s.heap.size ≤ q → A q := fun q h => by rw [← hAe]; exact Or.inr h
  have hS : va_S A s.heap s.heap [] := va_S.rf
  have hiX2 : ∀ w ∈ u_ws RX2 TX2 3, w ∈ wsX2_join := by decide +kernel
  have hl := lv_entry ([.ref dr, .int p0, .int p1]) (n := 3) (Nat.le_of_ble_eq_true rfl)
  rw [lg_entry_eq]
  generalize (lg_sl ([.ref dr, .int p0, .int p1]) ++ List.replicate (3 - (lg_sl ([.ref dr, .int p0, .int p1])).length) Slot.unset).toArray = ls at hl ⊢
  have hl : lv_has ls 3 [(0, .ref dr), (1, .int p0), (2, .int p1)] := hl
  refine lv_aload_n hx hb dX2_join_0 rfl (lv_at hl 0 rfl) ?_
  refine lv_iload_n hx hb dX2_join_1 rfl (lv_at hl 1 rfl) ?_
  have hPc := hP.sub (ws' := [(dr, .inr (2, [.ref dp, .ref dc, .int (nI n)]))]) [0] rfl
  refine va_calli (va_runV (As := [.int p0]) (rest := []) ⟨hx, hb, hml, hown, hts⟩ (mz_d_has l dC dI cI cJ cZ dr dp dc n p0 s.heap (by first | assumption | omega)) (cwV 1 hts gX2_join_X2_has rfl rfl rfl (by decide +kernel) ⟨Nat.le_of_ble_eq_true rfl, Nat.le_of_ble_eq_true rfl⟩) ⟨fun a U g mk q => mz_blP q, va_recv hK hPc (ci := 2) (q0 := 0) rfl rfl, fun U hU hW => ⟨rfl, hU, hPc, va_K.moved hW.alike hK, mz_nw hW hN⟩⟩ rfl rfl hl.1 rfl (lv_room (Nat.le_of_ble_eq_true rfl)) dX2_join_2 ⟨Nat.le_of_ble_eq_true rfl, Nat.le_of_ble_eq_true rfl⟩) hS (fun q _ h => h.elim) (fun q h => h.elim) (fun r_2 u t H1 locs ht hvm hw_2 hB hz1 hk1 hS => ?_)
  have hE : s.heap = H1 := hB.symm.trans ht
  subst hE
  rcases (show (r_2 = 1 ∧ ∃ j : Nat, j < n ∧ p0 = nI j) ∨ r_2 = 0 from hw_2) with ⟨rfl, j_2, hj_2, he_2⟩ | rfl
  · skip
    subst he_2
    refine lv_if_eq (tgt := 42) hx hb dX2_join_5 (by decide) (fun c_5 => absurd c_5 (by decide +kernel)) (fun _ => ?_)
    refine lv_aload_n hx hb dX2_join_8 rfl (lv_at hl 0 rfl) ?_
    refine lv_iload_n hx hb dX2_join_9 rfl (lv_at hl 2 rfl) ?_
    have hPc := hP.sub (ws' := [(dr, .inr (2, [.ref dp, .ref dc, .int (nI n)]))]) [0] rfl
    refine va_calli (va_runV (As := [.int p1]) (rest := []) ⟨hx, hb, hml, hown, hts⟩ (mz_d_has l dC dI cI cJ cZ dr dp dc n p1 s.heap (by first | assumption | omega)) (cwV 1 hts gX2_join_X2_has rfl rfl rfl (by decide +kernel) ⟨Nat.le_of_ble_eq_true rfl, Nat.le_of_ble_eq_true rfl⟩) ⟨fun a U g mk q => mz_blP q, va_recv hK hPc (ci := 2) (q0 := 0) rfl rfl, fun U hU hW => ⟨rfl, hU, hPc, va_K.moved hW.alike hK, mz_nw hW hN⟩⟩ rfl rfl hl.1 rfl (lv_room (Nat.le_of_ble_eq_true rfl)) dX2_join_10 ⟨Nat.le_of_ble_eq_true rfl, Nat.le_of_ble_eq_true rfl⟩) hS (fun q _ h => h.elim) (fun q h => h.elim) (fun r_10 u t H1 locs ht hvm hw_10 hB hz1 hk1 hS => ?_)
    have hE : s.heap = H1 := hB.symm.trans ht
    subst hE
    rcases (show (r_10 = 1 ∧ ∃ j : Nat, j < n ∧ p1 = nI j) ∨ r_10 = 0 from hw_10) with ⟨rfl, j_10, hj_10, he_10⟩ | rfl
    · skip
      subst he_10
      refine lv_if_eq (tgt := 42) hx hb dX2_join_13 (by decide) (fun c_13 => absurd c_13 (by decide +kernel)) (fun _ => ?_)
      refine lv_aload_n hx hb dX2_join_16 rfl (lv_at hl 0 rfl) ?_
      refine va_get (D := (dC, dI)) (ci := 2) (v := .ref dc) (C := RX2) (T := TX2) (N := 3) hx hb hts hiX2 hown hK hP 0 rfl rfl 1 (by decide) (hts (.fieldLink RX2 15 "MadeItSo$Drawing" "children" "[I") (by decide +kernel)) (fun _ h9 => h9) rfl dX2_join_17 ?_
      refine lv_iload_n hx hb dX2_join_20 rfl (lv_at hl 1 rfl) ?_
      refine lv_dup2_11 hx hb dX2_join_21 rfl rfl ?_
      refine va_iald hx hb hK hP 2 0 rfl rfl (vp_in_nI (by omega) (by omega)) dX2_join_22 ?_
      refine lv_topi (fun v_22 ev_22 => ?_)
      refine lv_iload_n hx hb dX2_join_23 rfl (lv_at hl 2 rfl) ?_
      have hPc := hP.sub (ws' := []) [] rfl
      refine va_calli (va_runSN (As := [.int (nI j_10)]) (rest := [.int v_22, .int (nI j_2), .ref dc]) ⟨hx, hb, hml, hown, hts⟩ (mz_g_bit l dC dI cI cJ cZ (nI j_10) s.heap ) ⟨va_cnB (host := "MadeItSo") 1 hts gX2_join_X7_bit_n37 rfl rfl rfl (hN (RX2, 37, yX7_bit, "MadeItSo") (by decide +kernel)) (hts (.initialized RX7) (by decide +kernel)) (by decide +kernel) ⟨Nat.le_of_ble_eq_true rfl, Nat.le_of_ble_eq_true rfl⟩, hts (.static yX7_bit) (by decide +kernel), trivial⟩ ⟨fun a U g mk q => mz_blP q, fun U hU hW => ⟨rfl, hU, hPc, va_K.moved hW.alike hK, mz_nw hW hN⟩⟩ rfl rfl hl.1 rfl (lv_room (Nat.le_of_ble_eq_true rfl)) dX2_join_24 ⟨Nat.le_of_ble_eq_true rfl, Nat.le_of_ble_eq_true rfl⟩) hS (fun q _ h => h.elim) (fun q h => h.elim) (fun r_24 u t H1 locs ht hvm hw_24 hB hz1 hk1 hS => ?_)
      have hE : s.heap = H1 := hB.symm.trans ht
      subst hE
      obtain rfl : r_24 = (1 <<< ((nI j_10) &&& 31)) := hw_24
      refine lv_ior hx hb dX2_join_27 ?_
      refine lv_topi (fun v_27 ev_27 => ?_)
      refine va_iast hx hb hK hP hD hS 2 0 rfl rfl (vp_in_nI (by omega) (by omega)) dX2_join_28 (fun H locs hP hD hS => ?_)
      have hP : va_P (dC, dI) vwCl [(dr, .inr (2, [.ref dp, .ref dc, .int (nI n)])), (dp, .inl (cI, 8, .inl fp)), (dc, .inl (cI, 8, .inl (upd fc ((nI j_2) : Int32).toNatClampNeg v_27)))] H := hP
      have hD : va_D A [(dr, .inr (2, [.ref dp, .ref dc, .int (nI n)])), (dp, .inl (cI, 8, .inl fp)), (dc, .inl (cI, 8, .inl (upd fc ((nI j_2) : Int32).toNatClampNeg v_27)))] := hD
      generalize (upd fc ((nI j_2) : Int32).toNatClampNeg v_27) = f_28 at hP hD
      refine lv_aload_n hx hb dX2_join_29 rfl (lv_at hl 0 rfl) ?_
      refine va_get (D := (dC, dI)) (ci := 2) (v := .ref dp) (C := RX2) (T := TX2) (N := 3) hx hb hts hiX2 hown hK hP 0 rfl rfl 0 (by decide) (hts (.fieldLink RX2 9 "MadeItSo$Drawing" "parents" "[I") (by decide +kernel)) (fun _ h9 => h9) rfl dX2_join_30 ?_
      refine lv_iload_n hx hb dX2_join_33 rfl (lv_at hl 2 rfl) ?_
      refine lv_dup2_11 hx hb dX2_join_34 rfl rfl ?_
      refine va_iald hx hb hK hP 1 0 rfl rfl (vp_in_nI (by omega) (by omega)) dX2_join_35 ?_
      refine lv_topi (fun v_35 ev_35 => ?_)
      refine lv_iload_n hx hb dX2_join_36 rfl (lv_at hl 1 rfl) ?_
      have hPc := hP.sub (ws' := []) [] rfl
      refine va_calli (va_runSN (As := [.int (nI j_2)]) (rest := [.int v_35, .int (nI j_10), .ref dp]) ⟨hx, hb, hml, hown, hts⟩ (mz_g_bit l dC dI cI cJ cZ (nI j_2) H ) ⟨va_cnB (host := "MadeItSo") 1 hts gX2_join_X7_bit_n37 rfl rfl rfl (hN (RX2, 37, yX7_bit, "MadeItSo") (by decide +kernel)) (hts (.initialized RX7) (by decide +kernel)) (by decide +kernel) ⟨Nat.le_of_ble_eq_true rfl, Nat.le_of_ble_eq_true rfl⟩, hts (.static yX7_bit) (by decide +kernel), trivial⟩ ⟨fun a U g mk q => mz_blP q, fun U hU hW => ⟨rfl, hU, hPc, va_K.moved hW.alike hK, mz_nw hW hN⟩⟩ rfl rfl hl.1 rfl (lv_room (Nat.le_of_ble_eq_true rfl)) dX2_join_37 ⟨Nat.le_of_ble_eq_true rfl, Nat.le_of_ble_eq_true rfl⟩) hS (fun q _ h => h.elim) (fun q h => h.elim) (fun r_37 u t H1 locs ht hvm hw_37 hB hz1 hk1 hS => ?_)
      have hE : H = H1 := hB.symm.trans ht
      subst hE
      obtain rfl : r_37 = (1 <<< ((nI j_2) &&& 31)) := hw_37
      refine lv_ior hx hb dX2_join_40 ?_
      refine lv_topi (fun v_40 ev_40 => ?_)
      refine va_iast hx hb hK hP hD hS 1 0 rfl rfl (vp_in_nI (by omega) (by omega)) dX2_join_41 (fun H locs hP hD hS => ?_)
      have hP : va_P (dC, dI) vwCl [(dr, .inr (2, [.ref dp, .ref dc, .int (nI n)])), (dp, .inl (cI, 8, .inl (upd fp ((nI j_10) : Int32).toNatClampNeg v_40))), (dc, .inl (cI, 8, .inl f_28))] H := hP
      have hD : va_D A [(dr, .inr (2, [.ref dp, .ref dc, .int (nI n)])), (dp, .inl (cI, 8, .inl (upd fp ((nI j_10) : Int32).toNatClampNeg v_40))), (dc, .inl (cI, 8, .inl f_28))] := hD
      generalize (upd fp ((nI j_10) : Int32).toNatClampNeg v_40) = f_41 at hP hD
      have hP9 := hP.sub (ws' := [(dr, .inr (2, [.ref dp, .ref dc, .int (nI n)])), (dp, .inl (cI, 8, .inl f_41)), (dc, .inl (cI, 8, .inl f_28))]) [0, 1, 2] rfl
      have hD9 := hD.sub (ws' := [(dr, .inr (2, [.ref dp, .ref dc, .int (nI n)])), (dp, .inl (cI, 8, .inl f_41)), (dc, .inl (cI, 8, .inl f_28))]) [0, 1, 2] (by decide) rfl
      refine W.widen (k := 0) (n := 0) (Nat.le_of_ble_eq_true rfl) (Nat.le_of_ble_eq_true rfl) ?_
      exact W.vret hx hb hr (fun t ht hW => ⟨⟨(), rfl, trivial, f_41, f_28, by rw [ht]; exact hP9, hD9⟩, hS.F ht⟩) hS.2.2 dX2_join_42
    · skip
      refine lv_if_eq (tgt := 42) hx hb dX2_join_13 (by decide) (fun _ => ?_) (fun c_13 => absurd (by decide +kernel) c_13)
      have hP9 := hP.sub (ws' := [(dr, .inr (2, [.ref dp, .ref dc, .int (nI n)])), (dp, .inl (cI, 8, .inl fp)), (dc, .inl (cI, 8, .inl fc))]) [0, 1, 2] rfl
      have hD9 := hD.sub (ws' := [(dr, .inr (2, [.ref dp, .ref dc, .int (nI n)])), (dp, .inl (cI, 8, .inl fp)), (dc, .inl (cI, 8, .inl fc))]) [0, 1, 2] (by decide) rfl
      refine W.widen (k := 0) (n := 0) (Nat.le_of_ble_eq_true rfl) (Nat.le_of_ble_eq_true rfl) ?_
      exact W.vret hx hb hr (fun t ht hW => ⟨⟨(), rfl, trivial, fp, fc, by rw [ht]; exact hP9, hD9⟩, hS.F ht⟩) hS.2.2 dX2_join_42
  · skip
    refine lv_if_eq (tgt := 42) hx hb dX2_join_5 (by decide) (fun _ => ?_) (fun c_5 => absurd (by decide +kernel) c_5)
    have hP9 := hP.sub (ws' := [(dr, .inr (2, [.ref dp, .ref dc, .int (nI n)])), (dp, .inl (cI, 8, .inl fp)), (dc, .inl (cI, 8, .inl fc))]) [0, 1, 2] rfl
    have hD9 := hD.sub (ws' := [(dr, .inr (2, [.ref dp, .ref dc, .int (nI n)])), (dp, .inl (cI, 8, .inl fp)), (dc, .inl (cI, 8, .inl fc))]) [0, 1, 2] (by decide) rfl
    refine W.widen (k := 0) (n := 0) (Nat.le_of_ble_eq_true rfl) (Nat.le_of_ble_eq_true rfl) ?_
    exact W.vret hx hb hr (fun t ht hW => ⟨⟨(), rfl, trivial, fp, fc, by rw [ht]; exact hP9, hD9⟩, hS.F ht⟩) hS.2.2 dX2_join_42
set_option maxHeartbeats 1000000 in
set_option maxRecDepth 100000 in
theorem mz_d_part (l : Launch) (dC : Nat → ClassId) (dI : Nat → Nat → Nat) (cI cJ cZ : ClassId) (dr : Nat) (dp : Nat) (dc : Nat) (n : Nat) (fp : Nat → Int32) (fc : Nat → Int32) (p0 : Int32) (p1 : Int32) (sz : Nat) (hn : n ≤ 8) : Met l yX2_part wsX2_part ({ frames := 1, cells := 0, slots := 0, locals := 21 }) (va_Pc [.ref dr, .int p0, .int p1] (fun U => U.heap.size = sz ∧ va_P (dC, dI) vwCl [(dr, .inr (2, [.ref dp, .ref dc, .int (nI n)])), (dp, .inl (cI, 8, .inl fp)), (dc, .inl (cI, 8, .inl fc))] U.heap ∧ va_K (dC, dI) vwCl [(cI, FieldType.int), (cJ, FieldType.long), (cZ, FieldType.boolean)] U ∧ va_D (fun _ => True) [(dr, .inr (2, [.ref dp, .ref dc, .int (nI n)])), (dp, .inl (cI, 8, .inl fp)), (dc, .inl (cI, 8, .inl fc))] ∧ mz_N U)) (va_Qv (fun (_ : Unit) => True) (fun _ t => ∃ (gp : Nat → Int32), ∃ (gc : Nat → Int32), va_P (dC, dI) vwCl [(dr, .inr (2, [.ref dp, .ref dc, .int (nI n)])), (dp, .inl (cI, 8, .inl gp)), (dc, .inl (cI, 8, .inl gc))] t.heap ∧ va_D (va_A [(dr, .inr (2, [.ref dp, .ref dc, .int (nI n)])), (dp, .inl (cI, 8, .inl fp)), (dc, .inl (cI, 8, .inl fc))] sz) [(dr, .inr (2, [.ref dp, .ref dc, .int (nI n)])), (dp, .inl (cI, 8, .inl gp)), (dc, .inl (cI, 8, .inl gc))]) (va_A [(dr, .inr (2, [.ref dp, .ref dc, .int (nI n)])), (dp, .inl (cI, 8, .inl fp)), (dc, .inl (cI, 8, .inl fc))] sz)) 0 0 (va_A [(dr, .inr (2, [.ref dp, .ref dc, .int (nI n)])), (dp, .inl (cI, 8, .inl fp)), (dc, .inl (cI, 8, .inl fc))] sz) := by
  refine Met.ofW (cc := cX2_part) (maxL := 3) (ret := none) (by decide) rfl ?_
  intro p e s m args below meth c s₁ B hml hv
  obtain ⟨rfl, hsz, hP, hK, hD0, hN⟩ := hv
  subst hsz
  have hx := B.exec
  have hb := B.bytes
  have hr := B.returns
  have hts := atoms_spec (ws := wsX2_part) B.pre
  have hown : s.vm.findClass RX2 = some m.cls := findClass_of_methodNamed B.named
  have hlocks := B.notSynchronized
  have hD := hD0.self (sz := s.heap.size)
  generalize hAe : va_A [(dr, .inr (2, [.ref dp, .ref dc, .int (nI n)])), (dp, .inl (cI, 8, .inl fp)), (dc, .inl (cI, 8, .inl fc))] s.heap.size = A at hD ⊢
  have hA : ∀ q : Nat, s.heap.size ≤ q → A q := fun q h => by rw [← hAe]; exact Or.inr h
  have hS : va_S A s.heap s.heap [] := va_S.rf
  have hiX2 : ∀ w ∈ u_ws RX2 TX2 3, w ∈ wsX2_part := by decide +kernel
  have hl := lv_entry ([.ref dr, .int p0, .int p1]) (n := 3) (Nat.le_of_ble_eq_true rfl)
  rw [lg_entry_eq]
  generalize (lg_sl ([.ref dr, .int p0, .int p1]) ++ List.replicate (3 - (lg_sl ([.ref dr, .int p0, .int p1])).length) Slot.unset).toArray = ls at hl ⊢
  have hl : lv_has ls 3 [(0, .ref dr), (1, .int p0), (2, .int p1)] := hl
  refine lv_aload_n hx hb dX2_part_0 rfl (lv_at hl 0 rfl) ?_
  refine lv_iload_n hx hb dX2_part_1 rfl (lv_at hl 1 rfl) ?_
  have hPc := hP.sub (ws' := [(dr, .inr (2, [.ref dp, .ref dc, .int (nI n)]))]) [0] rfl
  refine va_calli (va_runV (As := [.int p0]) (rest := []) ⟨hx, hb, hml, hown, hts⟩ (mz_d_has l dC dI cI cJ cZ dr dp dc n p0 s.heap (by first | assumption | omega)) (cwV 1 hts gX2_part_X2_has rfl rfl rfl (by decide +kernel) ⟨Nat.le_of_ble_eq_true rfl, Nat.le_of_ble_eq_true rfl⟩) ⟨fun a U g mk q => mz_blP q, va_recv hK hPc (ci := 2) (q0 := 0) rfl rfl, fun U hU hW => ⟨rfl, hU, hPc, va_K.moved hW.alike hK, mz_nw hW hN⟩⟩ rfl rfl hl.1 rfl (lv_room (Nat.le_of_ble_eq_true rfl)) dX2_part_2 ⟨Nat.le_of_ble_eq_true rfl, Nat.le_of_ble_eq_true rfl⟩) hS (fun q _ h => h.elim) (fun q h => h.elim) (fun r_2 u t H1 locs ht hvm hw_2 hB hz1 hk1 hS => ?_)
  have hE : s.heap = H1 := hB.symm.trans ht
  subst hE
  rcases (show (r_2 = 1 ∧ ∃ j : Nat, j < n ∧ p0 = nI j) ∨ r_2 = 0 from hw_2) with ⟨rfl, j_2, hj_2, he_2⟩ | rfl
  · skip
    subst he_2
    refine lv_if_eq (tgt := 46) hx hb dX2_part_5 (by decide) (fun c_5 => absurd c_5 (by decide +kernel)) (fun _ => ?_)
    refine lv_aload_n hx hb dX2_part_8 rfl (lv_at hl 0 rfl) ?_
    refine lv_iload_n hx hb dX2_part_9 rfl (lv_at hl 2 rfl) ?_
    have hPc := hP.sub (ws' := [(dr, .inr (2, [.ref dp, .ref dc, .int (nI n)]))]) [0] rfl
    refine va_calli (va_runV (As := [.int p1]) (rest := []) ⟨hx, hb, hml, hown, hts⟩ (mz_d_has l dC dI cI cJ cZ dr dp dc n p1 s.heap (by first | assumption | omega)) (cwV 1 hts gX2_part_X2_has rfl rfl rfl (by decide +kernel) ⟨Nat.le_of_ble_eq_true rfl, Nat.le_of_ble_eq_true rfl⟩) ⟨fun a U g mk q => mz_blP q, va_recv hK hPc (ci := 2) (q0 := 0) rfl rfl, fun U hU hW => ⟨rfl, hU, hPc, va_K.moved hW.alike hK, mz_nw hW hN⟩⟩ rfl rfl hl.1 rfl (lv_room (Nat.le_of_ble_eq_true rfl)) dX2_part_10 ⟨Nat.le_of_ble_eq_true rfl, Nat.le_of_ble_eq_true rfl⟩) hS (fun q _ h => h.elim) (fun q h => h.elim) (fun r_10 u t H1 locs ht hvm hw_10 hB hz1 hk1 hS => ?_)
    have hE : s.heap = H1 := hB.symm.trans ht
    subst hE
    rcases (show (r_10 = 1 ∧ ∃ j : Nat, j < n ∧ p1 = nI j) ∨ r_10 = 0 from hw_10) with ⟨rfl, j_10, hj_10, he_10⟩ | rfl
    · skip
      subst he_10
      refine lv_if_eq (tgt := 46) hx hb dX2_part_13 (by decide) (fun c_13 => absurd c_13 (by decide +kernel)) (fun _ => ?_)
      refine lv_aload_n hx hb dX2_part_16 rfl (lv_at hl 0 rfl) ?_
      refine va_get (D := (dC, dI)) (ci := 2) (v := .ref dc) (C := RX2) (T := TX2) (N := 3) hx hb hts hiX2 hown hK hP 0 rfl rfl 1 (by decide) (hts (.fieldLink RX2 15 "MadeItSo$Drawing" "children" "[I") (by decide +kernel)) (fun _ h9 => h9) rfl dX2_part_17 ?_
      refine lv_iload_n hx hb dX2_part_20 rfl (lv_at hl 1 rfl) ?_
      refine lv_dup2_11 hx hb dX2_part_21 rfl rfl ?_
      refine va_iald hx hb hK hP 2 0 rfl rfl (vp_in_nI (by omega) (by omega)) dX2_part_22 ?_
      refine lv_topi (fun v_22 ev_22 => ?_)
      refine lv_iload_n hx hb dX2_part_23 rfl (lv_at hl 2 rfl) ?_
      have hPc := hP.sub (ws' := []) [] rfl
      refine va_calli (va_runSN (As := [.int (nI j_10)]) (rest := [.int v_22, .int (nI j_2), .ref dc]) ⟨hx, hb, hml, hown, hts⟩ (mz_g_bit l dC dI cI cJ cZ (nI j_10) s.heap ) ⟨va_cnB (host := "MadeItSo") 1 hts gX2_part_X7_bit_n37 rfl rfl rfl (hN (RX2, 37, yX7_bit, "MadeItSo") (by decide +kernel)) (hts (.initialized RX7) (by decide +kernel)) (by decide +kernel) ⟨Nat.le_of_ble_eq_true rfl, Nat.le_of_ble_eq_true rfl⟩, hts (.static yX7_bit) (by decide +kernel), trivial⟩ ⟨fun a U g mk q => mz_blP q, fun U hU hW => ⟨rfl, hU, hPc, va_K.moved hW.alike hK, mz_nw hW hN⟩⟩ rfl rfl hl.1 rfl (lv_room (Nat.le_of_ble_eq_true rfl)) dX2_part_24 ⟨Nat.le_of_ble_eq_true rfl, Nat.le_of_ble_eq_true rfl⟩) hS (fun q _ h => h.elim) (fun q h => h.elim) (fun r_24 u t H1 locs ht hvm hw_24 hB hz1 hk1 hS => ?_)
      have hE : s.heap = H1 := hB.symm.trans ht
      subst hE
      obtain rfl : r_24 = (1 <<< ((nI j_10) &&& 31)) := hw_24
      refine lv_iconst (v := (-1)) hx hb dX2_part_27 (by decide +kernel) ?_
      refine lv_ixor hx hb dX2_part_28 ?_
      refine lv_topi (fun v_28 ev_28 => ?_)
      refine lv_iand hx hb dX2_part_29 ?_
      refine lv_topi (fun v_29 ev_29 => ?_)
      refine va_iast hx hb hK hP hD hS 2 0 rfl rfl (vp_in_nI (by omega) (by omega)) dX2_part_30 (fun H locs hP hD hS => ?_)
      have hP : va_P (dC, dI) vwCl [(dr, .inr (2, [.ref dp, .ref dc, .int (nI n)])), (dp, .inl (cI, 8, .inl fp)), (dc, .inl (cI, 8, .inl (upd fc ((nI j_2) : Int32).toNatClampNeg v_29)))] H := hP
      have hD : va_D A [(dr, .inr (2, [.ref dp, .ref dc, .int (nI n)])), (dp, .inl (cI, 8, .inl fp)), (dc, .inl (cI, 8, .inl (upd fc ((nI j_2) : Int32).toNatClampNeg v_29)))] := hD
      generalize (upd fc ((nI j_2) : Int32).toNatClampNeg v_29) = f_30 at hP hD
      refine lv_aload_n hx hb dX2_part_31 rfl (lv_at hl 0 rfl) ?_
      refine va_get (D := (dC, dI)) (ci := 2) (v := .ref dp) (C := RX2) (T := TX2) (N := 3) hx hb hts hiX2 hown hK hP 0 rfl rfl 0 (by decide) (hts (.fieldLink RX2 9 "MadeItSo$Drawing" "parents" "[I") (by decide +kernel)) (fun _ h9 => h9) rfl dX2_part_32 ?_
      refine lv_iload_n hx hb dX2_part_35 rfl (lv_at hl 2 rfl) ?_
      refine lv_dup2_11 hx hb dX2_part_36 rfl rfl ?_
      refine va_iald hx hb hK hP 1 0 rfl rfl (vp_in_nI (by omega) (by omega)) dX2_part_37 ?_
      refine lv_topi (fun v_37 ev_37 => ?_)
      refine lv_iload_n hx hb dX2_part_38 rfl (lv_at hl 1 rfl) ?_
      have hPc := hP.sub (ws' := []) [] rfl
      refine va_calli (va_runSN (As := [.int (nI j_2)]) (rest := [.int v_37, .int (nI j_10), .ref dp]) ⟨hx, hb, hml, hown, hts⟩ (mz_g_bit l dC dI cI cJ cZ (nI j_2) H ) ⟨va_cnB (host := "MadeItSo") 1 hts gX2_part_X7_bit_n37 rfl rfl rfl (hN (RX2, 37, yX7_bit, "MadeItSo") (by decide +kernel)) (hts (.initialized RX7) (by decide +kernel)) (by decide +kernel) ⟨Nat.le_of_ble_eq_true rfl, Nat.le_of_ble_eq_true rfl⟩, hts (.static yX7_bit) (by decide +kernel), trivial⟩ ⟨fun a U g mk q => mz_blP q, fun U hU hW => ⟨rfl, hU, hPc, va_K.moved hW.alike hK, mz_nw hW hN⟩⟩ rfl rfl hl.1 rfl (lv_room (Nat.le_of_ble_eq_true rfl)) dX2_part_39 ⟨Nat.le_of_ble_eq_true rfl, Nat.le_of_ble_eq_true rfl⟩) hS (fun q _ h => h.elim) (fun q h => h.elim) (fun r_39 u t H1 locs ht hvm hw_39 hB hz1 hk1 hS => ?_)
      have hE : H = H1 := hB.symm.trans ht
      subst hE
      obtain rfl : r_39 = (1 <<< ((nI j_2) &&& 31)) := hw_39
      refine lv_iconst (v := (-1)) hx hb dX2_part_42 (by decide +kernel) ?_
      refine lv_ixor hx hb dX2_part_43 ?_
      refine lv_topi (fun v_43 ev_43 => ?_)
      refine lv_iand hx hb dX2_part_44 ?_
      refine lv_topi (fun v_44 ev_44 => ?_)
      refine va_iast hx hb hK hP hD hS 1 0 rfl rfl (vp_in_nI (by omega) (by omega)) dX2_part_45 (fun H locs hP hD hS => ?_)
      have hP : va_P (dC, dI) vwCl [(dr, .inr (2, [.ref dp, .ref dc, .int (nI n)])), (dp, .inl (cI, 8, .inl (upd fp ((nI j_10) : Int32).toNatClampNeg v_44))), (dc, .inl (cI, 8, .inl f_30))] H := hP
      have hD : va_D A [(dr, .inr (2, [.ref dp, .ref dc, .int (nI n)])), (dp, .inl (cI, 8, .inl (upd fp ((nI j_10) : Int32).toNatClampNeg v_44))), (dc, .inl (cI, 8, .inl f_30))] := hD
      generalize (upd fp ((nI j_10) : Int32).toNatClampNeg v_44) = f_45 at hP hD
      have hP9 := hP.sub (ws' := [(dr, .inr (2, [.ref dp, .ref dc, .int (nI n)])), (dp, .inl (cI, 8, .inl f_45)), (dc, .inl (cI, 8, .inl f_30))]) [0, 1, 2] rfl
      have hD9 := hD.sub (ws' := [(dr, .inr (2, [.ref dp, .ref dc, .int (nI n)])), (dp, .inl (cI, 8, .inl f_45)), (dc, .inl (cI, 8, .inl f_30))]) [0, 1, 2] (by decide) rfl
      refine W.widen (k := 0) (n := 0) (Nat.le_of_ble_eq_true rfl) (Nat.le_of_ble_eq_true rfl) ?_
      exact W.vret hx hb hr (fun t ht hW => ⟨⟨(), rfl, trivial, f_45, f_30, by rw [ht]; exact hP9, hD9⟩, hS.F ht⟩) hS.2.2 dX2_part_46
    · skip
      refine lv_if_eq (tgt := 46) hx hb dX2_part_13 (by decide) (fun _ => ?_) (fun c_13 => absurd (by decide +kernel) c_13)
      have hP9 := hP.sub (ws' := [(dr, .inr (2, [.ref dp, .ref dc, .int (nI n)])), (dp, .inl (cI, 8, .inl fp)), (dc, .inl (cI, 8, .inl fc))]) [0, 1, 2] rfl
      have hD9 := hD.sub (ws' := [(dr, .inr (2, [.ref dp, .ref dc, .int (nI n)])), (dp, .inl (cI, 8, .inl fp)), (dc, .inl (cI, 8, .inl fc))]) [0, 1, 2] (by decide) rfl
      refine W.widen (k := 0) (n := 0) (Nat.le_of_ble_eq_true rfl) (Nat.le_of_ble_eq_true rfl) ?_
      exact W.vret hx hb hr (fun t ht hW => ⟨⟨(), rfl, trivial, fp, fc, by rw [ht]; exact hP9, hD9⟩, hS.F ht⟩) hS.2.2 dX2_part_46
  · skip
    refine lv_if_eq (tgt := 46) hx hb dX2_part_5 (by decide) (fun _ => ?_) (fun c_5 => absurd (by decide +kernel) c_5)
    have hP9 := hP.sub (ws' := [(dr, .inr (2, [.ref dp, .ref dc, .int (nI n)])), (dp, .inl (cI, 8, .inl fp)), (dc, .inl (cI, 8, .inl fc))]) [0, 1, 2] rfl
    have hD9 := hD.sub (ws' := [(dr, .inr (2, [.ref dp, .ref dc, .int (nI n)])), (dp, .inl (cI, 8, .inl fp)), (dc, .inl (cI, 8, .inl fc))]) [0, 1, 2] (by decide) rfl
    refine W.widen (k := 0) (n := 0) (Nat.le_of_ble_eq_true rfl) (Nat.le_of_ble_eq_true rfl) ?_
    exact W.vret hx hb hr (fun t ht hW => ⟨⟨(), rfl, trivial, fp, fc, by rw [ht]; exact hP9, hD9⟩, hS.F ht⟩) hS.2.2 dX2_part_46
set_option maxHeartbeats 1000000 in
set_option maxRecDepth 100000 in
theorem mz_b_isPlace (l : Launch) (dC : Nat → ClassId) (dI : Nat → Nat → Nat) (cI cJ cZ : ClassId) (p0 : Int32) (p1 : Int32) (Hq : Heap)  : Met l yX1_isPlace wsX1_isPlace ({ frames := 0, cells := 0, slots := 0, locals := 0 }) (va_Pc [.int p0, .int p1] (fun U => U.heap = Hq ∧ va_P (dC, dI) vwCl [] Hq ∧ va_K (dC, dI) vwCl [(cI, FieldType.int), (cJ, FieldType.long), (cZ, FieldType.boolean)] U ∧ mz_N U)) (va_Qi (fun (r : Int32) (_ : Unit) => (r = 1 ∧ ∃ i j : Nat, i < 8 ∧ j < 128 ∧ p0 = nI i ∧ p1 = nI j) ∨ r = 0) (fun _ t => t.heap = Hq) (fun _ : Nat => False)) 0 0 (fun _ : Nat => False) := by
  refine Met.ofW (cc := cX1_isPlace) (maxL := 2) (ret := (some .boolean)) (by decide) rfl ?_
  intro p e s m args below meth c s₁ B hml hv
  obtain ⟨rfl, hH, hP, hK, hN⟩ := hv
  subst hH
  have hx := B.exec
  have hb := B.bytes
  have hr := B.returns
  have hts := atoms_spec (ws := wsX1_isPlace) B.pre
  have hown : s.vm.findClass RX1 = some m.cls := findClass_of_methodNamed B.named
  have hlocks := B.notSynchronized
  have hS : va_S (fun _ : Nat => False) s.heap s.heap [] := va_S.rf
  have hl := lv_entry ([.int p0, .int p1]) (n := 2) (Nat.le_of_ble_eq_true rfl)
  rw [lg_entry_eq]
  generalize (lg_sl ([.int p0, .int p1]) ++ List.replicate (2 - (lg_sl ([.int p0, .int p1])).length) Slot.unset).toArray = ls at hl ⊢
  have hl : lv_has ls 2 [(0, .int p0), (1, .int p1)] := hl
  refine lv_iload_n hx hb dX1_isPlace_0 rfl (lv_at hl 0 rfl) ?_
  refine lv_if_lt (tgt := 25) hx hb dX1_isPlace_1 (by decide) (fun c_1 => ?_) (fun c_1 => ?_)
  · skip
    refine lv_iconst (v := 0) hx hb dX1_isPlace_25 (by decide +kernel) ?_
    refine W.widen (k := 0) (n := 0) (Nat.le_of_ble_eq_true rfl) (Nat.le_of_ble_eq_true rfl) ?_
    exact W.zret (v := 0) hx hb hr (mz_nz (by decide +kernel)) (fun t ht hW => ⟨⟨0, (), rfl, Or.inr rfl, ht⟩, hS.F ht⟩) hS.2.2 dX1_isPlace_26
  · skip
    refine lv_iload_n hx hb dX1_isPlace_4 rfl (lv_at hl 0 rfl) ?_
    refine lv_bipush (v := 8) hx hb dX1_isPlace_5 (by decide +kernel) ?_
    refine lv_icmp_ge (tgt := 25) hx hb dX1_isPlace_7 (by decide) (fun c_7 => ?_) (fun c_7 => ?_)
    · skip
      refine lv_iconst (v := 0) hx hb dX1_isPlace_25 (by decide +kernel) ?_
      refine W.widen (k := 0) (n := 0) (Nat.le_of_ble_eq_true rfl) (Nat.le_of_ble_eq_true rfl) ?_
      exact W.zret (v := 0) hx hb hr (mz_nz (by decide +kernel)) (fun t ht hW => ⟨⟨0, (), rfl, Or.inr rfl, ht⟩, hS.F ht⟩) hS.2.2 dX1_isPlace_26
    · skip
      refine lv_iload_n hx hb dX1_isPlace_10 rfl (lv_at hl 1 rfl) ?_
      refine lv_if_lt (tgt := 25) hx hb dX1_isPlace_11 (by decide) (fun c_11 => ?_) (fun c_11 => ?_)
      · skip
        refine lv_iconst (v := 0) hx hb dX1_isPlace_25 (by decide +kernel) ?_
        refine W.widen (k := 0) (n := 0) (Nat.le_of_ble_eq_true rfl) (Nat.le_of_ble_eq_true rfl) ?_
        exact W.zret (v := 0) hx hb hr (mz_nz (by decide +kernel)) (fun t ht hW => ⟨⟨0, (), rfl, Or.inr rfl, ht⟩, hS.F ht⟩) hS.2.2 dX1_isPlace_26
      · skip
        refine lv_iload_n hx hb dX1_isPlace_14 rfl (lv_at hl 1 rfl) ?_
        refine lv_sipush (v := 128) hx hb dX1_isPlace_15 (by decide +kernel) ?_
        refine lv_icmp_ge (tgt := 25) hx hb dX1_isPlace_18 (by decide) (fun c_18 => ?_) (fun c_18 => ?_)
        · skip
          refine lv_iconst (v := 0) hx hb dX1_isPlace_25 (by decide +kernel) ?_
          refine W.widen (k := 0) (n := 0) (Nat.le_of_ble_eq_true rfl) (Nat.le_of_ble_eq_true rfl) ?_
          exact W.zret (v := 0) hx hb hr (mz_nz (by decide +kernel)) (fun t ht hW => ⟨⟨0, (), rfl, Or.inr rfl, ht⟩, hS.F ht⟩) hS.2.2 dX1_isPlace_26
        · skip
          refine lv_iconst (v := 1) hx hb dX1_isPlace_21 (by decide +kernel) ?_
          refine lv_goto (tgt := 26) hx hb dX1_isPlace_22 (by decide) ?_
          refine W.widen (k := 0) (n := 0) (Nat.le_of_ble_eq_true rfl) (Nat.le_of_ble_eq_true rfl) ?_
          exact W.zret (v := 1) hx hb hr (mz_nz (by decide +kernel)) (fun t ht hW => ⟨⟨1, (), rfl, Or.inl ⟨rfl, mz_pl2 c_1 c_7 c_11 c_18⟩, ht⟩, hS.F ht⟩) hS.2.2 dX1_isPlace_26
set_option maxHeartbeats 1000000 in
set_option maxRecDepth 100000 in
theorem mz_b_read (l : Launch) (dC : Nat → ClassId) (dI : Nat → Nat → Nat) (cI cJ cZ : ClassId) (bk : Nat) (bp : Nat) (fb : Nat → Int32) (p0 : Int32) (p1 : Int32) (Hq : Heap)  : Met l yX1_read wsX1_read ({ frames := 1, cells := 0, slots := 0, locals := 21 }) (va_Pc [.ref bk, .int p0, .int p1] (fun U => U.heap = Hq ∧ va_P (dC, dI) vwCl [(bk, .inr (1, [.ref bp])), (bp, .inl (cI, 1024, .inl fb))] Hq ∧ va_K (dC, dI) vwCl [(cI, FieldType.int), (cJ, FieldType.long), (cZ, FieldType.boolean)] U ∧ mz_N U)) (va_Qi (fun (r : Int32) (_ : Unit) => True) (fun _ t => t.heap = Hq) (fun _ : Nat => False)) 0 0 (fun _ : Nat => False) := by
  refine Met.ofW (cc := cX1_read) (maxL := 3) (ret := (some .int)) (by decide) rfl ?_
  intro p e s m args below meth c s₁ B hml hv
  obtain ⟨rfl, hH, hP, hK, hN⟩ := hv
  subst hH
  have hx := B.exec
  have hb := B.bytes
  have hr := B.returns
  have hts := atoms_spec (ws := wsX1_read) B.pre
  have hown : s.vm.findClass RX1 = some m.cls := findClass_of_methodNamed B.named
  have hlocks := B.notSynchronized
  have hS : va_S (fun _ : Nat => False) s.heap s.heap [] := va_S.rf
  have hiX1 : ∀ w ∈ u_ws RX1 TX1 1, w ∈ wsX1_read := by decide +kernel
  have hl := lv_entry ([.ref bk, .int p0, .int p1]) (n := 3) (Nat.le_of_ble_eq_true rfl)
  rw [lg_entry_eq]
  generalize (lg_sl ([.ref bk, .int p0, .int p1]) ++ List.replicate (3 - (lg_sl ([.ref bk, .int p0, .int p1])).length) Slot.unset).toArray = ls at hl ⊢
  have hl : lv_has ls 3 [(0, .ref bk), (1, .int p0), (2, .int p1)] := hl
  refine lv_iload_n hx hb dX1_read_0 rfl (lv_at hl 1 rfl) ?_
  refine lv_iload_n hx hb dX1_read_1 rfl (lv_at hl 2 rfl) ?_
  have hPc := hP.sub (ws' := []) [] rfl
  refine va_calli (va_runS (As := [.int p0, .int p1]) (rest := []) ⟨hx, hb, hml, hown, hts⟩ (mz_b_isPlace l dC dI cI cJ cZ p0 p1 s.heap ) (va_cwS 2 hts gX1_read_X1_isPlace rfl rfl rfl (by decide +kernel) ⟨Nat.le_of_ble_eq_true rfl, Nat.le_of_ble_eq_true rfl⟩) ⟨fun a U g mk q => mz_blP q, fun U hU hW => ⟨rfl, hU, hPc, va_K.moved hW.alike hK, mz_nw hW hN⟩⟩ rfl rfl hl.1 rfl (lv_room (Nat.le_of_ble_eq_true rfl)) dX1_read_2 ⟨Nat.le_of_ble_eq_true rfl, Nat.le_of_ble_eq_true rfl⟩) hS (fun q _ h => h.elim) (fun q h => h.elim) (fun r_2 u t H1 locs ht hvm hw_2 hB hz1 hk1 hS => ?_)
  have hE : s.heap = H1 := hB.symm.trans ht
  subst hE
  rcases (show (r_2 = 1 ∧ ∃ i j : Nat, i < 8 ∧ j < 128 ∧ p0 = nI i ∧ p1 = nI j) ∨ r_2 = 0 from hw_2) with ⟨rfl, i_2, j_2, hi_2, hj_2, he_2, hf_2⟩ | rfl
  · skip
    subst he_2
    subst hf_2
    refine lv_if_eq (tgt := 23) hx hb dX1_read_5 (by decide) (fun c_5 => absurd c_5 (by decide +kernel)) (fun _ => ?_)
    refine lv_aload_n hx hb dX1_read_8 rfl (lv_at hl 0 rfl) ?_
    refine va_get (D := (dC, dI)) (ci := 1) (v := .ref bp) (C := RX1) (T := TX1) (N := 1) hx hb hts hiX1 hown hK hP 0 rfl rfl 0 (by decide) (hts (.fieldLink RX1 9 "MadeItSo$Books" "parts" "[I") (by decide +kernel)) (fun _ h9 => h9) rfl dX1_read_9 ?_
    refine lv_iload_n hx hb dX1_read_12 rfl (lv_at hl 1 rfl) ?_
    refine lv_sipush (v := 128) hx hb dX1_read_13 (by decide +kernel) ?_
    refine lv_imul hx hb dX1_read_16 ?_
    refine mz_ti (y := (nI (i_2 * 128))) (pk_mul _ _) ?_
    refine lv_iload_n hx hb dX1_read_17 rfl (lv_at hl 2 rfl) ?_
    refine lv_iadd hx hb dX1_read_18 ?_
    refine mz_ti (y := (nI ((i_2 * 128) + j_2))) (nI_add _ _) ?_
    refine va_iald hx hb hK hP 1 0 rfl rfl (vp_in_nI (by omega) (by omega)) dX1_read_19 ?_
    refine lv_topi (fun v_19 ev_19 => ?_)
    refine lv_goto (tgt := 24) hx hb dX1_read_20 (by decide) ?_
    refine W.widen (k := 0) (n := 0) (Nat.le_of_ble_eq_true rfl) (Nat.le_of_ble_eq_true rfl) ?_
    exact W.iret (v := v_19) hx hb hr (fun t ht hW => ⟨⟨v_19, (), rfl, trivial, ht⟩, hS.F ht⟩) hS.2.2 dX1_read_24
  · skip
    refine lv_if_eq (tgt := 23) hx hb dX1_read_5 (by decide) (fun _ => ?_) (fun c_5 => absurd (by decide +kernel) c_5)
    refine lv_iconst (v := (-1)) hx hb dX1_read_23 (by decide +kernel) ?_
    refine W.widen (k := 0) (n := 0) (Nat.le_of_ble_eq_true rfl) (Nat.le_of_ble_eq_true rfl) ?_
    exact W.iret (v := (-1)) hx hb hr (fun t ht hW => ⟨⟨(-1), (), rfl, trivial, ht⟩, hS.F ht⟩) hS.2.2 dX1_read_24
set_option maxHeartbeats 1000000 in
set_option maxRecDepth 100000 in
theorem mz_b_write (l : Launch) (dC : Nat → ClassId) (dI : Nat → Nat → Nat) (cI cJ cZ : ClassId) (bk : Nat) (bp : Nat) (fb : Nat → Int32) (p0 : Int32) (p1 : Int32) (p2 : Int32) (sz : Nat)  : Met l yX1_write wsX1_write ({ frames := 1, cells := 0, slots := 0, locals := 21 }) (va_Pc [.ref bk, .int p0, .int p1, .int p2] (fun U => U.heap.size = sz ∧ va_P (dC, dI) vwCl [(bk, .inr (1, [.ref bp])), (bp, .inl (cI, 1024, .inl fb))] U.heap ∧ va_K (dC, dI) vwCl [(cI, FieldType.int), (cJ, FieldType.long), (cZ, FieldType.boolean)] U ∧ va_D (fun _ => True) [(bk, .inr (1, [.ref bp])), (bp, .inl (cI, 1024, .inl fb))] ∧ mz_N U)) (va_Qv (fun (_ : Unit) => True) (fun _ t => ∃ (gb : Nat → Int32), va_P (dC, dI) vwCl [(bk, .inr (1, [.ref bp])), (bp, .inl (cI, 1024, .inl gb))] t.heap ∧ va_D (va_A [(bk, .inr (1, [.ref bp])), (bp, .inl (cI, 1024, .inl fb))] sz) [(bk, .inr (1, [.ref bp])), (bp, .inl (cI, 1024, .inl gb))]) (va_A [(bk, .inr (1, [.ref bp])), (bp, .inl (cI, 1024, .inl fb))] sz)) 0 0 (va_A [(bk, .inr (1, [.ref bp])), (bp, .inl (cI, 1024, .inl fb))] sz) := by
  refine Met.ofW (cc := cX1_write) (maxL := 4) (ret := none) (by decide) rfl ?_
  intro p e s m args below meth c s₁ B hml hv
  obtain ⟨rfl, hsz, hP, hK, hD0, hN⟩ := hv
  subst hsz
  have hx := B.exec
  have hb := B.bytes
  have hr := B.returns
  have hts := atoms_spec (ws := wsX1_write) B.pre
  have hown : s.vm.findClass RX1 = some m.cls := findClass_of_methodNamed B.named
  have hlocks := B.notSynchronized
  have hD := hD0.self (sz := s.heap.size)
  generalize hAe : va_A [(bk, .inr (1, [.ref bp])), (bp, .inl (cI, 1024, .inl fb))] s.heap.size = A at hD ⊢
  have hA : ∀ q : Nat, s.heap.size ≤ q → A q := fun q h => by rw [← hAe]; exact Or.inr h
  have hS : va_S A s.heap s.heap [] := va_S.rf
  have hiX1 : ∀ w ∈ u_ws RX1 TX1 1, w ∈ wsX1_write := by decide +kernel
  have hl := lv_entry ([.ref bk, .int p0, .int p1, .int p2]) (n := 4) (Nat.le_of_ble_eq_true rfl)
  rw [lg_entry_eq]
  generalize (lg_sl ([.ref bk, .int p0, .int p1, .int p2]) ++ List.replicate (4 - (lg_sl ([.ref bk, .int p0, .int p1, .int p2])).length) Slot.unset).toArray = ls at hl ⊢
  have hl : lv_has ls 4 [(0, .ref bk), (1, .int p0), (2, .int p1), (3, .int p2)] := hl
  refine lv_iload_n hx hb dX1_write_0 rfl (lv_at hl 1 rfl) ?_
  refine lv_iload_n hx hb dX1_write_1 rfl (lv_at hl 2 rfl) ?_
  have hPc := hP.sub (ws' := []) [] rfl
  refine va_calli (va_runS (As := [.int p0, .int p1]) (rest := []) ⟨hx, hb, hml, hown, hts⟩ (mz_b_isPlace l dC dI cI cJ cZ p0 p1 s.heap ) (va_cwS 2 hts gX1_write_X1_isPlace rfl rfl rfl (by decide +kernel) ⟨Nat.le_of_ble_eq_true rfl, Nat.le_of_ble_eq_true rfl⟩) ⟨fun a U g mk q => mz_blP q, fun U hU hW => ⟨rfl, hU, hPc, va_K.moved hW.alike hK, mz_nw hW hN⟩⟩ rfl rfl hl.1 rfl (lv_room (Nat.le_of_ble_eq_true rfl)) dX1_write_2 ⟨Nat.le_of_ble_eq_true rfl, Nat.le_of_ble_eq_true rfl⟩) hS (fun q _ h => h.elim) (fun q h => h.elim) (fun r_2 u t H1 locs ht hvm hw_2 hB hz1 hk1 hS => ?_)
  have hE : s.heap = H1 := hB.symm.trans ht
  subst hE
  rcases (show (r_2 = 1 ∧ ∃ i j : Nat, i < 8 ∧ j < 128 ∧ p0 = nI i ∧ p1 = nI j) ∨ r_2 = 0 from hw_2) with ⟨rfl, i_2, j_2, hi_2, hj_2, he_2, hf_2⟩ | rfl
  · skip
    subst he_2
    subst hf_2
    refine lv_if_eq (tgt := 21) hx hb dX1_write_5 (by decide) (fun c_5 => absurd c_5 (by decide +kernel)) (fun _ => ?_)
    refine lv_aload_n hx hb dX1_write_8 rfl (lv_at hl 0 rfl) ?_
    refine va_get (D := (dC, dI)) (ci := 1) (v := .ref bp) (C := RX1) (T := TX1) (N := 1) hx hb hts hiX1 hown hK hP 0 rfl rfl 0 (by decide) (hts (.fieldLink RX1 9 "MadeItSo$Books" "parts" "[I") (by decide +kernel)) (fun _ h9 => h9) rfl dX1_write_9 ?_
    refine lv_iload_n hx hb dX1_write_12 rfl (lv_at hl 1 rfl) ?_
    refine lv_sipush (v := 128) hx hb dX1_write_13 (by decide +kernel) ?_
    refine lv_imul hx hb dX1_write_16 ?_
    refine mz_ti (y := (nI (i_2 * 128))) (pk_mul _ _) ?_
    refine lv_iload_n hx hb dX1_write_17 rfl (lv_at hl 2 rfl) ?_
    refine lv_iadd hx hb dX1_write_18 ?_
    refine mz_ti (y := (nI ((i_2 * 128) + j_2))) (nI_add _ _) ?_
    refine lv_iload_n hx hb dX1_write_19 rfl (lv_at hl 3 rfl) ?_
    refine va_iast hx hb hK hP hD hS 1 0 rfl rfl (vp_in_nI (by omega) (by omega)) dX1_write_20 (fun H locs hP hD hS => ?_)
    have hP : va_P (dC, dI) vwCl [(bk, .inr (1, [.ref bp])), (bp, .inl (cI, 1024, .inl (upd fb ((nI ((i_2 * 128) + j_2)) : Int32).toNatClampNeg p2)))] H := hP
    have hD : va_D A [(bk, .inr (1, [.ref bp])), (bp, .inl (cI, 1024, .inl (upd fb ((nI ((i_2 * 128) + j_2)) : Int32).toNatClampNeg p2)))] := hD
    generalize (upd fb ((nI ((i_2 * 128) + j_2)) : Int32).toNatClampNeg p2) = f_20 at hP hD
    have hP9 := hP.sub (ws' := [(bk, .inr (1, [.ref bp])), (bp, .inl (cI, 1024, .inl f_20))]) [0, 1] rfl
    have hD9 := hD.sub (ws' := [(bk, .inr (1, [.ref bp])), (bp, .inl (cI, 1024, .inl f_20))]) [0, 1] (by decide) rfl
    refine W.widen (k := 0) (n := 0) (Nat.le_of_ble_eq_true rfl) (Nat.le_of_ble_eq_true rfl) ?_
    exact W.vret hx hb hr (fun t ht hW => ⟨⟨(), rfl, trivial, f_20, by rw [ht]; exact hP9, hD9⟩, hS.F ht⟩) hS.2.2 dX1_write_21
  · skip
    refine lv_if_eq (tgt := 21) hx hb dX1_write_5 (by decide) (fun _ => ?_) (fun c_5 => absurd (by decide +kernel) c_5)
    have hP9 := hP.sub (ws' := [(bk, .inr (1, [.ref bp])), (bp, .inl (cI, 1024, .inl fb))]) [0, 1] rfl
    have hD9 := hD.sub (ws' := [(bk, .inr (1, [.ref bp])), (bp, .inl (cI, 1024, .inl fb))]) [0, 1] (by decide) rfl
    refine W.widen (k := 0) (n := 0) (Nat.le_of_ble_eq_true rfl) (Nat.le_of_ble_eq_true rfl) ?_
    exact W.vret hx hb hr (fun t ht hW => ⟨⟨(), rfl, trivial, fb, by rw [ht]; exact hP9, hD9⟩, hS.F ht⟩) hS.2.2 dX1_write_21
set_option maxHeartbeats 1000000 in
set_option maxRecDepth 100000 in
theorem mz_b_blank (l : Launch) (dC : Nat → ClassId) (dI : Nat → Nat → Nat) (cI cJ cZ : ClassId) (bk : Nat) (bp : Nat) (fb : Nat → Int32) (p0 : Int32) (sz : Nat)  : Met l yX1_blank wsX1_blank ({ frames := 0, cells := 0, slots := 0, locals := 0 }) (va_Pc [.ref bk, .int p0] (fun U => U.heap.size = sz ∧ va_P (dC, dI) vwCl [(bk, .inr (1, [.ref bp])), (bp, .inl (cI, 1024, .inl fb))] U.heap ∧ va_K (dC, dI) vwCl [(cI, FieldType.int), (cJ, FieldType.long), (cZ, FieldType.boolean)] U ∧ va_D (fun _ => True) [(bk, .inr (1, [.ref bp])), (bp, .inl (cI, 1024, .inl fb))] ∧ mz_N U)) (va_Qv (fun (_ : Unit) => True) (fun _ t => ∃ (gb : Nat → Int32), va_P (dC, dI) vwCl [(bk, .inr (1, [.ref bp])), (bp, .inl (cI, 1024, .inl gb))] t.heap ∧ va_D (va_A [(bk, .inr (1, [.ref bp])), (bp, .inl (cI, 1024, .inl fb))] sz) [(bk, .inr (1, [.ref bp])), (bp, .inl (cI, 1024, .inl gb))]) (va_A [(bk, .inr (1, [.ref bp])), (bp, .inl (cI, 1024, .inl fb))] sz)) 0 0 (va_A [(bk, .inr (1, [.ref bp])), (bp, .inl (cI, 1024, .inl fb))] sz) := by
  refine Met.ofW (cc := cX1_blank) (maxL := 3) (ret := none) (by decide) rfl ?_
  intro p e s m args below meth c s₁ B hml hv
  obtain ⟨rfl, hsz, hP, hK, hD0, hN⟩ := hv
  subst hsz
  have hx := B.exec
  have hb := B.bytes
  have hr := B.returns
  have hts := atoms_spec (ws := wsX1_blank) B.pre
  have hown : s.vm.findClass RX1 = some m.cls := findClass_of_methodNamed B.named
  have hlocks := B.notSynchronized
  have hD := hD0.self (sz := s.heap.size)
  generalize hAe : va_A [(bk, .inr (1, [.ref bp])), (bp, .inl (cI, 1024, .inl fb))] s.heap.size = A at hD ⊢
  have hA : ∀ q : Nat, s.heap.size ≤ q → A q := fun q h => by rw [← hAe]; exact Or.inr h
  have hS : va_S A s.heap s.heap [] := va_S.rf
  have hiX1 : ∀ w ∈ u_ws RX1 TX1 1, w ∈ wsX1_blank := by decide +kernel
  have hl := lv_entry ([.ref bk, .int p0]) (n := 3) (Nat.le_of_ble_eq_true rfl)
  rw [lg_entry_eq]
  generalize (lg_sl ([.ref bk, .int p0]) ++ List.replicate (3 - (lg_sl ([.ref bk, .int p0])).length) Slot.unset).toArray = ls at hl ⊢
  have hl : lv_has ls 3 [(0, .ref bk), (1, .int p0)] := hl
  refine lv_iload_n hx hb dX1_blank_0 rfl (lv_at hl 1 rfl) ?_
  refine lv_if_lt (tgt := 39) hx hb dX1_blank_1 (by decide) (fun c_1 => ?_) (fun c_1 => ?_)
  · skip
    have hP9 := hP.sub (ws' := [(bk, .inr (1, [.ref bp])), (bp, .inl (cI, 1024, .inl fb))]) [0, 1] rfl
    have hD9 := hD.sub (ws' := [(bk, .inr (1, [.ref bp])), (bp, .inl (cI, 1024, .inl fb))]) [0, 1] (by decide) rfl
    refine W.widen (k := 0) (n := 0) (Nat.le_of_ble_eq_true rfl) (Nat.le_of_ble_eq_true rfl) ?_
    exact W.vret hx hb hr (fun t ht hW => ⟨⟨(), rfl, trivial, fb, by rw [ht]; exact hP9, hD9⟩, hS.F ht⟩) hS.2.2 dX1_blank_39
  · skip
    refine lv_iload_n hx hb dX1_blank_4 rfl (lv_at hl 1 rfl) ?_
    refine lv_bipush (v := 8) hx hb dX1_blank_5 (by decide +kernel) ?_
    refine lv_icmp_ge (tgt := 39) hx hb dX1_blank_7 (by decide) (fun c_7 => ?_) (fun c_7 => ?_)
    · skip
      have hP9 := hP.sub (ws' := [(bk, .inr (1, [.ref bp])), (bp, .inl (cI, 1024, .inl fb))]) [0, 1] rfl
      have hD9 := hD.sub (ws' := [(bk, .inr (1, [.ref bp])), (bp, .inl (cI, 1024, .inl fb))]) [0, 1] (by decide) rfl
      refine W.widen (k := 0) (n := 0) (Nat.le_of_ble_eq_true rfl) (Nat.le_of_ble_eq_true rfl) ?_
      exact W.vret hx hb hr (fun t ht hW => ⟨⟨(), rfl, trivial, fb, by rw [ht]; exact hP9, hD9⟩, hS.F ht⟩) hS.2.2 dX1_blank_39
    · skip
      obtain ⟨j_10, hj_10, he_10⟩ := mz_ix (n := 8) c_1 c_7 (by omega)
      subst he_10
      refine lv_iconst (v := 0) hx hb dX1_blank_10 (by decide +kernel) ?_
      refine lv_istore_n (lv' := [(2, .int 0), (0, .ref bk), (1, .int (nI j_10))]) hx hb dX1_blank_11 rfl hl (by decide) rfl (fun ls hl => ?_)
      refine mz_loopU (fun k H locs ls => ∃ (i_12 : Nat), ∃ (fbp_12 : Nat → Int32), i_12 ≤ 128 ∧ va_P (dC, dI) vwCl [(bk, .inr (1, [.ref bp])), (bp, .inl (cI, 1024, .inl fbp_12))] H ∧ va_D A [(bk, .inr (1, [.ref bp])), (bp, .inl (cI, 1024, .inl fbp_12))] ∧ va_S A s.heap H locs ∧ lv_has ls 3 [(2, .int (nI i_12)), (0, .ref bk), (1, .int (nI j_10))] ∧ k = 128 - i_12) ?_ _ _ _ _ ⟨0, fb, by omega, hP, hD, hS, lv_sub hl [0, 1, 2] rfl, rfl⟩
      intro k_12 H locs ls hI_12 ih_12
      obtain ⟨i_12, fbp_12, hi_12, hP, hD, hS, hl, hk_12⟩ := hI_12
      refine lv_iload_n hx hb dX1_blank_12 rfl (lv_at hl 0 rfl) ?_
      refine lv_sipush (v := 128) hx hb dX1_blank_13 (by decide +kernel) ?_
      refine lv_icmp_ge (tgt := 39) hx hb dX1_blank_16 (by decide) (fun c_16 => ?_) (fun c_16 => ?_)
      · skip
        have d_16 : 128 ≤ i_12 := (nI_leI (a := 128) (b := i_12) (by omega) (by omega)).mp c_16
        have hP9 := hP.sub (ws' := [(bk, .inr (1, [.ref bp])), (bp, .inl (cI, 1024, .inl fbp_12))]) [0, 1] rfl
        have hD9 := hD.sub (ws' := [(bk, .inr (1, [.ref bp])), (bp, .inl (cI, 1024, .inl fbp_12))]) [0, 1] (by decide) rfl
        refine W.widen (k := 0) (n := 0) (Nat.le_of_ble_eq_true rfl) (Nat.le_of_ble_eq_true rfl) ?_
        exact W.vret hx hb hr (fun t ht hW => ⟨⟨(), rfl, trivial, fbp_12, by rw [ht]; exact hP9, hD9⟩, hS.F ht⟩) hS.2.2 dX1_blank_39
      · skip
        have d_16 : ¬ 128 ≤ i_12 := fun h => c_16 ((nI_leI (a := 128) (b := i_12) (by omega) (by omega)).mpr h)
        refine lv_aload_n hx hb dX1_blank_19 rfl (lv_at hl 1 rfl) ?_
        refine va_get (D := (dC, dI)) (ci := 1) (v := .ref bp) (C := RX1) (T := TX1) (N := 1) hx hb hts hiX1 hown hK hP 0 rfl rfl 0 (by decide) (hts (.fieldLink RX1 9 "MadeItSo$Books" "parts" "[I") (by decide +kernel)) (fun _ h9 => h9) rfl dX1_blank_20 ?_
        refine lv_iload_n hx hb dX1_blank_23 rfl (lv_at hl 2 rfl) ?_
        refine lv_sipush (v := 128) hx hb dX1_blank_24 (by decide +kernel) ?_
        refine lv_imul hx hb dX1_blank_27 ?_
        refine mz_ti (y := (nI (j_10 * 128))) (pk_mul _ _) ?_
        refine lv_iload_n hx hb dX1_blank_28 rfl (lv_at hl 0 rfl) ?_
        refine lv_iadd hx hb dX1_blank_29 ?_
        refine mz_ti (y := (nI ((j_10 * 128) + i_12))) (nI_add _ _) ?_
        refine lv_bipush (v := 50) hx hb dX1_blank_30 (by decide +kernel) ?_
        refine va_iast hx hb hK hP hD hS 1 0 rfl rfl (vp_in_nI (by omega) (by omega)) dX1_blank_32 (fun H locs hP hD hS => ?_)
        have hP : va_P (dC, dI) vwCl [(bk, .inr (1, [.ref bp])), (bp, .inl (cI, 1024, .inl (upd fbp_12 ((nI ((j_10 * 128) + i_12)) : Int32).toNatClampNeg 50)))] H := hP
        have hD : va_D A [(bk, .inr (1, [.ref bp])), (bp, .inl (cI, 1024, .inl (upd fbp_12 ((nI ((j_10 * 128) + i_12)) : Int32).toNatClampNeg 50)))] := hD
        generalize (upd fbp_12 ((nI ((j_10 * 128) + i_12)) : Int32).toNatClampNeg 50) = f_32 at hP hD
        refine lv_iinc (v := (nI (i_12 + 1))) (lv' := [(2, .int (nI (i_12 + 1))), (0, .ref bk), (1, .int (nI j_10))]) hx hb dX1_blank_33 hl (k := 0) rfl (nI_1 _) (by decide) rfl (fun ls hl => ?_)
        refine lv_goto (tgt := 12) hx hb dX1_blank_36 (by decide) ?_
        exact ih_12 _ (by omega) _ _ _ ⟨(i_12 + 1), f_32, by omega, hP, hD, hS, lv_sub hl [0, 1, 2] rfl, rfl⟩
set_option maxHeartbeats 1000000 in
set_option maxRecDepth 100000 in
theorem mz_b_rowOf (l : Launch) (dC : Nat → ClassId) (dI : Nat → Nat → Nat) (cI cJ cZ : ClassId) (p0 : Int32) (p1 : Int32) (Hq : Heap)  : Met l yX1_rowOf wsX1_rowOf ({ frames := 1, cells := 0, slots := 0, locals := 21 }) (va_Pc [.int p0, .int p1] (fun U => U.heap = Hq ∧ va_P (dC, dI) vwCl [] Hq ∧ va_K (dC, dI) vwCl [(cI, FieldType.int), (cJ, FieldType.long), (cZ, FieldType.boolean)] U ∧ mz_N U)) (va_Qi (fun (r : Int32) (_ : Unit) => True) (fun _ t => t.heap = Hq) (fun _ : Nat => False)) 0 0 (fun _ : Nat => False) := by
  refine Met.ofW (cc := cX1_rowOf) (maxL := 5) (ret := (some .int)) (by decide) rfl ?_
  intro p e s m args below meth c s₁ B hml hv
  obtain ⟨rfl, hH, hP, hK, hN⟩ := hv
  subst hH
  have hx := B.exec
  have hb := B.bytes
  have hr := B.returns
  have hts := atoms_spec (ws := wsX1_rowOf) B.pre
  have hown : s.vm.findClass RX1 = some m.cls := findClass_of_methodNamed B.named
  have hlocks := B.notSynchronized
  have hS : va_S (fun _ : Nat => False) s.heap s.heap [] := va_S.rf
  have hl := lv_entry ([.int p0, .int p1]) (n := 5) (Nat.le_of_ble_eq_true rfl)
  rw [lg_entry_eq]
  generalize (lg_sl ([.int p0, .int p1]) ++ List.replicate (5 - (lg_sl ([.int p0, .int p1])).length) Slot.unset).toArray = ls at hl ⊢
  have hl : lv_has ls 5 [(0, .int p0), (1, .int p1)] := hl
  refine lv_iconst (v := 0) hx hb dX1_rowOf_0 (by decide +kernel) ?_
  refine lv_istore_n (lv' := [(2, .int 0), (0, .int p0), (1, .int p1)]) hx hb dX1_rowOf_1 rfl hl (by decide) rfl (fun ls hl => ?_)
  refine lv_iconst (v := 0) hx hb dX1_rowOf_2 (by decide +kernel) ?_
  refine lv_istore_n (lv' := [(3, .int 0), (2, .int 0), (0, .int p0), (1, .int p1)]) hx hb dX1_rowOf_3 rfl hl (by decide) rfl (fun ls hl => ?_)
  refine lv_iconst (v := 0) hx hb dX1_rowOf_4 (by decide +kernel) ?_
  refine lv_istore (lv' := [(4, .int 0), (3, .int 0), (2, .int 0), (0, .int p0), (1, .int p1)]) hx hb dX1_rowOf_5 hl (by decide) rfl (fun ls hl => ?_)
  refine mz_loopU (fun k H locs ls => ∃ (i_7 : Nat), ∃ (x3_7 : Int32), ∃ (x2_7 : Int32), i_7 ≤ 8 ∧ H = s.heap ∧ va_S (fun _ : Nat => False) s.heap H locs ∧ lv_has ls 5 [(4, .int (nI i_7)), (3, .int x3_7), (2, .int x2_7), (0, .int p0), (1, .int p1)] ∧ k = 8 - i_7) ?_ _ _ _ _ ⟨0, 0, 0, by omega, rfl, hS, lv_sub hl [0, 1, 2, 3, 4] rfl, rfl⟩
  intro k_7 H locs ls hI_7 ih_7
  obtain ⟨i_7, x3_7, x2_7, hi_7, hH_7, hS, hl, hk_7⟩ := hI_7
  subst hH_7
  refine lv_iload hx hb dX1_rowOf_7 (lv_at hl 0 rfl) ?_
  refine lv_bipush (v := 8) hx hb dX1_rowOf_9 (by decide +kernel) ?_
  refine lv_icmp_ge (tgt := 43) hx hb dX1_rowOf_11 (by decide) (fun c_11 => ?_) (fun c_11 => ?_)
  · skip
    have d_11 : 8 ≤ i_7 := (nI_leI (a := 8) (b := i_7) (by omega) (by omega)).mp c_11
    refine lv_iload_n hx hb dX1_rowOf_43 rfl (lv_at hl 2 rfl) ?_
    refine W.widen (k := 0) (n := 0) (Nat.le_of_ble_eq_true rfl) (Nat.le_of_ble_eq_true rfl) ?_
    exact W.iret (v := x2_7) hx hb hr (fun t ht hW => ⟨⟨x2_7, (), rfl, trivial, ht⟩, hS.F ht⟩) hS.2.2 dX1_rowOf_44
  · skip
    have d_11 : ¬ 8 ≤ i_7 := fun h => c_11 ((nI_leI (a := 8) (b := i_7) (by omega) (by omega)).mpr h)
    refine lv_iload_n hx hb dX1_rowOf_14 rfl (lv_at hl 3 rfl) ?_
    refine lv_iload hx hb dX1_rowOf_15 (lv_at hl 0 rfl) ?_
    have hPc := hP.sub (ws' := []) [] rfl
    refine va_calli (va_runSN (As := [.int p0, .int (nI i_7)]) (rest := []) ⟨hx, hb, hml, hown, hts⟩ (mz_g_inHeap l dC dI cI cJ cZ p0 (nI i_7) s.heap ) ⟨va_cnB (host := "MadeItSo") 2 hts gX1_rowOf_X7_inHeap_n23 rfl rfl rfl (hN (RX1, 23, yX7_inHeap, "MadeItSo") (by decide +kernel)) (hts (.initialized RX7) (by decide +kernel)) (by decide +kernel) ⟨Nat.le_of_ble_eq_true rfl, Nat.le_of_ble_eq_true rfl⟩, hts (.static yX7_inHeap) (by decide +kernel), trivial⟩ ⟨fun a U g mk q => mz_blP q, fun U hU hW => ⟨rfl, hU, hPc, va_K.moved hW.alike hK, mz_nw hW hN⟩⟩ rfl rfl hl.1 rfl (lv_room (Nat.le_of_ble_eq_true rfl)) dX1_rowOf_17 ⟨Nat.le_of_ble_eq_true rfl, Nat.le_of_ble_eq_true rfl⟩) hS (fun q _ h => h.elim) (fun q h => h.elim) (fun r_17 u t H1 locs ht hvm hw_17 hB hz1 hk1 hS => ?_)
    have hE : s.heap = H1 := hB.symm.trans ht
    subst hE
    refine lv_if_eq (tgt := 37) hx hb dX1_rowOf_20 (by decide) (fun c_20 => ?_) (fun c_20 => ?_)
    · skip
      refine lv_iinc (v := (nI (i_7 + 1))) (lv' := [(4, .int (nI (i_7 + 1))), (3, .int x3_7), (2, .int x2_7), (0, .int p0), (1, .int p1)]) hx hb dX1_rowOf_37 hl (k := 0) rfl (nI_1 _) (by decide) rfl (fun ls hl => ?_)
      refine lv_goto (tgt := 7) hx hb dX1_rowOf_40 (by decide) ?_
      exact ih_7 _ (by omega) _ _ _ ⟨(i_7 + 1), x3_7, x2_7, by omega, rfl, hS, lv_sub hl [0, 1, 2, 3, 4] rfl, rfl⟩
    · skip
      refine lv_iload_n hx hb dX1_rowOf_23 rfl (lv_at hl 2 rfl) ?_
      refine lv_iload_n hx hb dX1_rowOf_24 rfl (lv_at hl 4 rfl) ?_
      refine lv_iload hx hb dX1_rowOf_25 (lv_at hl 0 rfl) ?_
      refine lv_ishr hx hb dX1_rowOf_27 ?_
      refine lv_topi (fun v_27 ev_27 => ?_)
      refine lv_iconst (v := 1) hx hb dX1_rowOf_28 (by decide +kernel) ?_
      refine lv_iand hx hb dX1_rowOf_29 ?_
      refine lv_topi (fun v_29 ev_29 => ?_)
      refine lv_iload_n hx hb dX1_rowOf_30 rfl (lv_at hl 1 rfl) ?_
      refine lv_ishl hx hb dX1_rowOf_31 ?_
      refine lv_topi (fun v_31 ev_31 => ?_)
      refine lv_ior hx hb dX1_rowOf_32 ?_
      refine lv_topi (fun v_32 ev_32 => ?_)
      refine lv_istore_n (lv' := [(2, .int v_32), (4, .int (nI i_7)), (3, .int x3_7), (0, .int p0), (1, .int p1)]) hx hb dX1_rowOf_33 rfl hl (by decide) rfl (fun ls hl => ?_)
      obtain ⟨v_34, ev_34⟩ : ∃ y : Int32, y = x3_7 + Int32.ofInt 1 := ⟨_, rfl⟩
      refine lv_iinc (v := v_34) (lv' := [(3, .int v_34), (2, .int v_32), (4, .int (nI i_7)), (0, .int p0), (1, .int p1)]) hx hb dX1_rowOf_34 hl (k := 2) rfl ev_34.symm (by decide) rfl (fun ls hl => ?_)
      refine lv_iinc (v := (nI (i_7 + 1))) (lv' := [(4, .int (nI (i_7 + 1))), (3, .int v_34), (2, .int v_32), (0, .int p0), (1, .int p1)]) hx hb dX1_rowOf_37 hl (k := 2) rfl (nI_1 _) (by decide) rfl (fun ls hl => ?_)
      refine lv_goto (tgt := 7) hx hb dX1_rowOf_40 (by decide) ?_
      exact ih_7 _ (by omega) _ _ _ ⟨(i_7 + 1), v_34, v_32, by omega, rfl, hS, lv_sub hl [0, 1, 2, 3, 4] rfl, rfl⟩
set_option maxHeartbeats 1000000 in
set_option maxRecDepth 100000 in
theorem mz_b_partsUnder (l : Launch) (dC : Nat → ClassId) (dI : Nat → Nat → Nat) (cI cJ cZ : ClassId) (bk : Nat) (bp : Nat) (fb : Nat → Int32) (dr : Nat) (dp : Nat) (dc : Nat) (n : Nat) (fp : Nat → Int32) (p1 : Int32) (p2 : Int32) (p3 : Int32) (Hq : Heap) (hn : n ≤ 8) : Met l yX1_partsUnder wsX1_partsUnder ({ frames := 2, cells := 0, slots := 0, locals := 45 }) (va_Pc [.ref bk, .ref dr, .int p1, .int p2, .int p3] (fun U => U.heap = Hq ∧ va_P (dC, dI) vwCl [(bk, .inr (1, [.ref bp])), (bp, .inl (cI, 1024, .inl fb)), (dr, .inr (2, [.ref dp, .ref dc, .int (nI n)])), (dp, .inl (cI, 8, .inl fp))] Hq ∧ va_K (dC, dI) vwCl [(cI, FieldType.int), (cJ, FieldType.long), (cZ, FieldType.boolean)] U ∧ mz_N U)) (va_Qi (fun (r : Int32) (_ : Unit) => True) (fun _ t => t.heap = Hq) (fun _ : Nat => False)) 0 0 (fun _ : Nat => False) := by
  refine Met.ofW (cc := cX1_partsUnder) (maxL := 5) (ret := (some .int)) (by decide) rfl ?_
  intro p e s m args below meth c s₁ B hml hv
  obtain ⟨rfl, hH, hP, hK, hN⟩ := hv
  subst hH
  have hx := B.exec
  have hb := B.bytes
  have hr := B.returns
  have hts := atoms_spec (ws := wsX1_partsUnder) B.pre
  have hown : s.vm.findClass RX1 = some m.cls := findClass_of_methodNamed B.named
  have hlocks := B.notSynchronized
  have hS : va_S (fun _ : Nat => False) s.heap s.heap [] := va_S.rf
  have hl := lv_entry ([.ref bk, .ref dr, .int p1, .int p2, .int p3]) (n := 5) (Nat.le_of_ble_eq_true rfl)
  rw [lg_entry_eq]
  generalize (lg_sl ([.ref bk, .ref dr, .int p1, .int p2, .int p3]) ++ List.replicate (5 - (lg_sl ([.ref bk, .ref dr, .int p1, .int p2, .int p3])).length) Slot.unset).toArray = ls at hl ⊢
  have hl : lv_has ls 5 [(0, .ref bk), (1, .ref dr), (2, .int p1), (3, .int p2), (4, .int p3)] := hl
  refine lv_iload hx hb dX1_partsUnder_0 (lv_at hl 4 rfl) ?_
  have hPc := hP.sub (ws' := []) [] rfl
  refine va_calli (va_runSN (As := [.int p3]) (rest := []) ⟨hx, hb, hml, hown, hts⟩ (mz_g_heapOf l dC dI cI cJ cZ p3 s.heap ) ⟨va_cnB (host := "MadeItSo") 1 hts gX1_partsUnder_X7_heapOf_n19 rfl rfl rfl (hN (RX1, 19, yX7_heapOf, "MadeItSo") (by decide +kernel)) (hts (.initialized RX7) (by decide +kernel)) (by decide +kernel) ⟨Nat.le_of_ble_eq_true rfl, Nat.le_of_ble_eq_true rfl⟩, hts (.static yX7_heapOf) (by decide +kernel), trivial⟩ ⟨fun a U g mk q => mz_blP q, fun U hU hW => ⟨rfl, hU, hPc, va_K.moved hW.alike hK, mz_nw hW hN⟩⟩ rfl rfl hl.1 rfl (lv_room (Nat.le_of_ble_eq_true rfl)) dX1_partsUnder_2 ⟨Nat.le_of_ble_eq_true rfl, Nat.le_of_ble_eq_true rfl⟩) hS (fun q _ h => h.elim) (fun q h => h.elim) (fun r_2 u t H1 locs ht hvm hw_2 hB hz1 hk1 hS => ?_)
  have hE : s.heap = H1 := hB.symm.trans ht
  subst hE
  refine lv_iload_n hx hb dX1_partsUnder_5 rfl (lv_at hl 2 rfl) ?_
  have hPc := hP.sub (ws' := []) [] rfl
  refine va_calli (va_runSN (As := [.int r_2, .int p1]) (rest := []) ⟨hx, hb, hml, hown, hts⟩ (mz_g_inHeap l dC dI cI cJ cZ r_2 p1 s.heap ) ⟨va_cnB (host := "MadeItSo") 2 hts gX1_partsUnder_X7_inHeap_n23 rfl rfl rfl (hN (RX1, 23, yX7_inHeap, "MadeItSo") (by decide +kernel)) (hts (.initialized RX7) (by decide +kernel)) (by decide +kernel) ⟨Nat.le_of_ble_eq_true rfl, Nat.le_of_ble_eq_true rfl⟩, hts (.static yX7_inHeap) (by decide +kernel), trivial⟩ ⟨fun a U g mk q => mz_blP q, fun U hU hW => ⟨rfl, hU, hPc, va_K.moved hW.alike hK, mz_nw hW hN⟩⟩ rfl rfl hl.1 rfl (lv_room (Nat.le_of_ble_eq_true rfl)) dX1_partsUnder_6 ⟨Nat.le_of_ble_eq_true rfl, Nat.le_of_ble_eq_true rfl⟩) hS (fun q _ h => h.elim) (fun q h => h.elim) (fun r_6 u t H1 locs ht hvm hw_6 hB hz1 hk1 hS => ?_)
  have hE : s.heap = H1 := hB.symm.trans ht
  subst hE
  refine lv_if_eq (tgt := 31) hx hb dX1_partsUnder_9 (by decide) (fun c_9 => ?_) (fun c_9 => ?_)
  · skip
    refine lv_aload_n hx hb dX1_partsUnder_31 rfl (lv_at hl 0 rfl) ?_
    refine lv_iload_n hx hb dX1_partsUnder_32 rfl (lv_at hl 2 rfl) ?_
    refine lv_aload_n hx hb dX1_partsUnder_33 rfl (lv_at hl 1 rfl) ?_
    refine lv_iload_n hx hb dX1_partsUnder_34 rfl (lv_at hl 2 rfl) ?_
    have hPc := hP.sub (ws' := [(dr, .inr (2, [.ref dp, .ref dc, .int (nI n)])), (dp, .inl (cI, 8, .inl fp))]) [2, 3] rfl
    refine va_calli (va_runV (As := [.int p1]) (rest := [.int p1, .ref bk]) ⟨hx, hb, hml, hown, hts⟩ (mz_d_parentsOf l dC dI cI cJ cZ dr dp dc n fp p1 s.heap (by first | assumption | omega)) (cwV 1 hts gX1_partsUnder_X2_parentsOf rfl rfl rfl (by decide +kernel) ⟨Nat.le_of_ble_eq_true rfl, Nat.le_of_ble_eq_true rfl⟩) ⟨fun a U g mk q => mz_blP q, va_recv hK hPc (ci := 2) (q0 := 0) rfl rfl, fun U hU hW => ⟨rfl, hU, hPc, va_K.moved hW.alike hK, mz_nw hW hN⟩⟩ rfl rfl hl.1 rfl (lv_room (Nat.le_of_ble_eq_true rfl)) dX1_partsUnder_35 ⟨Nat.le_of_ble_eq_true rfl, Nat.le_of_ble_eq_true rfl⟩) hS (fun q _ h => h.elim) (fun q h => h.elim) (fun r_35 u t H1 locs ht hvm hw_35 hB hz1 hk1 hS => ?_)
    have hE : s.heap = H1 := hB.symm.trans ht
    subst hE
    refine lv_iload_n hx hb dX1_partsUnder_38 rfl (lv_at hl 3 rfl) ?_
    have hPc := hP.sub (ws' := []) [] rfl
    refine va_calli (va_runS (As := [.int r_35, .int p2]) (rest := [.int p1, .ref bk]) ⟨hx, hb, hml, hown, hts⟩ (mz_b_rowOf l dC dI cI cJ cZ r_35 p2 s.heap ) (va_cwS 2 hts gX1_partsUnder_X1_rowOf rfl rfl rfl (by decide +kernel) ⟨Nat.le_of_ble_eq_true rfl, Nat.le_of_ble_eq_true rfl⟩) ⟨fun a U g mk q => mz_blP q, fun U hU hW => ⟨rfl, hU, hPc, va_K.moved hW.alike hK, mz_nw hW hN⟩⟩ rfl rfl hl.1 rfl (lv_room (Nat.le_of_ble_eq_true rfl)) dX1_partsUnder_39 ⟨Nat.le_of_ble_eq_true rfl, Nat.le_of_ble_eq_true rfl⟩) hS (fun q _ h => h.elim) (fun q h => h.elim) (fun r_39 u t H1 locs ht hvm hw_39 hB hz1 hk1 hS => ?_)
    have hE : s.heap = H1 := hB.symm.trans ht
    subst hE
    have hPc := hP.sub (ws' := [(bk, .inr (1, [.ref bp])), (bp, .inl (cI, 1024, .inl fb))]) [0, 1] rfl
    refine va_calli (va_runV (As := [.int p1, .int r_39]) (rest := []) ⟨hx, hb, hml, hown, hts⟩ (mz_b_read l dC dI cI cJ cZ bk bp fb p1 r_39 s.heap ) (cwV 2 hts gX1_partsUnder_X1_read rfl rfl rfl (by decide +kernel) ⟨Nat.le_of_ble_eq_true rfl, Nat.le_of_ble_eq_true rfl⟩) ⟨fun a U g mk q => mz_blP q, va_recv hK hPc (ci := 1) (q0 := 0) rfl rfl, fun U hU hW => ⟨rfl, hU, hPc, va_K.moved hW.alike hK, mz_nw hW hN⟩⟩ rfl rfl hl.1 rfl (lv_room (Nat.le_of_ble_eq_true rfl)) dX1_partsUnder_42 ⟨Nat.le_of_ble_eq_true rfl, Nat.le_of_ble_eq_true rfl⟩) hS (fun q _ h => h.elim) (fun q h => h.elim) (fun r_42 u t H1 locs ht hvm hw_42 hB hz1 hk1 hS => ?_)
    have hE : s.heap = H1 := hB.symm.trans ht
    subst hE
    refine W.widen (k := 0) (n := 0) (Nat.le_of_ble_eq_true rfl) (Nat.le_of_ble_eq_true rfl) ?_
    exact W.iret (v := r_42) hx hb hr (fun t ht hW => ⟨⟨r_42, (), rfl, trivial, ht⟩, hS.F ht⟩) hS.2.2 dX1_partsUnder_45
  · skip
    refine lv_iload hx hb dX1_partsUnder_12 (lv_at hl 4 rfl) ?_
    have hPc := hP.sub (ws' := []) [] rfl
    refine va_calli (va_runSN (As := [.int p3]) (rest := []) ⟨hx, hb, hml, hown, hts⟩ (mz_g_onesOf l dC dI cI cJ cZ p3 s.heap ) ⟨va_cnB (host := "MadeItSo") 1 hts gX1_partsUnder_X7_onesOf_n26 rfl rfl rfl (hN (RX1, 26, yX7_onesOf, "MadeItSo") (by decide +kernel)) (hts (.initialized RX7) (by decide +kernel)) (by decide +kernel) ⟨Nat.le_of_ble_eq_true rfl, Nat.le_of_ble_eq_true rfl⟩, hts (.static yX7_onesOf) (by decide +kernel), trivial⟩ ⟨fun a U g mk q => mz_blP q, fun U hU hW => ⟨rfl, hU, hPc, va_K.moved hW.alike hK, mz_nw hW hN⟩⟩ rfl rfl hl.1 rfl (lv_room (Nat.le_of_ble_eq_true rfl)) dX1_partsUnder_14 ⟨Nat.le_of_ble_eq_true rfl, Nat.le_of_ble_eq_true rfl⟩) hS (fun q _ h => h.elim) (fun q h => h.elim) (fun r_14 u t H1 locs ht hvm hw_14 hB hz1 hk1 hS => ?_)
    have hE : s.heap = H1 := hB.symm.trans ht
    subst hE
    refine lv_iload_n hx hb dX1_partsUnder_17 rfl (lv_at hl 2 rfl) ?_
    have hPc := hP.sub (ws' := []) [] rfl
    refine va_calli (va_runSN (As := [.int r_14, .int p1]) (rest := []) ⟨hx, hb, hml, hown, hts⟩ (mz_g_inHeap l dC dI cI cJ cZ r_14 p1 s.heap ) ⟨va_cnB (host := "MadeItSo") 2 hts gX1_partsUnder_X7_inHeap_n23 rfl rfl rfl (hN (RX1, 23, yX7_inHeap, "MadeItSo") (by decide +kernel)) (hts (.initialized RX7) (by decide +kernel)) (by decide +kernel) ⟨Nat.le_of_ble_eq_true rfl, Nat.le_of_ble_eq_true rfl⟩, hts (.static yX7_inHeap) (by decide +kernel), trivial⟩ ⟨fun a U g mk q => mz_blP q, fun U hU hW => ⟨rfl, hU, hPc, va_K.moved hW.alike hK, mz_nw hW hN⟩⟩ rfl rfl hl.1 rfl (lv_room (Nat.le_of_ble_eq_true rfl)) dX1_partsUnder_18 ⟨Nat.le_of_ble_eq_true rfl, Nat.le_of_ble_eq_true rfl⟩) hS (fun q _ h => h.elim) (fun q h => h.elim) (fun r_18 u t H1 locs ht hvm hw_18 hB hz1 hk1 hS => ?_)
    have hE : s.heap = H1 := hB.symm.trans ht
    subst hE
    refine lv_if_eq (tgt := 29) hx hb dX1_partsUnder_21 (by decide) (fun c_21 => ?_) (fun c_21 => ?_)
    · skip
      refine lv_iconst (v := 0) hx hb dX1_partsUnder_29 (by decide +kernel) ?_
      refine W.widen (k := 0) (n := 0) (Nat.le_of_ble_eq_true rfl) (Nat.le_of_ble_eq_true rfl) ?_
      exact W.iret (v := 0) hx hb hr (fun t ht hW => ⟨⟨0, (), rfl, trivial, ht⟩, hS.F ht⟩) hS.2.2 dX1_partsUnder_30
    · skip
      refine lv_bipush (v := 100) hx hb dX1_partsUnder_24 (by decide +kernel) ?_
      refine lv_goto (tgt := 30) hx hb dX1_partsUnder_26 (by decide) ?_
      refine W.widen (k := 0) (n := 0) (Nat.le_of_ble_eq_true rfl) (Nat.le_of_ble_eq_true rfl) ?_
      exact W.iret (v := 100) hx hb hr (fun t ht hW => ⟨⟨100, (), rfl, trivial, ht⟩, hS.F ht⟩) hS.2.2 dX1_partsUnder_30
set_option maxHeartbeats 1000000 in
set_option maxRecDepth 100000 in
theorem mz_w_split (l : Launch) (dC : Nat → ClassId) (dI : Nat → Nat → Nat) (cI cJ cZ : ClassId) (wt : Nat) (wo : Nat) (ev : Int32) (fw : Nat → Int64) (p0 : Int32) (p1 : Int32) (p2 : Int32) (sz : Nat)  : Met l yX6_split wsX6_split ({ frames := 0, cells := 0, slots := 0, locals := 0 }) (va_Pc [.ref wt, .int p0, .int p1, .int p2] (fun U => U.heap.size = sz ∧ va_P (dC, dI) vwCl [(wt, .inr (6, [.ref wo, .int ev])), (wo, .inl (cJ, 256, .inr (.inl fw)))] U.heap ∧ va_K (dC, dI) vwCl [(cI, FieldType.int), (cJ, FieldType.long), (cZ, FieldType.boolean)] U ∧ va_D (fun _ => True) [(wt, .inr (6, [.ref wo, .int ev])), (wo, .inl (cJ, 256, .inr (.inl fw)))] ∧ mz_N U)) (va_Qv (fun (_ : Unit) => True) (fun _ t => ∃ (gw : Nat → Int64), va_P (dC, dI) vwCl [(wt, .inr (6, [.ref wo, .int ev])), (wo, .inl (cJ, 256, .inr (.inl gw)))] t.heap ∧ va_D (va_A [(wt, .inr (6, [.ref wo, .int ev])), (wo, .inl (cJ, 256, .inr (.inl fw)))] sz) [(wt, .inr (6, [.ref wo, .int ev])), (wo, .inl (cJ, 256, .inr (.inl gw)))]) (va_A [(wt, .inr (6, [.ref wo, .int ev])), (wo, .inl (cJ, 256, .inr (.inl fw)))] sz)) 0 0 (va_A [(wt, .inr (6, [.ref wo, .int ev])), (wo, .inl (cJ, 256, .inr (.inl fw)))] sz) := by
  refine Met.ofW (cc := cX6_split) (maxL := 6) (ret := none) (by decide) rfl ?_
  intro p e s m args below meth c s₁ B hml hv
  obtain ⟨rfl, hsz, hP, hK, hD0, hN⟩ := hv
  subst hsz
  have hx := B.exec
  have hb := B.bytes
  have hr := B.returns
  have hts := atoms_spec (ws := wsX6_split) B.pre
  have hown : s.vm.findClass RX6 = some m.cls := findClass_of_methodNamed B.named
  have hlocks := B.notSynchronized
  have hD := hD0.self (sz := s.heap.size)
  generalize hAe : va_A [(wt, .inr (6, [.ref wo, .int ev])), (wo, .inl (cJ, 256, .inr (.inl fw)))] s.heap.size = A at hD ⊢
  have hA : ∀ q : Nat, s.heap.size ≤ q → A q := fun q h => by rw [← hAe]; exact Or.inr h
  have hS : va_S A s.heap s.heap [] := va_S.rf
  have hiX6 : ∀ w ∈ u_ws RX6 TX6 2, w ∈ wsX6_split := by decide +kernel
  have hl := lv_entry ([.ref wt, .int p0, .int p1, .int p2]) (n := 6) (Nat.le_of_ble_eq_true rfl)
  rw [lg_entry_eq]
  generalize (lg_sl ([.ref wt, .int p0, .int p1, .int p2]) ++ List.replicate (6 - (lg_sl ([.ref wt, .int p0, .int p1, .int p2])).length) Slot.unset).toArray = ls at hl ⊢
  have hl : lv_has ls 6 [(0, .ref wt), (1, .int p0), (2, .int p1), (3, .int p2)] := hl
  refine lv_iload_n hx hb dX6_split_0 rfl (lv_at hl 1 rfl) ?_
  refine lv_sipush (v := 255) hx hb dX6_split_1 (by decide +kernel) ?_
  refine lv_iand hx hb dX6_split_4 ?_
  obtain ⟨a_4, ha_4, ea_4⟩ := pk_andE (p0) (m := 255) 8 (by decide)
  have ha_4 : a_4 < 256 := ha_4
  refine mz_ti (y := (nI a_4)) ea_4 ?_
  refine lv_istore (lv' := [(4, .int (nI a_4)), (0, .ref wt), (1, .int p0), (2, .int p1), (3, .int p2)]) hx hb dX6_split_5 hl (by decide) rfl (fun ls hl => ?_)
  refine lv_iload_n hx hb dX6_split_7 rfl (lv_at hl 2 rfl) ?_
  refine lv_iload_n hx hb dX6_split_8 rfl (lv_at hl 3 rfl) ?_
  refine lv_ior hx hb dX6_split_9 ?_
  refine lv_topi (fun v_9 ev_9 => ?_)
  refine lv_sipush (v := 255) hx hb dX6_split_10 (by decide +kernel) ?_
  refine lv_iand hx hb dX6_split_13 ?_
  obtain ⟨a_13, ha_13, ea_13⟩ := pk_andE (v_9) (m := 255) 8 (by decide)
  have ha_13 : a_13 < 256 := ha_13
  refine mz_ti (y := (nI a_13)) ea_13 ?_
  refine lv_istore (lv' := [(5, .int (nI a_13)), (4, .int (nI a_4)), (0, .ref wt), (1, .int p0), (2, .int p1), (3, .int p2)]) hx hb dX6_split_14 hl (by decide) rfl (fun ls hl => ?_)
  refine lv_aload_n hx hb dX6_split_16 rfl (lv_at hl 2 rfl) ?_
  refine va_get (D := (dC, dI)) (ci := 6) (v := .ref wo) (C := RX6) (T := TX6) (N := 2) hx hb hts hiX6 hown hK hP 0 rfl rfl 0 (by decide) (hts (.fieldLink RX6 9 "MadeItSo$Weights" "ofCase" "[J") (by decide +kernel)) (fun _ h9 => h9) rfl dX6_split_17 ?_
  refine lv_iload hx hb dX6_split_20 (lv_at hl 0 rfl) ?_
  refine lv_aload_n hx hb dX6_split_22 rfl (lv_at hl 2 rfl) ?_
  refine va_get (D := (dC, dI)) (ci := 6) (v := .ref wo) (C := RX6) (T := TX6) (N := 2) hx hb hts hiX6 hown hK hP 0 rfl rfl 0 (by decide) (hts (.fieldLink RX6 9 "MadeItSo$Weights" "ofCase" "[J") (by decide +kernel)) (fun _ h9 => h9) rfl dX6_split_23 ?_
  refine lv_iload hx hb dX6_split_26 (lv_at hl 1 rfl) ?_
  refine va_lald hx hb hK hP 1 1 rfl rfl (vp_in_nI (by omega) (by omega)) dX6_split_28 ?_
  refine lv_topl (fun v_28 ev_28 => ?_)
  refine lv_iload_n hx hb dX6_split_29 rfl (lv_at hl 5 rfl) ?_
  refine lv_i2l hx hb dX6_split_30 rfl ?_
  refine lv_topl (fun v_30 ev_30 => ?_)
  refine lv_lmul hx hb dX6_split_31 ?_
  refine lv_topl (fun v_31 ev_31 => ?_)
  refine va_last hx hb hK hP hD hS 1 1 rfl rfl (vp_in_nI (by omega) (by omega)) dX6_split_32 (fun H locs hP hD hS => ?_)
  have hP : va_P (dC, dI) vwCl [(wt, .inr (6, [.ref wo, .int ev])), (wo, .inl (cJ, 256, .inr (.inl (vp_updL fw ((nI a_13) : Int32).toNatClampNeg v_31))))] H := hP
  have hD : va_D A [(wt, .inr (6, [.ref wo, .int ev])), (wo, .inl (cJ, 256, .inr (.inl (vp_updL fw ((nI a_13) : Int32).toNatClampNeg v_31))))] := hD
  generalize (vp_updL fw ((nI a_13) : Int32).toNatClampNeg v_31) = f_32 at hP hD
  refine lv_aload_n hx hb dX6_split_33 rfl (lv_at hl 2 rfl) ?_
  refine va_get (D := (dC, dI)) (ci := 6) (v := .ref wo) (C := RX6) (T := TX6) (N := 2) hx hb hts hiX6 hown hK hP 0 rfl rfl 0 (by decide) (hts (.fieldLink RX6 9 "MadeItSo$Weights" "ofCase" "[J") (by decide +kernel)) (fun _ h9 => h9) rfl dX6_split_34 ?_
  refine lv_iload hx hb dX6_split_37 (lv_at hl 1 rfl) ?_
  refine lv_dup2_11 hx hb dX6_split_39 rfl rfl ?_
  refine va_lald hx hb hK hP 1 1 rfl rfl (vp_in_nI (by omega) (by omega)) dX6_split_40 ?_
  refine lv_topl (fun v_40 ev_40 => ?_)
  refine lv_bipush (v := 100) hx hb dX6_split_41 (by decide +kernel) ?_
  refine lv_iload_n hx hb dX6_split_43 rfl (lv_at hl 5 rfl) ?_
  refine lv_isub hx hb dX6_split_44 ?_
  refine lv_topi (fun v_44 ev_44 => ?_)
  refine lv_i2l hx hb dX6_split_45 rfl ?_
  refine lv_topl (fun v_45 ev_45 => ?_)
  refine lv_lmul hx hb dX6_split_46 ?_
  refine lv_topl (fun v_46 ev_46 => ?_)
  refine va_last hx hb hK hP hD hS 1 1 rfl rfl (vp_in_nI (by omega) (by omega)) dX6_split_47 (fun H locs hP hD hS => ?_)
  have hP : va_P (dC, dI) vwCl [(wt, .inr (6, [.ref wo, .int ev])), (wo, .inl (cJ, 256, .inr (.inl (vp_updL f_32 ((nI a_4) : Int32).toNatClampNeg v_46))))] H := hP
  have hD : va_D A [(wt, .inr (6, [.ref wo, .int ev])), (wo, .inl (cJ, 256, .inr (.inl (vp_updL f_32 ((nI a_4) : Int32).toNatClampNeg v_46))))] := hD
  generalize (vp_updL f_32 ((nI a_4) : Int32).toNatClampNeg v_46) = f_47 at hP hD
  have hP9 := hP.sub (ws' := [(wt, .inr (6, [.ref wo, .int ev])), (wo, .inl (cJ, 256, .inr (.inl f_47)))]) [0, 1] rfl
  have hD9 := hD.sub (ws' := [(wt, .inr (6, [.ref wo, .int ev])), (wo, .inl (cJ, 256, .inr (.inl f_47)))]) [0, 1] (by decide) rfl
  refine W.widen (k := 0) (n := 0) (Nat.le_of_ble_eq_true rfl) (Nat.le_of_ble_eq_true rfl) ?_
  exact W.vret hx hb hr (fun t ht hW => ⟨⟨(), rfl, trivial, f_47, by rw [ht]; exact hP9, hD9⟩, hS.F ht⟩) hS.2.2 dX6_split_48
set_option maxHeartbeats 1000000 in
set_option maxRecDepth 100000 in
theorem mz_w_having (l : Launch) (dC : Nat → ClassId) (dI : Nat → Nat → Nat) (cI cJ cZ : ClassId) (wt : Nat) (wo : Nat) (ev : Int32) (fw : Nat → Int64) (p0 : Int32) (p1 : Int32) (Hq : Heap)  : Met l yX6_having wsX6_having ({ frames := 2, cells := 0, slots := 0, locals := 40 }) (va_Pc [.ref wt, .int p0, .int p1] (fun U => U.heap = Hq ∧ va_P (dC, dI) vwCl [(wt, .inr (6, [.ref wo, .int ev])), (wo, .inl (cJ, 256, .inr (.inl fw)))] Hq ∧ va_K (dC, dI) vwCl [(cI, FieldType.int), (cJ, FieldType.long), (cZ, FieldType.boolean)] U ∧ mz_N U)) (va_Ql (fun (r : Int64) (_ : Unit) => True) (fun _ t => t.heap = Hq) (fun _ : Nat => False)) 0 0 (fun _ : Nat => False) := by
  refine Met.ofW (cc := cX6_having) (maxL := 9) (ret := (some .long)) (by decide) rfl ?_
  intro p e s m args below meth c s₁ B hml hv
  obtain ⟨rfl, hH, hP, hK, hN⟩ := hv
  subst hH
  have hx := B.exec
  have hb := B.bytes
  have hr := B.returns
  have hts := atoms_spec (ws := wsX6_having) B.pre
  have hown : s.vm.findClass RX6 = some m.cls := findClass_of_methodNamed B.named
  have hlocks := B.notSynchronized
  have hS : va_S (fun _ : Nat => False) s.heap s.heap [] := va_S.rf
  have hiX6 : ∀ w ∈ u_ws RX6 TX6 2, w ∈ wsX6_having := by decide +kernel
  have hl := lv_entry ([.ref wt, .int p0, .int p1]) (n := 9) (Nat.le_of_ble_eq_true rfl)
  rw [lg_entry_eq]
  generalize (lg_sl ([.ref wt, .int p0, .int p1]) ++ List.replicate (9 - (lg_sl ([.ref wt, .int p0, .int p1])).length) Slot.unset).toArray = ls at hl ⊢
  have hl : lv_has ls 9 [(0, .ref wt), (1, .int p0), (2, .int p1)] := hl
  refine lv_aload_n hx hb dX6_having_0 rfl (lv_at hl 0 rfl) ?_
  refine va_get (D := (dC, dI)) (ci := 6) (v := .int ev) (C := RX6) (T := TX6) (N := 2) hx hb hts hiX6 hown hK hP 0 rfl rfl 1 (by decide) (hts (.fieldLink RX6 15 "MadeItSo$Weights" "everything" "I") (by decide +kernel)) (fun _ h9 => h9) rfl dX6_having_1 ?_
  refine lv_iload_n hx hb dX6_having_4 rfl (lv_at hl 1 rfl) ?_
  refine lv_iconst (v := (-1)) hx hb dX6_having_5 (by decide +kernel) ?_
  refine lv_ixor hx hb dX6_having_6 ?_
  refine lv_topi (fun v_6 ev_6 => ?_)
  refine lv_iand hx hb dX6_having_7 ?_
  refine lv_topi (fun v_7 ev_7 => ?_)
  refine lv_istore_n (lv' := [(3, .int v_7), (0, .ref wt), (1, .int p0), (2, .int p1)]) hx hb dX6_having_8 rfl hl (by decide) rfl (fun ls hl => ?_)
  refine lv_iload_n hx hb dX6_having_9 rfl (lv_at hl 0 rfl) ?_
  have hPc := hP.sub (ws' := []) [] rfl
  refine va_calli (va_runSN (As := [.int v_7]) (rest := []) ⟨hx, hb, hml, hown, hts⟩ (mz_g_partsOf l dC dI cI cJ cZ v_7 s.heap ) ⟨va_cnB (host := "MadeItSo") 1 hts gX6_having_X7_partsOf_n31 rfl rfl rfl (hN (RX6, 31, yX7_partsOf, "MadeItSo") (by decide +kernel)) (hts (.initialized RX7) (by decide +kernel)) (by decide +kernel) ⟨Nat.le_of_ble_eq_true rfl, Nat.le_of_ble_eq_true rfl⟩, hts (.static yX7_partsOf) (by decide +kernel), trivial⟩ ⟨fun a U g mk q => mz_blP q, fun U hU hW => ⟨rfl, hU, hPc, va_K.moved hW.alike hK, mz_nw hW hN⟩⟩ rfl rfl hl.1 rfl (lv_room (Nat.le_of_ble_eq_true rfl)) dX6_having_10 ⟨Nat.le_of_ble_eq_true rfl, Nat.le_of_ble_eq_true rfl⟩) hS (fun q _ h => h.elim) (fun q h => h.elim) (fun r_10 u t H1 locs ht hvm hw_10 hB hz1 hk1 hS => ?_)
  have hE : s.heap = H1 := hB.symm.trans ht
  subst hE
  refine lv_istore (lv' := [(4, .int r_10), (3, .int v_7), (0, .ref wt), (1, .int p0), (2, .int p1)]) hx hb dX6_having_13 hl (by decide) rfl (fun ls hl => ?_)
  refine lv_lconst (v := 0) hx hb dX6_having_15 (by decide +kernel) ?_
  refine lv_lstore (lv' := [(5, .long 0), (4, .int r_10), (3, .int v_7), (0, .ref wt), (1, .int p0), (2, .int p1)]) hx hb dX6_having_16 hl (by decide) rfl (fun ls hl => ?_)
  refine lv_iconst (v := 0) hx hb dX6_having_18 (by decide +kernel) ?_
  refine lv_istore (lv' := [(7, .int 0), (5, .long 0), (4, .int r_10), (3, .int v_7), (0, .ref wt), (1, .int p0), (2, .int p1)]) hx hb dX6_having_19 hl (by decide) rfl (fun ls hl => ?_)
  refine lv_iconst (v := 0) hx hb dX6_having_21 (by decide +kernel) ?_
  refine lv_istore (lv' := [(8, .int 0), (7, .int 0), (5, .long 0), (4, .int r_10), (3, .int v_7), (0, .ref wt), (1, .int p0), (2, .int p1)]) hx hb dX6_having_22 hl (by decide) rfl (fun ls hl => ?_)
  refine mz_loopU (fun k H locs ls => ∃ (x8_24 : Int32), ∃ (x7_24 : Int32), ∃ (x5_24 : Int64), H = s.heap ∧ va_S (fun _ : Nat => False) s.heap H locs ∧ lv_has ls 9 [(8, .int x8_24), (7, .int x7_24), (5, .long x5_24), (4, .int r_10), (3, .int v_7), (0, .ref wt), (1, .int p0), (2, .int p1)] ∧ k = ((r_10 : Int32).toInt - x7_24.toInt).toNat) ?_ _ _ _ _ ⟨0, 0, 0, rfl, hS, lv_sub hl [0, 1, 2, 3, 4, 5, 6, 7] rfl, rfl⟩
  intro k_24 H locs ls hI_24 ih_24
  obtain ⟨x8_24, x7_24, x5_24, hH_24, hS, hl, hk_24⟩ := hI_24
  subst hH_24
  refine lv_iload hx hb dX6_having_24 (lv_at hl 1 rfl) ?_
  refine lv_iload hx hb dX6_having_26 (lv_at hl 3 rfl) ?_
  refine lv_icmp_ge (tgt := 63) hx hb dX6_having_28 (by decide) (fun c_28 => ?_) (fun c_28 => ?_)
  · skip
    refine lv_lload hx hb dX6_having_63 (lv_at hl 2 rfl) ?_
    refine W.widen (k := 0) (n := 0) (Nat.le_of_ble_eq_true rfl) (Nat.le_of_ble_eq_true rfl) ?_
    exact W.lret (v := x5_24) hx hb hr (fun t ht hW => ⟨⟨x5_24, (), rfl, trivial, ht⟩, hS.F ht⟩) hS.2.2 dX6_having_65
  · skip
    refine lv_lload hx hb dX6_having_31 (lv_at hl 2 rfl) ?_
    refine lv_aload_n hx hb dX6_having_33 rfl (lv_at hl 5 rfl) ?_
    refine va_get (D := (dC, dI)) (ci := 6) (v := .ref wo) (C := RX6) (T := TX6) (N := 2) hx hb hts hiX6 hown hK hP 0 rfl rfl 0 (by decide) (hts (.fieldLink RX6 9 "MadeItSo$Weights" "ofCase" "[J") (by decide +kernel)) (fun _ h9 => h9) rfl dX6_having_34 ?_
    refine lv_iload_n hx hb dX6_having_37 rfl (lv_at hl 7 rfl) ?_
    refine lv_iload hx hb dX6_having_38 (lv_at hl 0 rfl) ?_
    refine lv_ior hx hb dX6_having_40 ?_
    refine lv_topi (fun v_40 ev_40 => ?_)
    refine lv_sipush (v := 255) hx hb dX6_having_41 (by decide +kernel) ?_
    refine lv_iand hx hb dX6_having_44 ?_
    obtain ⟨a_44, ha_44, ea_44⟩ := pk_andE (v_40) (m := 255) 8 (by decide)
    have ha_44 : a_44 < 256 := ha_44
    refine mz_ti (y := (nI a_44)) ea_44 ?_
    refine va_lald hx hb hK hP 1 1 rfl rfl (vp_in_nI (by omega) (by omega)) dX6_having_45 ?_
    refine lv_topl (fun v_45 ev_45 => ?_)
    refine lv_ladd hx hb dX6_having_46 ?_
    refine lv_topl (fun v_46 ev_46 => ?_)
    refine lv_lstore (lv' := [(5, .long v_46), (8, .int x8_24), (7, .int x7_24), (4, .int r_10), (3, .int v_7), (0, .ref wt), (1, .int p0), (2, .int p1)]) hx hb dX6_having_47 hl (by decide) rfl (fun ls hl => ?_)
    obtain ⟨v_49, ev_49⟩ : ∃ y : Int32, y = x7_24 + Int32.ofInt 1 := ⟨_, rfl⟩
    refine lv_iinc (v := v_49) (lv' := [(7, .int v_49), (5, .long v_46), (8, .int x8_24), (4, .int r_10), (3, .int v_7), (0, .ref wt), (1, .int p0), (2, .int p1)]) hx hb dX6_having_49 hl (k := 2) rfl ev_49.symm (by decide) rfl (fun ls hl => ?_)
    refine lv_iload hx hb dX6_having_52 (lv_at hl 2 rfl) ?_
    refine lv_iload_n hx hb dX6_having_54 rfl (lv_at hl 4 rfl) ?_
    have hPc := hP.sub (ws' := []) [] rfl
    refine va_calli (va_runSN (As := [.int x8_24, .int v_7]) (rest := []) ⟨hx, hb, hml, hown, hts⟩ (mz_g_nextPart l dC dI cI cJ cZ x8_24 v_7 s.heap ) ⟨va_cnB (host := "MadeItSo") 2 hts gX6_having_X7_nextPart_n47 rfl rfl rfl (hN (RX6, 47, yX7_nextPart, "MadeItSo") (by decide +kernel)) (hts (.initialized RX7) (by decide +kernel)) (by decide +kernel) ⟨Nat.le_of_ble_eq_true rfl, Nat.le_of_ble_eq_true rfl⟩, hts (.static yX7_nextPart) (by decide +kernel), trivial⟩ ⟨fun a U g mk q => mz_blP q, fun U hU hW => ⟨rfl, hU, hPc, va_K.moved hW.alike hK, mz_nw hW hN⟩⟩ rfl rfl hl.1 rfl (lv_room (Nat.le_of_ble_eq_true rfl)) dX6_having_55 ⟨Nat.le_of_ble_eq_true rfl, Nat.le_of_ble_eq_true rfl⟩) hS (fun q _ h => h.elim) (fun q h => h.elim) (fun r_55 u t H1 locs ht hvm hw_55 hB hz1 hk1 hS => ?_)
    have hE : s.heap = H1 := hB.symm.trans ht
    subst hE
    refine lv_istore (lv' := [(8, .int r_55), (7, .int v_49), (5, .long v_46), (4, .int r_10), (3, .int v_7), (0, .ref wt), (1, .int p0), (2, .int p1)]) hx hb dX6_having_58 hl (by decide) rfl (fun ls hl => ?_)
    refine lv_goto (tgt := 24) hx hb dX6_having_60 (by decide) ?_
    exact ih_24 _ (by rw [hk_24, ev_49]; exact mz_dec c_28) _ _ _ ⟨r_55, v_49, v_46, rfl, hS, lv_sub hl [0, 1, 2, 3, 4, 5, 6, 7] rfl, rfl⟩
set_option maxHeartbeats 1000000 in
set_option maxRecDepth 100000 in
theorem mz_w_weigh (l : Launch) (dC : Nat → ClassId) (dI : Nat → Nat → Nat) (cI cJ cZ : ClassId) (wt : Nat) (wo : Nat) (ev : Int32) (fw : Nat → Int64) (dr : Nat) (dp : Nat) (dc : Nat) (n : Nat) (fp : Nat → Int32) (bk : Nat) (bp : Nat) (fb : Nat → Int32) (p3 : Int32) (sz : Nat) (hn : n ≤ 8) : Met l yX6_weigh wsX6_weigh ({ frames := 3, cells := 0, slots := 0, locals := 69 }) (va_Pc [.ref wt, .ref dr, .ref bk, .int p3] (fun U => U.heap.size = sz ∧ va_P (dC, dI) vwCl [(wt, .inr (6, [.ref wo, .int ev])), (wo, .inl (cJ, 256, .inr (.inl fw))), (dr, .inr (2, [.ref dp, .ref dc, .int (nI n)])), (dp, .inl (cI, 8, .inl fp)), (bk, .inr (1, [.ref bp])), (bp, .inl (cI, 1024, .inl fb))] U.heap ∧ va_K (dC, dI) vwCl [(cI, FieldType.int), (cJ, FieldType.long), (cZ, FieldType.boolean)] U ∧ va_D (fun _ => True) [(wt, .inr (6, [.ref wo, .int ev])), (wo, .inl (cJ, 256, .inr (.inl fw))), (dr, .inr (2, [.ref dp, .ref dc, .int (nI n)])), (dp, .inl (cI, 8, .inl fp)), (bk, .inr (1, [.ref bp])), (bp, .inl (cI, 1024, .inl fb))] ∧ mz_N U)) (va_Qv (fun (_ : Unit) => True) (fun _ t => ∃ (gev : Int32), ∃ (gw : Nat → Int64), va_P (dC, dI) vwCl [(wt, .inr (6, [.ref wo, .int gev])), (wo, .inl (cJ, 256, .inr (.inl gw))), (dr, .inr (2, [.ref dp, .ref dc, .int (nI n)])), (dp, .inl (cI, 8, .inl fp)), (bk, .inr (1, [.ref bp])), (bp, .inl (cI, 1024, .inl fb))] t.heap ∧ va_D (va_A [(wt, .inr (6, [.ref wo, .int ev])), (wo, .inl (cJ, 256, .inr (.inl fw))), (dr, .inr (2, [.ref dp, .ref dc, .int (nI n)])), (dp, .inl (cI, 8, .inl fp)), (bk, .inr (1, [.ref bp])), (bp, .inl (cI, 1024, .inl fb))] sz) [(wt, .inr (6, [.ref wo, .int gev])), (wo, .inl (cJ, 256, .inr (.inl gw))), (dr, .inr (2, [.ref dp, .ref dc, .int (nI n)])), (dp, .inl (cI, 8, .inl fp)), (bk, .inr (1, [.ref bp])), (bp, .inl (cI, 1024, .inl fb))]) (va_A [(wt, .inr (6, [.ref wo, .int ev])), (wo, .inl (cJ, 256, .inr (.inl fw))), (dr, .inr (2, [.ref dp, .ref dc, .int (nI n)])), (dp, .inl (cI, 8, .inl fp)), (bk, .inr (1, [.ref bp])), (bp, .inl (cI, 1024, .inl fb))] sz)) 0 0 (va_A [(wt, .inr (6, [.ref wo, .int ev])), (wo, .inl (cJ, 256, .inr (.inl fw))), (dr, .inr (2, [.ref dp, .ref dc, .int (nI n)])), (dp, .inl (cI, 8, .inl fp)), (bk, .inr (1, [.ref bp])), (bp, .inl (cI, 1024, .inl fb))] sz) := by
  refine Met.ofW (cc := cX6_weigh) (maxL := 10) (ret := none) (by decide) rfl ?_
  intro p e s m args below meth c s₁ B hml hv
  obtain ⟨rfl, hsz, hP, hK, hD0, hN⟩ := hv
  subst hsz
  have hx := B.exec
  have hb := B.bytes
  have hr := B.returns
  have hts := atoms_spec (ws := wsX6_weigh) B.pre
  have hown : s.vm.findClass RX6 = some m.cls := findClass_of_methodNamed B.named
  have hlocks := B.notSynchronized
  have hD := hD0.self (sz := s.heap.size)
  generalize hAe : va_A [(wt, .inr (6, [.ref wo, .int ev])), (wo, .inl (cJ, 256, .inr (.inl fw))), (dr, .inr (2, [.ref dp, .ref dc, .int (nI n)])), (dp, .inl (cI, 8, .inl fp)), (bk, .inr (1, [.ref bp])), (bp, .inl (cI, 1024, .inl fb))] s.heap.size = A at hD ⊢
  have hA : ∀ q : Nat, s.heap.size ≤ q → A q := fun q h => by rw [← hAe]; exact Or.inr h
  have hS : va_S A s.heap s.heap [] := va_S.rf
  have hiX6 : ∀ w ∈ u_ws RX6 TX6 2, w ∈ wsX6_weigh := by decide +kernel
  have hl := lv_entry ([.ref wt, .ref dr, .ref bk, .int p3]) (n := 10) (Nat.le_of_ble_eq_true rfl)
  rw [lg_entry_eq]
  generalize (lg_sl ([.ref wt, .ref dr, .ref bk, .int p3]) ++ List.replicate (10 - (lg_sl ([.ref wt, .ref dr, .ref bk, .int p3])).length) Slot.unset).toArray = ls at hl ⊢
  have hl : lv_has ls 10 [(0, .ref wt), (1, .ref dr), (2, .ref bk), (3, .int p3)] := hl
  refine lv_aload_n hx hb dX6_weigh_0 rfl (lv_at hl 0 rfl) ?_
  refine lv_aload_n hx hb dX6_weigh_1 rfl (lv_at hl 1 rfl) ?_
  have hPc := hP.sub (ws' := [(dr, .inr (2, [.ref dp, .ref dc, .int (nI n)]))]) [2] rfl
  refine va_calli (va_runV (As := []) (rest := [.ref wt]) ⟨hx, hb, hml, hown, hts⟩ (mz_d_everything l dC dI cI cJ cZ dr dp dc n s.heap ) (cwV 0 hts gX6_weigh_X2_everything rfl rfl rfl (by decide +kernel) ⟨Nat.le_of_ble_eq_true rfl, Nat.le_of_ble_eq_true rfl⟩) ⟨fun a U g mk q => mz_blP q, va_recv hK hPc (ci := 2) (q0 := 0) rfl rfl, fun U hU hW => ⟨rfl, hU, hPc, va_K.moved hW.alike hK, mz_nw hW hN⟩⟩ rfl rfl hl.1 rfl (lv_room (Nat.le_of_ble_eq_true rfl)) dX6_weigh_2 ⟨Nat.le_of_ble_eq_true rfl, Nat.le_of_ble_eq_true rfl⟩) hS (fun q _ h => h.elim) (fun q h => h.elim) (fun r_2 u t H1 locs ht hvm hw_2 hB hz1 hk1 hS => ?_)
  have hE : s.heap = H1 := hB.symm.trans ht
  subst hE
  refine va_put (D := (dC, dI)) (ci := 6) (v := .int r_2) (ty := .int) (C := RX6) (T := TX6) (N := 2) hx hb hts hiX6 tyX6 tyX6_ok nmX6 hown hK hP hD hS 0 rfl rfl 1 (by decide) (hts (.fieldLink RX6 15 "MadeItSo$Weights" "everything" "I") (by decide +kernel)) (fun _ h9 => h9) rfl (by decide +kernel) rfl rfl (Nat.le_of_ble_eq_true rfl) dX6_weigh_5 (fun H locs hP hD hS => ?_)
  have hP : va_P (dC, dI) vwCl [(wt, .inr (6, [.ref wo, .int r_2])), (wo, .inl (cJ, 256, .inr (.inl fw))), (dr, .inr (2, [.ref dp, .ref dc, .int (nI n)])), (dp, .inl (cI, 8, .inl fp)), (bk, .inr (1, [.ref bp])), (bp, .inl (cI, 1024, .inl fb))] H := hP
  have hD : va_D A [(wt, .inr (6, [.ref wo, .int r_2])), (wo, .inl (cJ, 256, .inr (.inl fw))), (dr, .inr (2, [.ref dp, .ref dc, .int (nI n)])), (dp, .inl (cI, 8, .inl fp)), (bk, .inr (1, [.ref bp])), (bp, .inl (cI, 1024, .inl fb))] := hD
  refine lv_aload_n hx hb dX6_weigh_8 rfl (lv_at hl 0 rfl) ?_
  refine va_get (D := (dC, dI)) (ci := 6) (v := .ref wo) (C := RX6) (T := TX6) (N := 2) hx hb hts hiX6 hown hK hP 0 rfl rfl 0 (by decide) (hts (.fieldLink RX6 9 "MadeItSo$Weights" "ofCase" "[J") (by decide +kernel)) (fun _ h9 => h9) rfl dX6_weigh_9 ?_
  refine lv_iconst (v := 0) hx hb dX6_weigh_12 (by decide +kernel) ?_
  refine lv_lconst (v := 1) hx hb dX6_weigh_13 (by decide +kernel) ?_
  refine va_last hx hb hK hP hD hS 1 1 rfl rfl (mz_in (by decide +kernel)) dX6_weigh_14 (fun H locs hP hD hS => ?_)
  have hP : va_P (dC, dI) vwCl [(wt, .inr (6, [.ref wo, .int r_2])), (wo, .inl (cJ, 256, .inr (.inl (vp_updL fw (0 : Int32).toNatClampNeg 1)))), (dr, .inr (2, [.ref dp, .ref dc, .int (nI n)])), (dp, .inl (cI, 8, .inl fp)), (bk, .inr (1, [.ref bp])), (bp, .inl (cI, 1024, .inl fb))] H := hP
  have hD : va_D A [(wt, .inr (6, [.ref wo, .int r_2])), (wo, .inl (cJ, 256, .inr (.inl (vp_updL fw (0 : Int32).toNatClampNeg 1)))), (dr, .inr (2, [.ref dp, .ref dc, .int (nI n)])), (dp, .inl (cI, 8, .inl fp)), (bk, .inr (1, [.ref bp])), (bp, .inl (cI, 1024, .inl fb))] := hD
  generalize (vp_updL fw (0 : Int32).toNatClampNeg 1) = f_14 at hP hD
  refine lv_iconst (v := 0) hx hb dX6_weigh_15 (by decide +kernel) ?_
  refine lv_istore (lv' := [(4, .int 0), (0, .ref wt), (1, .ref dr), (2, .ref bk), (3, .int p3)]) hx hb dX6_weigh_16 hl (by decide) rfl (fun ls hl => ?_)
  refine lv_iconst (v := 0) hx hb dX6_weigh_18 (by decide +kernel) ?_
  refine lv_istore (lv' := [(5, .int 0), (4, .int 0), (0, .ref wt), (1, .ref dr), (2, .ref bk), (3, .int p3)]) hx hb dX6_weigh_19 hl (by decide) rfl (fun ls hl => ?_)
  refine mz_loopU (fun k H locs ls => ∃ (i_21 : Nat), ∃ (x4_21 : Int32), ∃ (fwo_21 : Nat → Int64), i_21 ≤ n ∧ va_P (dC, dI) vwCl [(wt, .inr (6, [.ref wo, .int r_2])), (wo, .inl (cJ, 256, .inr (.inl fwo_21))), (dr, .inr (2, [.ref dp, .ref dc, .int (nI n)])), (dp, .inl (cI, 8, .inl fp)), (bk, .inr (1, [.ref bp])), (bp, .inl (cI, 1024, .inl fb))] H ∧ va_D A [(wt, .inr (6, [.ref wo, .int r_2])), (wo, .inl (cJ, 256, .inr (.inl fwo_21))), (dr, .inr (2, [.ref dp, .ref dc, .int (nI n)])), (dp, .inl (cI, 8, .inl fp)), (bk, .inr (1, [.ref bp])), (bp, .inl (cI, 1024, .inl fb))] ∧ va_S A s.heap H locs ∧ lv_has ls 10 [(5, .int (nI i_21)), (4, .int x4_21), (0, .ref wt), (1, .ref dr), (2, .ref bk), (3, .int p3)] ∧ k = n - i_21) ?_ _ _ _ _ ⟨0, 0, f_14, by omega, hP, hD, hS, lv_sub hl [0, 1, 2, 3, 4, 5] rfl, rfl⟩
  intro k_21 H locs ls hI_21 ih_21
  obtain ⟨i_21, x4_21, fwo_21, hi_21, hP, hD, hS, hl, hk_21⟩ := hI_21
  refine lv_iload hx hb dX6_weigh_21 (lv_at hl 0 rfl) ?_
  refine lv_aload_n hx hb dX6_weigh_23 rfl (lv_at hl 3 rfl) ?_
  have hPc := hP.sub (ws' := [(dr, .inr (2, [.ref dp, .ref dc, .int (nI n)]))]) [2] rfl
  refine va_calli (va_runV (As := []) (rest := [.int (nI i_21)]) ⟨hx, hb, hml, hown, hts⟩ (mz_d_size l dC dI cI cJ cZ dr dp dc n H ) (cwV 0 hts gX6_weigh_X2_size rfl rfl rfl (by decide +kernel) ⟨Nat.le_of_ble_eq_true rfl, Nat.le_of_ble_eq_true rfl⟩) ⟨fun a U g mk q => mz_blP q, va_recv hK hPc (ci := 2) (q0 := 0) rfl rfl, fun U hU hW => ⟨rfl, hU, hPc, va_K.moved hW.alike hK, mz_nw hW hN⟩⟩ rfl rfl hl.1 rfl (lv_room (Nat.le_of_ble_eq_true rfl)) dX6_weigh_24 ⟨Nat.le_of_ble_eq_true rfl, Nat.le_of_ble_eq_true rfl⟩) hS (fun q _ h => h.elim) (fun q h => h.elim) (fun r_24 u t H1 locs ht hvm hw_24 hB hz1 hk1 hS => ?_)
  have hE : H = H1 := hB.symm.trans ht
  subst hE
  obtain rfl : r_24 = (nI n) := hw_24
  refine lv_icmp_ge (tgt := 119) hx hb dX6_weigh_27 (by decide) (fun c_27 => ?_) (fun c_27 => ?_)
  · skip
    have d_27 : n ≤ i_21 := (nI_leI (a := n) (b := i_21) (by omega) (by omega)).mp c_27
    have hP9 := hP.sub (ws' := [(wt, .inr (6, [.ref wo, .int r_2])), (wo, .inl (cJ, 256, .inr (.inl fwo_21))), (dr, .inr (2, [.ref dp, .ref dc, .int (nI n)])), (dp, .inl (cI, 8, .inl fp)), (bk, .inr (1, [.ref bp])), (bp, .inl (cI, 1024, .inl fb))]) [0, 1, 2, 3, 4, 5] rfl
    have hD9 := hD.sub (ws' := [(wt, .inr (6, [.ref wo, .int r_2])), (wo, .inl (cJ, 256, .inr (.inl fwo_21))), (dr, .inr (2, [.ref dp, .ref dc, .int (nI n)])), (dp, .inl (cI, 8, .inl fp)), (bk, .inr (1, [.ref bp])), (bp, .inl (cI, 1024, .inl fb))]) [0, 1, 2, 3, 4, 5] (by decide) rfl
    refine W.widen (k := 0) (n := 0) (Nat.le_of_ble_eq_true rfl) (Nat.le_of_ble_eq_true rfl) ?_
    exact W.vret hx hb hr (fun t ht hW => ⟨⟨(), rfl, trivial, r_2, fwo_21, by rw [ht]; exact hP9, hD9⟩, hS.F ht⟩) hS.2.2 dX6_weigh_119
  · skip
    have d_27 : ¬ n ≤ i_21 := fun h => c_27 ((nI_leI (a := n) (b := i_21) (by omega) (by omega)).mpr h)
    refine lv_aload_n hx hb dX6_weigh_30 rfl (lv_at hl 3 rfl) ?_
    refine lv_iload hx hb dX6_weigh_31 (lv_at hl 1 rfl) ?_
    have hPc := hP.sub (ws' := [(dr, .inr (2, [.ref dp, .ref dc, .int (nI n)])), (dp, .inl (cI, 8, .inl fp))]) [2, 3] rfl
    refine va_calli (va_runV (As := [.int x4_21]) (rest := []) ⟨hx, hb, hml, hown, hts⟩ (mz_d_nextAfter l dC dI cI cJ cZ dr dp dc n fp x4_21 H (by first | assumption | omega)) (cwV 1 hts gX6_weigh_X2_nextAfter rfl rfl rfl (by decide +kernel) ⟨Nat.le_of_ble_eq_true rfl, Nat.le_of_ble_eq_true rfl⟩) ⟨fun a U g mk q => mz_blP q, va_recv hK hPc (ci := 2) (q0 := 0) rfl rfl, fun U hU hW => ⟨rfl, hU, hPc, va_K.moved hW.alike hK, mz_nw hW hN⟩⟩ rfl rfl hl.1 rfl (lv_room (Nat.le_of_ble_eq_true rfl)) dX6_weigh_33 ⟨Nat.le_of_ble_eq_true rfl, Nat.le_of_ble_eq_true rfl⟩) hS (fun q _ h => h.elim) (fun q h => h.elim) (fun r_33 u t H1 locs ht hvm hw_33 hB hz1 hk1 hS => ?_)
    have hE : H = H1 := hB.symm.trans ht
    subst hE
    refine lv_istore (lv' := [(6, .int r_33), (5, .int (nI i_21)), (4, .int x4_21), (0, .ref wt), (1, .ref dr), (2, .ref bk), (3, .int p3)]) hx hb dX6_weigh_36 hl (by decide) rfl (fun ls hl => ?_)
    refine lv_iload hx hb dX6_weigh_38 (lv_at hl 0 rfl) ?_
    refine lv_iconst (v := (-1)) hx hb dX6_weigh_40 (by decide +kernel) ?_
    refine lv_icmp_ne (tgt := 47) hx hb dX6_weigh_41 (by decide) (fun c_41 => ?_) (fun c_41 => ?_)
    · skip
      refine lv_iload hx hb dX6_weigh_47 (lv_at hl 2 rfl) ?_
      have hPc := hP.sub (ws' := []) [] rfl
      refine va_calli (va_runSN (As := [.int x4_21]) (rest := []) ⟨hx, hb, hml, hown, hts⟩ (mz_g_partsOf l dC dI cI cJ cZ x4_21 H ) ⟨va_cnB (host := "MadeItSo") 1 hts gX6_weigh_X7_partsOf_n31 rfl rfl rfl (hN (RX6, 31, yX7_partsOf, "MadeItSo") (by decide +kernel)) (hts (.initialized RX7) (by decide +kernel)) (by decide +kernel) ⟨Nat.le_of_ble_eq_true rfl, Nat.le_of_ble_eq_true rfl⟩, hts (.static yX7_partsOf) (by decide +kernel), trivial⟩ ⟨fun a U g mk q => mz_blP q, fun U hU hW => ⟨rfl, hU, hPc, va_K.moved hW.alike hK, mz_nw hW hN⟩⟩ rfl rfl hl.1 rfl (lv_room (Nat.le_of_ble_eq_true rfl)) dX6_weigh_49 ⟨Nat.le_of_ble_eq_true rfl, Nat.le_of_ble_eq_true rfl⟩) hS (fun q _ h => h.elim) (fun q h => h.elim) (fun r_49 u t H1 locs ht hvm hw_49 hB hz1 hk1 hS => ?_)
      have hE : H = H1 := hB.symm.trans ht
      subst hE
      refine lv_istore (lv' := [(7, .int r_49), (6, .int r_33), (5, .int (nI i_21)), (4, .int x4_21), (0, .ref wt), (1, .ref dr), (2, .ref bk), (3, .int p3)]) hx hb dX6_weigh_52 hl (by decide) rfl (fun ls hl => ?_)
      refine lv_iconst (v := 0) hx hb dX6_weigh_54 (by decide +kernel) ?_
      refine lv_istore (lv' := [(8, .int 0), (7, .int r_49), (6, .int r_33), (5, .int (nI i_21)), (4, .int x4_21), (0, .ref wt), (1, .ref dr), (2, .ref bk), (3, .int p3)]) hx hb dX6_weigh_55 hl (by decide) rfl (fun ls hl => ?_)
      refine lv_iconst (v := 0) hx hb dX6_weigh_57 (by decide +kernel) ?_
      refine lv_istore (lv' := [(9, .int 0), (8, .int 0), (7, .int r_49), (6, .int r_33), (5, .int (nI i_21)), (4, .int x4_21), (0, .ref wt), (1, .ref dr), (2, .ref bk), (3, .int p3)]) hx hb dX6_weigh_58 hl (by decide) rfl (fun ls hl => ?_)
      refine mz_loopU (fun k H locs ls => ∃ (x9_60 : Int32), ∃ (x8_60 : Int32), ∃ (fwo_60 : Nat → Int64), va_P (dC, dI) vwCl [(wt, .inr (6, [.ref wo, .int r_2])), (wo, .inl (cJ, 256, .inr (.inl fwo_60))), (dr, .inr (2, [.ref dp, .ref dc, .int (nI n)])), (dp, .inl (cI, 8, .inl fp)), (bk, .inr (1, [.ref bp])), (bp, .inl (cI, 1024, .inl fb))] H ∧ va_D A [(wt, .inr (6, [.ref wo, .int r_2])), (wo, .inl (cJ, 256, .inr (.inl fwo_60))), (dr, .inr (2, [.ref dp, .ref dc, .int (nI n)])), (dp, .inl (cI, 8, .inl fp)), (bk, .inr (1, [.ref bp])), (bp, .inl (cI, 1024, .inl fb))] ∧ va_S A s.heap H locs ∧ lv_has ls 10 [(9, .int x9_60), (8, .int x8_60), (7, .int r_49), (6, .int r_33), (5, .int (nI i_21)), (4, .int x4_21), (0, .ref wt), (1, .ref dr), (2, .ref bk), (3, .int p3)] ∧ k = ((r_49 : Int32).toInt - x8_60.toInt).toNat) ?_ _ _ _ _ ⟨0, 0, fwo_21, hP, hD, hS, lv_sub hl [0, 1, 2, 3, 4, 5, 6, 7, 8, 9] rfl, rfl⟩
      intro k_60 H locs ls hI_60 ih_60
      obtain ⟨x9_60, x8_60, fwo_60, hP, hD, hS, hl, hk_60⟩ := hI_60
      refine lv_iload hx hb dX6_weigh_60 (lv_at hl 1 rfl) ?_
      refine lv_iload hx hb dX6_weigh_62 (lv_at hl 2 rfl) ?_
      refine lv_icmp_ge (tgt := 103) hx hb dX6_weigh_64 (by decide) (fun c_64 => ?_) (fun c_64 => ?_)
      · skip
        refine lv_iload hx hb dX6_weigh_103 (lv_at hl 5 rfl) ?_
        refine lv_iload hx hb dX6_weigh_105 (lv_at hl 3 rfl) ?_
        have hPc := hP.sub (ws' := []) [] rfl
        refine va_calli (va_runSN (As := [.int r_33]) (rest := [.int x4_21]) ⟨hx, hb, hml, hown, hts⟩ (mz_g_bit l dC dI cI cJ cZ r_33 H ) ⟨va_cnB (host := "MadeItSo") 1 hts gX6_weigh_X7_bit_n34 rfl rfl rfl (hN (RX6, 34, yX7_bit, "MadeItSo") (by decide +kernel)) (hts (.initialized RX7) (by decide +kernel)) (by decide +kernel) ⟨Nat.le_of_ble_eq_true rfl, Nat.le_of_ble_eq_true rfl⟩, hts (.static yX7_bit) (by decide +kernel), trivial⟩ ⟨fun a U g mk q => mz_blP q, fun U hU hW => ⟨rfl, hU, hPc, va_K.moved hW.alike hK, mz_nw hW hN⟩⟩ rfl rfl hl.1 rfl (lv_room (Nat.le_of_ble_eq_true rfl)) dX6_weigh_107 ⟨Nat.le_of_ble_eq_true rfl, Nat.le_of_ble_eq_true rfl⟩) hS (fun q _ h => h.elim) (fun q h => h.elim) (fun r_107 u t H1 locs ht hvm hw_107 hB hz1 hk1 hS => ?_)
        have hE : H = H1 := hB.symm.trans ht
        subst hE
        obtain rfl : r_107 = (1 <<< (r_33 &&& 31)) := hw_107
        refine lv_ior hx hb dX6_weigh_110 ?_
        refine lv_topi (fun v_110 ev_110 => ?_)
        refine lv_istore (lv' := [(4, .int v_110), (9, .int x9_60), (8, .int x8_60), (7, .int r_49), (6, .int r_33), (5, .int (nI i_21)), (0, .ref wt), (1, .ref dr), (2, .ref bk), (3, .int p3)]) hx hb dX6_weigh_111 hl (by decide) rfl (fun ls hl => ?_)
        refine lv_iinc (v := (nI (i_21 + 1))) (lv' := [(5, .int (nI (i_21 + 1))), (4, .int v_110), (9, .int x9_60), (8, .int x8_60), (7, .int r_49), (6, .int r_33), (0, .ref wt), (1, .ref dr), (2, .ref bk), (3, .int p3)]) hx hb dX6_weigh_113 hl (k := 5) rfl (nI_1 _) (by decide) rfl (fun ls hl => ?_)
        refine lv_goto (tgt := 21) hx hb dX6_weigh_116 (by decide) ?_
        exact ih_21 _ (by omega) _ _ _ ⟨(i_21 + 1), v_110, fwo_60, by omega, hP, hD, hS, lv_sub hl [0, 1, 6, 7, 8, 9] rfl, rfl⟩
      · skip
        refine lv_aload_n hx hb dX6_weigh_67 rfl (lv_at hl 6 rfl) ?_
        refine lv_iload hx hb dX6_weigh_68 (lv_at hl 0 rfl) ?_
        refine lv_iload hx hb dX6_weigh_70 (lv_at hl 3 rfl) ?_
        have hPc := hP.sub (ws' := []) [] rfl
        refine va_calli (va_runSN (As := [.int r_33]) (rest := [.int x9_60, .ref wt]) ⟨hx, hb, hml, hown, hts⟩ (mz_g_bit l dC dI cI cJ cZ r_33 H ) ⟨va_cnB (host := "MadeItSo") 1 hts gX6_weigh_X7_bit_n34 rfl rfl rfl (hN (RX6, 34, yX7_bit, "MadeItSo") (by decide +kernel)) (hts (.initialized RX7) (by decide +kernel)) (by decide +kernel) ⟨Nat.le_of_ble_eq_true rfl, Nat.le_of_ble_eq_true rfl⟩, hts (.static yX7_bit) (by decide +kernel), trivial⟩ ⟨fun a U g mk q => mz_blP q, fun U hU hW => ⟨rfl, hU, hPc, va_K.moved hW.alike hK, mz_nw hW hN⟩⟩ rfl rfl hl.1 rfl (lv_room (Nat.le_of_ble_eq_true rfl)) dX6_weigh_72 ⟨Nat.le_of_ble_eq_true rfl, Nat.le_of_ble_eq_true rfl⟩) hS (fun q _ h => h.elim) (fun q h => h.elim) (fun r_72 u t H1 locs ht hvm hw_72 hB hz1 hk1 hS => ?_)
        have hE : H = H1 := hB.symm.trans ht
        subst hE
        obtain rfl : r_72 = (1 <<< (r_33 &&& 31)) := hw_72
        refine lv_aload_n hx hb dX6_weigh_75 rfl (lv_at hl 8 rfl) ?_
        refine lv_aload_n hx hb dX6_weigh_76 rfl (lv_at hl 7 rfl) ?_
        refine lv_iload hx hb dX6_weigh_77 (lv_at hl 3 rfl) ?_
        refine lv_iload hx hb dX6_weigh_79 (lv_at hl 0 rfl) ?_
        refine lv_iload_n hx hb dX6_weigh_81 rfl (lv_at hl 9 rfl) ?_
        have hPc := hP.sub (ws' := [(bk, .inr (1, [.ref bp])), (bp, .inl (cI, 1024, .inl fb)), (dr, .inr (2, [.ref dp, .ref dc, .int (nI n)])), (dp, .inl (cI, 8, .inl fp))]) [4, 5, 2, 3] rfl
        refine va_calli (va_runV (As := [.ref dr, .int r_33, .int x9_60, .int p3]) (rest := [.int (1 <<< (r_33 &&& 31)), .int x9_60, .ref wt]) ⟨hx, hb, hml, hown, hts⟩ (mz_b_partsUnder l dC dI cI cJ cZ bk bp fb dr dp dc n fp r_33 x9_60 p3 H (by first | assumption | omega)) (cwV 4 hts gX6_weigh_X1_partsUnder rfl rfl rfl (by decide +kernel) ⟨Nat.le_of_ble_eq_true rfl, Nat.le_of_ble_eq_true rfl⟩) ⟨fun a U g mk q => mz_blP q, va_recv hK hPc (ci := 1) (q0 := 0) rfl rfl, fun U hU hW => ⟨rfl, hU, hPc, va_K.moved hW.alike hK, mz_nw hW hN⟩⟩ rfl rfl hl.1 rfl (lv_room (Nat.le_of_ble_eq_true rfl)) dX6_weigh_82 ⟨Nat.le_of_ble_eq_true rfl, Nat.le_of_ble_eq_true rfl⟩) hS (fun q _ h => h.elim) (fun q h => h.elim) (fun r_82 u t H1 locs ht hvm hw_82 hB hz1 hk1 hS => ?_)
        have hE : H = H1 := hB.symm.trans ht
        subst hE
        have hPc := hP.sub (ws' := [(wt, .inr (6, [.ref wo, .int r_2])), (wo, .inl (cJ, 256, .inr (.inl fwo_60)))]) [0, 1] rfl
        have hDc := hD.sub (ws' := [(wt, .inr (6, [.ref wo, .int r_2])), (wo, .inl (cJ, 256, .inr (.inl fwo_60)))]) [0, 1] (by decide) rfl
        have hFc := va_free (wc := [(wt, .inr (6, [.ref wo, .int r_2])), (wo, .inl (cJ, 256, .inr (.inl fwo_60)))]) hD hS hA [0, 1] rfl
        refine va_callv (va_runV (As := [.int x9_60, .int (1 <<< (r_33 &&& 31)), .int r_82]) (rest := []) ⟨hx, hb, hml, hown, hts⟩ (mz_w_split l dC dI cI cJ cZ wt wo r_2 fwo_60 x9_60 (1 <<< (r_33 &&& 31)) r_82 H.size ) (cwV 3 hts gX6_weigh_X6_split rfl rfl rfl (by decide +kernel) ⟨Nat.le_of_ble_eq_true rfl, Nat.le_of_ble_eq_true rfl⟩) ⟨fun a U g mk q => mz_blI q, va_recv hK hPc (ci := 6) (q0 := 0) rfl rfl, fun U hU hW => ⟨rfl, by rw [hU], by rw [hU]; exact hPc, va_K.moved hW.alike hK, hDc.weaken (fun _ _ _ _ => trivial), mz_nw hW hN⟩⟩ rfl rfl hl.1 rfl (lv_room (Nat.le_of_ble_eq_true rfl)) dX6_weigh_85 ⟨Nat.le_of_ble_eq_true rfl, Nat.le_of_ble_eq_true rfl⟩) hS (fun q _ h => hFc q h) hFc (fun u t H1 locs ht hvm hw_85 hB hz1 hk1 hS => ?_)
        obtain ⟨gw_85, hP1, hD1⟩ := hB
        rw [ht] at hP1
        obtain ⟨hP, hD⟩ := va_join (wr := [(dr, .inr (2, [.ref dp, .ref dc, .int (nI n)])), (dp, .inl (cI, 8, .inl fp)), (bk, .inr (1, [.ref bp])), (bp, .inl (cI, 1024, .inl fb))]) (w1 := [(wt, .inr (6, [.ref wo, .int r_2])), (wo, .inl (cJ, 256, .inr (.inl gw_85)))]) hP hD [0, 1] [2, 3, 4, 5] rfl rfl (by decide) (by decide) hk1 hFc hP1 hD1
        generalize H1 = H at hP hS ⊢
        have hP : va_P (dC, dI) vwCl [(dr, .inr (2, [.ref dp, .ref dc, .int (nI n)])), (dp, .inl (cI, 8, .inl fp)), (bk, .inr (1, [.ref bp])), (bp, .inl (cI, 1024, .inl fb)), (wt, .inr (6, [.ref wo, .int r_2])), (wo, .inl (cJ, 256, .inr (.inl gw_85)))] H := hP
        have hD : va_D A [(dr, .inr (2, [.ref dp, .ref dc, .int (nI n)])), (dp, .inl (cI, 8, .inl fp)), (bk, .inr (1, [.ref bp])), (bp, .inl (cI, 1024, .inl fb)), (wt, .inr (6, [.ref wo, .int r_2])), (wo, .inl (cJ, 256, .inr (.inl gw_85)))] := hD
        obtain ⟨v_88, ev_88⟩ : ∃ y : Int32, y = x8_60 + Int32.ofInt 1 := ⟨_, rfl⟩
        refine lv_iinc (v := v_88) (lv' := [(8, .int v_88), (9, .int x9_60), (7, .int r_49), (6, .int r_33), (5, .int (nI i_21)), (4, .int x4_21), (0, .ref wt), (1, .ref dr), (2, .ref bk), (3, .int p3)]) hx hb dX6_weigh_88 hl (k := 1) rfl ev_88.symm (by decide) rfl (fun ls hl => ?_)
        refine lv_iload hx hb dX6_weigh_91 (lv_at hl 1 rfl) ?_
        refine lv_iload hx hb dX6_weigh_93 (lv_at hl 5 rfl) ?_
        have hPc := hP.sub (ws' := []) [] rfl
        refine va_calli (va_runSN (As := [.int x9_60, .int x4_21]) (rest := []) ⟨hx, hb, hml, hown, hts⟩ (mz_g_nextPart l dC dI cI cJ cZ x9_60 x4_21 H ) ⟨va_cnB (host := "MadeItSo") 2 hts gX6_weigh_X7_nextPart_n47 rfl rfl rfl (hN (RX6, 47, yX7_nextPart, "MadeItSo") (by decide +kernel)) (hts (.initialized RX7) (by decide +kernel)) (by decide +kernel) ⟨Nat.le_of_ble_eq_true rfl, Nat.le_of_ble_eq_true rfl⟩, hts (.static yX7_nextPart) (by decide +kernel), trivial⟩ ⟨fun a U g mk q => mz_blP q, fun U hU hW => ⟨rfl, hU, hPc, va_K.moved hW.alike hK, mz_nw hW hN⟩⟩ rfl rfl hl.1 rfl (lv_room (Nat.le_of_ble_eq_true rfl)) dX6_weigh_95 ⟨Nat.le_of_ble_eq_true rfl, Nat.le_of_ble_eq_true rfl⟩) hS (fun q _ h => h.elim) (fun q h => h.elim) (fun r_95 u t H1 locs ht hvm hw_95 hB hz1 hk1 hS => ?_)
        have hE : H = H1 := hB.symm.trans ht
        subst hE
        refine lv_istore (lv' := [(9, .int r_95), (8, .int v_88), (7, .int r_49), (6, .int r_33), (5, .int (nI i_21)), (4, .int x4_21), (0, .ref wt), (1, .ref dr), (2, .ref bk), (3, .int p3)]) hx hb dX6_weigh_98 hl (by decide) rfl (fun ls hl => ?_)
        refine lv_goto (tgt := 60) hx hb dX6_weigh_100 (by decide) ?_
        exact ih_60 _ (by rw [hk_60, ev_88]; exact mz_dec c_64) _ _ _ ⟨r_95, v_88, gw_85, hP.sub [4, 5, 0, 1, 2, 3] rfl, hD.sub [4, 5, 0, 1, 2, 3] (by decide) rfl, hS, lv_sub hl [0, 1, 2, 3, 4, 5, 6, 7, 8, 9] rfl, rfl⟩
    · skip
      refine lv_goto (tgt := 119) hx hb dX6_weigh_44 (by decide) ?_
      have hP9 := hP.sub (ws' := [(wt, .inr (6, [.ref wo, .int r_2])), (wo, .inl (cJ, 256, .inr (.inl fwo_21))), (dr, .inr (2, [.ref dp, .ref dc, .int (nI n)])), (dp, .inl (cI, 8, .inl fp)), (bk, .inr (1, [.ref bp])), (bp, .inl (cI, 1024, .inl fb))]) [0, 1, 2, 3, 4, 5] rfl
      have hD9 := hD.sub (ws' := [(wt, .inr (6, [.ref wo, .int r_2])), (wo, .inl (cJ, 256, .inr (.inl fwo_21))), (dr, .inr (2, [.ref dp, .ref dc, .int (nI n)])), (dp, .inl (cI, 8, .inl fp)), (bk, .inr (1, [.ref bp])), (bp, .inl (cI, 1024, .inl fb))]) [0, 1, 2, 3, 4, 5] (by decide) rfl
      refine W.widen (k := 0) (n := 0) (Nat.le_of_ble_eq_true rfl) (Nat.le_of_ble_eq_true rfl) ?_
      exact W.vret hx hb hr (fun t ht hW => ⟨⟨(), rfl, trivial, r_2, fwo_21, by rw [ht]; exact hP9, hD9⟩, hS.F ht⟩) hS.2.2 dX6_weigh_119
set_option maxHeartbeats 1000000 in
set_option maxRecDepth 100000 in
theorem mz_l_holdsOne (l : Launch) (dC : Nat → ClassId) (dI : Nat → Nat → Nat) (cI cJ cZ : ClassId) (lh : Nat) (hf : Nat) (lk : Nat) (ff : Nat → Int32) (p0 : Int32) (Hq : Heap) (hk : lk ≤ 64) : Met l yX3_holdsOne wsX3_holdsOne ({ frames := 0, cells := 0, slots := 0, locals := 0 }) (va_Pc [.ref lh, .int p0] (fun U => U.heap = Hq ∧ va_P (dC, dI) vwCl [(lh, .inr (3, [.ref hf, .int (nI lk)])), (hf, .inl (cI, 64, .inl ff))] Hq ∧ va_K (dC, dI) vwCl [(cI, FieldType.int), (cJ, FieldType.long), (cZ, FieldType.boolean)] U ∧ mz_N U)) (va_Qi (fun (r : Int32) (_ : Unit) => r = 0 ∨ r = 1) (fun _ t => t.heap = Hq) (fun _ : Nat => False)) 0 0 (fun _ : Nat => False) := by
  refine Met.ofW (cc := cX3_holdsOne) (maxL := 3) (ret := (some .boolean)) (by decide) rfl ?_
  intro p e s m args below meth c s₁ B hml hv
  obtain ⟨rfl, hH, hP, hK, hN⟩ := hv
  subst hH
  have hx := B.exec
  have hb := B.bytes
  have hr := B.returns
  have hts := atoms_spec (ws := wsX3_holdsOne) B.pre
  have hown : s.vm.findClass RX3 = some m.cls := findClass_of_methodNamed B.named
  have hlocks := B.notSynchronized
  have hS : va_S (fun _ : Nat => False) s.heap s.heap [] := va_S.rf
  have hiX3 : ∀ w ∈ u_ws RX3 TX3 2, w ∈ wsX3_holdsOne := by decide +kernel
  have hl := lv_entry ([.ref lh, .int p0]) (n := 3) (Nat.le_of_ble_eq_true rfl)
  rw [lg_entry_eq]
  generalize (lg_sl ([.ref lh, .int p0]) ++ List.replicate (3 - (lg_sl ([.ref lh, .int p0])).length) Slot.unset).toArray = ls at hl ⊢
  have hl : lv_has ls 3 [(0, .ref lh), (1, .int p0)] := hl
  refine lv_iconst (v := 0) hx hb dX3_holdsOne_0 (by decide +kernel) ?_
  refine lv_istore_n (lv' := [(2, .int 0), (0, .ref lh), (1, .int p0)]) hx hb dX3_holdsOne_1 rfl hl (by decide) rfl (fun ls hl => ?_)
  refine mz_loopU (fun k H locs ls => ∃ (i_2 : Nat), i_2 ≤ lk ∧ H = s.heap ∧ va_S (fun _ : Nat => False) s.heap H locs ∧ lv_has ls 3 [(2, .int (nI i_2)), (0, .ref lh), (1, .int p0)] ∧ k = lk - i_2) ?_ _ _ _ _ ⟨0, by omega, rfl, hS, lv_sub hl [0, 1, 2] rfl, rfl⟩
  intro k_2 H locs ls hI_2 ih_2
  obtain ⟨i_2, hi_2, hH_2, hS, hl, hk_2⟩ := hI_2
  subst hH_2
  refine lv_iload_n hx hb dX3_holdsOne_2 rfl (lv_at hl 0 rfl) ?_
  refine lv_aload_n hx hb dX3_holdsOne_3 rfl (lv_at hl 1 rfl) ?_
  refine va_get (D := (dC, dI)) (ci := 3) (v := .int (nI lk)) (C := RX3) (T := TX3) (N := 2) hx hb hts hiX3 hown hK hP 0 rfl rfl 1 (by decide) (hts (.fieldLink RX3 15 "MadeItSo$LeastHeaps" "many" "I") (by decide +kernel)) (fun _ h9 => h9) rfl dX3_holdsOne_4 ?_
  refine lv_icmp_ge (tgt := 40) hx hb dX3_holdsOne_7 (by decide) (fun c_7 => ?_) (fun c_7 => ?_)
  · skip
    have d_7 : lk ≤ i_2 := (nI_leI (a := lk) (b := i_2) (by omega) (by omega)).mp c_7
    refine lv_iconst (v := 0) hx hb dX3_holdsOne_40 (by decide +kernel) ?_
    refine W.widen (k := 0) (n := 0) (Nat.le_of_ble_eq_true rfl) (Nat.le_of_ble_eq_true rfl) ?_
    exact W.zret (v := 0) hx hb hr (mz_nz (by decide +kernel)) (fun t ht hW => ⟨⟨0, (), rfl, Or.inl rfl, ht⟩, hS.F ht⟩) hS.2.2 dX3_holdsOne_41
  · skip
    have d_7 : ¬ lk ≤ i_2 := fun h => c_7 ((nI_leI (a := lk) (b := i_2) (by omega) (by omega)).mpr h)
    refine lv_iload_n hx hb dX3_holdsOne_10 rfl (lv_at hl 0 rfl) ?_
    refine lv_aload_n hx hb dX3_holdsOne_11 rfl (lv_at hl 1 rfl) ?_
    refine va_get (D := (dC, dI)) (ci := 3) (v := .ref hf) (C := RX3) (T := TX3) (N := 2) hx hb hts hiX3 hown hK hP 0 rfl rfl 0 (by decide) (hts (.fieldLink RX3 9 "MadeItSo$LeastHeaps" "found" "[I") (by decide +kernel)) (fun _ h9 => h9) rfl dX3_holdsOne_12 ?_
    refine va_alen (v := 64) hx hb hK hP 1 0 rfl rfl rfl dX3_holdsOne_15 ?_
    refine lv_icmp_ge (tgt := 40) hx hb dX3_holdsOne_16 (by decide) (fun c_16 => ?_) (fun c_16 => ?_)
    · skip
      have d_16 : 64 ≤ i_2 := (nI_leI (a := 64) (b := i_2) (by omega) (by omega)).mp c_16
      refine lv_iconst (v := 0) hx hb dX3_holdsOne_40 (by decide +kernel) ?_
      refine W.widen (k := 0) (n := 0) (Nat.le_of_ble_eq_true rfl) (Nat.le_of_ble_eq_true rfl) ?_
      exact W.zret (v := 0) hx hb hr (mz_nz (by decide +kernel)) (fun t ht hW => ⟨⟨0, (), rfl, Or.inl rfl, ht⟩, hS.F ht⟩) hS.2.2 dX3_holdsOne_41
    · skip
      have d_16 : ¬ 64 ≤ i_2 := fun h => c_16 ((nI_leI (a := 64) (b := i_2) (by omega) (by omega)).mpr h)
      refine lv_aload_n hx hb dX3_holdsOne_19 rfl (lv_at hl 1 rfl) ?_
      refine va_get (D := (dC, dI)) (ci := 3) (v := .ref hf) (C := RX3) (T := TX3) (N := 2) hx hb hts hiX3 hown hK hP 0 rfl rfl 0 (by decide) (hts (.fieldLink RX3 9 "MadeItSo$LeastHeaps" "found" "[I") (by decide +kernel)) (fun _ h9 => h9) rfl dX3_holdsOne_20 ?_
      refine lv_iload_n hx hb dX3_holdsOne_23 rfl (lv_at hl 0 rfl) ?_
      refine va_iald hx hb hK hP 1 0 rfl rfl (vp_in_nI (by omega) (by omega)) dX3_holdsOne_24 ?_
      refine lv_topi (fun v_24 ev_24 => ?_)
      refine lv_iload_n hx hb dX3_holdsOne_25 rfl (lv_at hl 2 rfl) ?_
      refine lv_iconst (v := (-1)) hx hb dX3_holdsOne_26 (by decide +kernel) ?_
      refine lv_ixor hx hb dX3_holdsOne_27 ?_
      refine lv_topi (fun v_27 ev_27 => ?_)
      refine lv_iand hx hb dX3_holdsOne_28 ?_
      refine lv_topi (fun v_28 ev_28 => ?_)
      refine lv_if_ne (tgt := 34) hx hb dX3_holdsOne_29 (by decide) (fun c_29 => ?_) (fun c_29 => ?_)
      · skip
        refine lv_iinc (v := (nI (i_2 + 1))) (lv' := [(2, .int (nI (i_2 + 1))), (0, .ref lh), (1, .int p0)]) hx hb dX3_holdsOne_34 hl (k := 0) rfl (nI_1 _) (by decide) rfl (fun ls hl => ?_)
        refine lv_goto (tgt := 2) hx hb dX3_holdsOne_37 (by decide) ?_
        exact ih_2 _ (by omega) _ _ _ ⟨(i_2 + 1), by omega, rfl, hS, lv_sub hl [0, 1, 2] rfl, rfl⟩
      · skip
        refine lv_iconst (v := 1) hx hb dX3_holdsOne_32 (by decide +kernel) ?_
        refine W.widen (k := 0) (n := 0) (Nat.le_of_ble_eq_true rfl) (Nat.le_of_ble_eq_true rfl) ?_
        exact W.zret (v := 1) hx hb hr (mz_nz (by decide +kernel)) (fun t ht hW => ⟨⟨1, (), rfl, Or.inr rfl, ht⟩, hS.F ht⟩) hS.2.2 dX3_holdsOne_33
set_option maxHeartbeats 1000000 in
set_option maxRecDepth 100000 in
theorem mz_l_seek (l : Launch) (dC : Nat → ClassId) (dI : Nat → Nat → Nat) (cI cJ cZ : ClassId) (lh : Nat) (hf : Nat) (lm : Int32) (ff : Nat → Int32) (dr : Nat) (dp : Nat) (dc : Nat) (n : Nat) (fp : Nat → Int32) (fc : Nat → Int32) (p1 : Int32) (p2 : Int32) (p3 : Int32) (sz : Nat) (hn : n ≤ 8) : Met l yX3_seek wsX3_seek ({ frames := 4, cells := 0, slots := 0, locals := 100 }) (va_Pc [.ref lh, .ref dr, .int p1, .int p2, .int p3] (fun U => U.heap.size = sz ∧ va_P (dC, dI) vwCl [(lh, .inr (3, [.ref hf, .int lm])), (hf, .inl (cI, 64, .inl ff)), (dr, .inr (2, [.ref dp, .ref dc, .int (nI n)])), (dp, .inl (cI, 8, .inl fp)), (dc, .inl (cI, 8, .inl fc))] U.heap ∧ va_K (dC, dI) vwCl [(cI, FieldType.int), (cJ, FieldType.long), (cZ, FieldType.boolean)] U ∧ va_D (fun _ => True) [(lh, .inr (3, [.ref hf, .int lm])), (hf, .inl (cI, 64, .inl ff)), (dr, .inr (2, [.ref dp, .ref dc, .int (nI n)])), (dp, .inl (cI, 8, .inl fp)), (dc, .inl (cI, 8, .inl fc))] ∧ mz_N U)) (va_Qv (fun (_ : Unit) => True) (fun _ t => ∃ (gk : Nat), ∃ (gf : Nat → Int32), (gk ≤ 64) ∧ va_P (dC, dI) vwCl [(lh, .inr (3, [.ref hf, .int (nI gk)])), (hf, .inl (cI, 64, .inl gf)), (dr, .inr (2, [.ref dp, .ref dc, .int (nI n)])), (dp, .inl (cI, 8, .inl fp)), (dc, .inl (cI, 8, .inl fc))] t.heap ∧ va_D (va_A [(lh, .inr (3, [.ref hf, .int lm])), (hf, .inl (cI, 64, .inl ff)), (dr, .inr (2, [.ref dp, .ref dc, .int (nI n)])), (dp, .inl (cI, 8, .inl fp)), (dc, .inl (cI, 8, .inl fc))] sz) [(lh, .inr (3, [.ref hf, .int (nI gk)])), (hf, .inl (cI, 64, .inl gf)), (dr, .inr (2, [.ref dp, .ref dc, .int (nI n)])), (dp, .inl (cI, 8, .inl fp)), (dc, .inl (cI, 8, .inl fc))]) (va_A [(lh, .inr (3, [.ref hf, .int lm])), (hf, .inl (cI, 64, .inl ff)), (dr, .inr (2, [.ref dp, .ref dc, .int (nI n)])), (dp, .inl (cI, 8, .inl fp)), (dc, .inl (cI, 8, .inl fc))] sz)) 0 0 (va_A [(lh, .inr (3, [.ref hf, .int lm])), (hf, .inl (cI, 64, .inl ff)), (dr, .inr (2, [.ref dp, .ref dc, .int (nI n)])), (dp, .inl (cI, 8, .inl fp)), (dc, .inl (cI, 8, .inl fc))] sz) := by
  refine Met.ofW (cc := cX3_seek) (maxL := 9) (ret := none) (by decide) rfl ?_
  intro p e s m args below meth c s₁ B hml hv
  obtain ⟨rfl, hsz, hP, hK, hD0, hN⟩ := hv
  subst hsz
  have hx := B.exec
  have hb := B.bytes
  have hr := B.returns
  have hts := atoms_spec (ws := wsX3_seek) B.pre
  have hown : s.vm.findClass RX3 = some m.cls := findClass_of_methodNamed B.named
  have hlocks := B.notSynchronized
  have hD := hD0.self (sz := s.heap.size)
  generalize hAe : va_A [(lh, .inr (3, [.ref hf, .int lm])), (hf, .inl (cI, 64, .inl ff)), (dr, .inr (2, [.ref dp, .ref dc, .int (nI n)])), (dp, .inl (cI, 8, .inl fp)), (dc, .inl (cI, 8, .inl fc))] s.heap.size = A at hD ⊢
  have hA : ∀ q : Nat, s.heap.size ≤ q → A q := fun q h => by rw [← hAe]; exact Or.inr h
  have hS : va_S A s.heap s.heap [] := va_S.rf
  have hiX3 : ∀ w ∈ u_ws RX3 TX3 2, w ∈ wsX3_seek := by decide +kernel
  have hl := lv_entry ([.ref lh, .ref dr, .int p1, .int p2, .int p3]) (n := 9) (Nat.le_of_ble_eq_true rfl)
  rw [lg_entry_eq]
  generalize (lg_sl ([.ref lh, .ref dr, .int p1, .int p2, .int p3]) ++ List.replicate (9 - (lg_sl ([.ref lh, .ref dr, .int p1, .int p2, .int p3])).length) Slot.unset).toArray = ls at hl ⊢
  have hl : lv_has ls 9 [(0, .ref lh), (1, .ref dr), (2, .int p1), (3, .int p2), (4, .int p3)] := hl
  refine lv_iload hx hb dX3_seek_0 (lv_at hl 4 rfl) ?_
  refine lv_iload_n hx hb dX3_seek_2 rfl (lv_at hl 2 rfl) ?_
  have hPc := hP.sub (ws' := []) [] rfl
  refine va_calli (va_runSN (As := [.int p1]) (rest := [.int p3]) ⟨hx, hb, hml, hown, hts⟩ (mz_g_bit l dC dI cI cJ cZ p1 s.heap ) ⟨va_cnB (host := "MadeItSo") 1 hts gX3_seek_X7_bit_n19 rfl rfl rfl (hN (RX3, 19, yX7_bit, "MadeItSo") (by decide +kernel)) (hts (.initialized RX7) (by decide +kernel)) (by decide +kernel) ⟨Nat.le_of_ble_eq_true rfl, Nat.le_of_ble_eq_true rfl⟩, hts (.static yX7_bit) (by decide +kernel), trivial⟩ ⟨fun a U g mk q => mz_blP q, fun U hU hW => ⟨rfl, hU, hPc, va_K.moved hW.alike hK, mz_nw hW hN⟩⟩ rfl rfl hl.1 rfl (lv_room (Nat.le_of_ble_eq_true rfl)) dX3_seek_3 ⟨Nat.le_of_ble_eq_true rfl, Nat.le_of_ble_eq_true rfl⟩) hS (fun q _ h => h.elim) (fun q h => h.elim) (fun r_3 u t H1 locs ht hvm hw_3 hB hz1 hk1 hS => ?_)
  have hE : s.heap = H1 := hB.symm.trans ht
  subst hE
  obtain rfl : r_3 = (1 <<< (p1 &&& 31)) := hw_3
  refine lv_iconst (v := (-1)) hx hb dX3_seek_6 (by decide +kernel) ?_
  refine lv_ixor hx hb dX3_seek_7 ?_
  refine lv_topi (fun v_7 ev_7 => ?_)
  refine lv_iand hx hb dX3_seek_8 ?_
  refine lv_topi (fun v_8 ev_8 => ?_)
  refine lv_iload_n hx hb dX3_seek_9 rfl (lv_at hl 3 rfl) ?_
  have hPc := hP.sub (ws' := []) [] rfl
  refine va_calli (va_runSN (As := [.int p2]) (rest := [.int v_8]) ⟨hx, hb, hml, hown, hts⟩ (mz_g_bit l dC dI cI cJ cZ p2 s.heap ) ⟨va_cnB (host := "MadeItSo") 1 hts gX3_seek_X7_bit_n19 rfl rfl rfl (hN (RX3, 19, yX7_bit, "MadeItSo") (by decide +kernel)) (hts (.initialized RX7) (by decide +kernel)) (by decide +kernel) ⟨Nat.le_of_ble_eq_true rfl, Nat.le_of_ble_eq_true rfl⟩, hts (.static yX7_bit) (by decide +kernel), trivial⟩ ⟨fun a U g mk q => mz_blP q, fun U hU hW => ⟨rfl, hU, hPc, va_K.moved hW.alike hK, mz_nw hW hN⟩⟩ rfl rfl hl.1 rfl (lv_room (Nat.le_of_ble_eq_true rfl)) dX3_seek_10 ⟨Nat.le_of_ble_eq_true rfl, Nat.le_of_ble_eq_true rfl⟩) hS (fun q _ h => h.elim) (fun q h => h.elim) (fun r_10 u t H1 locs ht hvm hw_10 hB hz1 hk1 hS => ?_)
  have hE : s.heap = H1 := hB.symm.trans ht
  subst hE
  obtain rfl : r_10 = (1 <<< (p2 &&& 31)) := hw_10
  refine lv_iconst (v := (-1)) hx hb dX3_seek_13 (by decide +kernel) ?_
  refine lv_ixor hx hb dX3_seek_14 ?_
  refine lv_topi (fun v_14 ev_14 => ?_)
  refine lv_iand hx hb dX3_seek_15 ?_
  refine lv_topi (fun v_15 ev_15 => ?_)
  refine lv_istore (lv' := [(5, .int v_15), (0, .ref lh), (1, .ref dr), (2, .int p1), (3, .int p2), (4, .int p3)]) hx hb dX3_seek_16 hl (by decide) rfl (fun ls hl => ?_)
  refine lv_iload hx hb dX3_seek_18 (lv_at hl 0 rfl) ?_
  have hPc := hP.sub (ws' := []) [] rfl
  refine va_calli (va_runSN (As := [.int v_15]) (rest := []) ⟨hx, hb, hml, hown, hts⟩ (mz_g_partsOf l dC dI cI cJ cZ v_15 s.heap ) ⟨va_cnB (host := "MadeItSo") 1 hts gX3_seek_X7_partsOf_n23 rfl rfl rfl (hN (RX3, 23, yX7_partsOf, "MadeItSo") (by decide +kernel)) (hts (.initialized RX7) (by decide +kernel)) (by decide +kernel) ⟨Nat.le_of_ble_eq_true rfl, Nat.le_of_ble_eq_true rfl⟩, hts (.static yX7_partsOf) (by decide +kernel), trivial⟩ ⟨fun a U g mk q => mz_blP q, fun U hU hW => ⟨rfl, hU, hPc, va_K.moved hW.alike hK, mz_nw hW hN⟩⟩ rfl rfl hl.1 rfl (lv_room (Nat.le_of_ble_eq_true rfl)) dX3_seek_20 ⟨Nat.le_of_ble_eq_true rfl, Nat.le_of_ble_eq_true rfl⟩) hS (fun q _ h => h.elim) (fun q h => h.elim) (fun r_20 u t H1 locs ht hvm hw_20 hB hz1 hk1 hS => ?_)
  have hE : s.heap = H1 := hB.symm.trans ht
  subst hE
  refine lv_istore (lv' := [(6, .int r_20), (5, .int v_15), (0, .ref lh), (1, .ref dr), (2, .int p1), (3, .int p2), (4, .int p3)]) hx hb dX3_seek_23 hl (by decide) rfl (fun ls hl => ?_)
  refine lv_aload_n hx hb dX3_seek_25 rfl (lv_at hl 2 rfl) ?_
  refine lv_iconst (v := 0) hx hb dX3_seek_26 (by decide +kernel) ?_
  refine va_put (D := (dC, dI)) (ci := 3) (v := .int 0) (ty := .int) (C := RX3) (T := TX3) (N := 2) hx hb hts hiX3 tyX3 tyX3_ok nmX3 hown hK hP hD hS 0 rfl rfl 1 (by decide) (hts (.fieldLink RX3 15 "MadeItSo$LeastHeaps" "many" "I") (by decide +kernel)) (fun _ h9 => h9) rfl (by decide +kernel) rfl rfl (Nat.le_of_ble_eq_true rfl) dX3_seek_27 (fun H locs hP hD hS => ?_)
  have hP : va_P (dC, dI) vwCl [(lh, .inr (3, [.ref hf, .int 0])), (hf, .inl (cI, 64, .inl ff)), (dr, .inr (2, [.ref dp, .ref dc, .int (nI n)])), (dp, .inl (cI, 8, .inl fp)), (dc, .inl (cI, 8, .inl fc))] H := hP
  have hD : va_D A [(lh, .inr (3, [.ref hf, .int 0])), (hf, .inl (cI, 64, .inl ff)), (dr, .inr (2, [.ref dp, .ref dc, .int (nI n)])), (dp, .inl (cI, 8, .inl fp)), (dc, .inl (cI, 8, .inl fc))] := hD
  refine lv_iconst (v := 0) hx hb dX3_seek_30 (by decide +kernel) ?_
  refine lv_istore (lv' := [(7, .int 0), (6, .int r_20), (5, .int v_15), (0, .ref lh), (1, .ref dr), (2, .int p1), (3, .int p2), (4, .int p3)]) hx hb dX3_seek_31 hl (by decide) rfl (fun ls hl => ?_)
  refine lv_iconst (v := 0) hx hb dX3_seek_33 (by decide +kernel) ?_
  refine lv_istore (lv' := [(8, .int 0), (7, .int 0), (6, .int r_20), (5, .int v_15), (0, .ref lh), (1, .ref dr), (2, .int p1), (3, .int p2), (4, .int p3)]) hx hb dX3_seek_34 hl (by decide) rfl (fun ls hl => ?_)
  refine mz_loopU (fun k H locs ls => ∃ (x8_36 : Int32), ∃ (x7_36 : Int32), ∃ (nlh1_36 : Nat), ∃ (fhf_36 : Nat → Int32), (nlh1_36 ≤ 64) ∧ va_P (dC, dI) vwCl [(lh, .inr (3, [.ref hf, .int (nI nlh1_36)])), (hf, .inl (cI, 64, .inl fhf_36)), (dr, .inr (2, [.ref dp, .ref dc, .int (nI n)])), (dp, .inl (cI, 8, .inl fp)), (dc, .inl (cI, 8, .inl fc))] H ∧ va_D A [(lh, .inr (3, [.ref hf, .int (nI nlh1_36)])), (hf, .inl (cI, 64, .inl fhf_36)), (dr, .inr (2, [.ref dp, .ref dc, .int (nI n)])), (dp, .inl (cI, 8, .inl fp)), (dc, .inl (cI, 8, .inl fc))] ∧ va_S A s.heap H locs ∧ lv_has ls 9 [(8, .int x8_36), (7, .int x7_36), (6, .int r_20), (5, .int v_15), (0, .ref lh), (1, .ref dr), (2, .int p1), (3, .int p2), (4, .int p3)] ∧ k = ((r_20 : Int32).toInt - x7_36.toInt).toNat) ?_ _ _ _ _ ⟨0, 0, 0, ff, (by first | assumption | omega), hP, hD, hS, lv_sub hl [0, 1, 2, 3, 4, 5, 6, 7, 8] rfl, rfl⟩
  intro k_36 H locs ls hI_36 ih_36
  obtain ⟨x8_36, x7_36, nlh1_36, fhf_36, hm_36, hP, hD, hS, hl, hk_36⟩ := hI_36
  refine lv_iload hx hb dX3_seek_36 (lv_at hl 1 rfl) ?_
  refine lv_iload hx hb dX3_seek_38 (lv_at hl 2 rfl) ?_
  refine lv_icmp_ge (tgt := 117) hx hb dX3_seek_40 (by decide) (fun c_40 => ?_) (fun c_40 => ?_)
  · skip
    have hP9 := hP.sub (ws' := [(lh, .inr (3, [.ref hf, .int (nI nlh1_36)])), (hf, .inl (cI, 64, .inl fhf_36)), (dr, .inr (2, [.ref dp, .ref dc, .int (nI n)])), (dp, .inl (cI, 8, .inl fp)), (dc, .inl (cI, 8, .inl fc))]) [0, 1, 2, 3, 4] rfl
    have hD9 := hD.sub (ws' := [(lh, .inr (3, [.ref hf, .int (nI nlh1_36)])), (hf, .inl (cI, 64, .inl fhf_36)), (dr, .inr (2, [.ref dp, .ref dc, .int (nI n)])), (dp, .inl (cI, 8, .inl fp)), (dc, .inl (cI, 8, .inl fc))]) [0, 1, 2, 3, 4] (by decide) rfl
    refine W.widen (k := 0) (n := 0) (Nat.le_of_ble_eq_true rfl) (Nat.le_of_ble_eq_true rfl) ?_
    exact W.vret hx hb hr (fun t ht hW => ⟨⟨(), rfl, trivial, nlh1_36, fhf_36, (by first | assumption | omega), by rw [ht]; exact hP9, hD9⟩, hS.F ht⟩) hS.2.2 dX3_seek_117
  · skip
    refine lv_aload_n hx hb dX3_seek_43 rfl (lv_at hl 4 rfl) ?_
    refine lv_iload hx hb dX3_seek_44 (lv_at hl 0 rfl) ?_
    have hPc := hP.sub (ws' := [(lh, .inr (3, [.ref hf, .int (nI nlh1_36)])), (hf, .inl (cI, 64, .inl fhf_36))]) [0, 1] rfl
    refine va_calli (va_runV (As := [.int x8_36]) (rest := []) ⟨hx, hb, hml, hown, hts⟩ (mz_l_holdsOne l dC dI cI cJ cZ lh hf nlh1_36 fhf_36 x8_36 H (by first | assumption | omega)) (cwV 1 hts gX3_seek_X3_holdsOne rfl rfl rfl (by decide +kernel) ⟨Nat.le_of_ble_eq_true rfl, Nat.le_of_ble_eq_true rfl⟩) ⟨fun a U g mk q => mz_blP q, va_recv hK hPc (ci := 3) (q0 := 0) rfl rfl, fun U hU hW => ⟨rfl, hU, hPc, va_K.moved hW.alike hK, mz_nw hW hN⟩⟩ rfl rfl hl.1 rfl (lv_room (Nat.le_of_ble_eq_true rfl)) dX3_seek_46 ⟨Nat.le_of_ble_eq_true rfl, Nat.le_of_ble_eq_true rfl⟩) hS (fun q _ h => h.elim) (fun q h => h.elim) (fun r_46 u t H1 locs ht hvm hw_46 hB hz1 hk1 hS => ?_)
    have hE : H = H1 := hB.symm.trans ht
    subst hE
    refine lv_if_ne (tgt := 102) hx hb dX3_seek_49 (by decide) (fun c_49 => ?_) (fun c_49 => ?_)
    · skip
      obtain ⟨v_102, ev_102⟩ : ∃ y : Int32, y = x7_36 + Int32.ofInt 1 := ⟨_, rfl⟩
      refine lv_iinc (v := v_102) (lv' := [(7, .int v_102), (8, .int x8_36), (6, .int r_20), (5, .int v_15), (0, .ref lh), (1, .ref dr), (2, .int p1), (3, .int p2), (4, .int p3)]) hx hb dX3_seek_102 hl (k := 1) rfl ev_102.symm (by decide) rfl (fun ls hl => ?_)
      refine lv_iload hx hb dX3_seek_105 (lv_at hl 1 rfl) ?_
      refine lv_iload hx hb dX3_seek_107 (lv_at hl 3 rfl) ?_
      have hPc := hP.sub (ws' := []) [] rfl
      refine va_calli (va_runSN (As := [.int x8_36, .int v_15]) (rest := []) ⟨hx, hb, hml, hown, hts⟩ (mz_g_nextPart l dC dI cI cJ cZ x8_36 v_15 H ) ⟨va_cnB (host := "MadeItSo") 2 hts gX3_seek_X7_nextPart_n36 rfl rfl rfl (hN (RX3, 36, yX7_nextPart, "MadeItSo") (by decide +kernel)) (hts (.initialized RX7) (by decide +kernel)) (by decide +kernel) ⟨Nat.le_of_ble_eq_true rfl, Nat.le_of_ble_eq_true rfl⟩, hts (.static yX7_nextPart) (by decide +kernel), trivial⟩ ⟨fun a U g mk q => mz_blP q, fun U hU hW => ⟨rfl, hU, hPc, va_K.moved hW.alike hK, mz_nw hW hN⟩⟩ rfl rfl hl.1 rfl (lv_room (Nat.le_of_ble_eq_true rfl)) dX3_seek_109 ⟨Nat.le_of_ble_eq_true rfl, Nat.le_of_ble_eq_true rfl⟩) hS (fun q _ h => h.elim) (fun q h => h.elim) (fun r_109 u t H1 locs ht hvm hw_109 hB hz1 hk1 hS => ?_)
      have hE : H = H1 := hB.symm.trans ht
      subst hE
      refine lv_istore (lv' := [(8, .int r_109), (7, .int v_102), (6, .int r_20), (5, .int v_15), (0, .ref lh), (1, .ref dr), (2, .int p1), (3, .int p2), (4, .int p3)]) hx hb dX3_seek_112 hl (by decide) rfl (fun ls hl => ?_)
      refine lv_goto (tgt := 36) hx hb dX3_seek_114 (by decide) ?_
      exact ih_36 _ (by rw [hk_36, ev_102]; exact mz_dec c_40) _ _ _ ⟨r_109, v_102, nlh1_36, fhf_36, (by first | assumption | omega), hP, hD, hS, lv_sub hl [0, 1, 2, 3, 4, 5, 6, 7, 8] rfl, rfl⟩
    · skip
      refine lv_aload_n hx hb dX3_seek_52 rfl (lv_at hl 4 rfl) ?_
      refine va_get (D := (dC, dI)) (ci := 3) (v := .int (nI nlh1_36)) (C := RX3) (T := TX3) (N := 2) hx hb hts hiX3 hown hK hP 0 rfl rfl 1 (by decide) (hts (.fieldLink RX3 15 "MadeItSo$LeastHeaps" "many" "I") (by decide +kernel)) (fun _ h9 => h9) rfl dX3_seek_53 ?_
      refine lv_aload_n hx hb dX3_seek_56 rfl (lv_at hl 4 rfl) ?_
      refine va_get (D := (dC, dI)) (ci := 3) (v := .ref hf) (C := RX3) (T := TX3) (N := 2) hx hb hts hiX3 hown hK hP 0 rfl rfl 0 (by decide) (hts (.fieldLink RX3 9 "MadeItSo$LeastHeaps" "found" "[I") (by decide +kernel)) (fun _ h9 => h9) rfl dX3_seek_57 ?_
      refine va_alen (v := 64) hx hb hK hP 1 0 rfl rfl rfl dX3_seek_60 ?_
      refine lv_icmp_ge (tgt := 102) hx hb dX3_seek_61 (by decide) (fun c_61 => ?_) (fun c_61 => ?_)
      · skip
        have d_61 : 64 ≤ nlh1_36 := (nI_leI (a := 64) (b := nlh1_36) (by omega) (by omega)).mp c_61
        obtain ⟨v_102, ev_102⟩ : ∃ y : Int32, y = x7_36 + Int32.ofInt 1 := ⟨_, rfl⟩
        refine lv_iinc (v := v_102) (lv' := [(7, .int v_102), (8, .int x8_36), (6, .int r_20), (5, .int v_15), (0, .ref lh), (1, .ref dr), (2, .int p1), (3, .int p2), (4, .int p3)]) hx hb dX3_seek_102 hl (k := 1) rfl ev_102.symm (by decide) rfl (fun ls hl => ?_)
        refine lv_iload hx hb dX3_seek_105 (lv_at hl 1 rfl) ?_
        refine lv_iload hx hb dX3_seek_107 (lv_at hl 3 rfl) ?_
        have hPc := hP.sub (ws' := []) [] rfl
        refine va_calli (va_runSN (As := [.int x8_36, .int v_15]) (rest := []) ⟨hx, hb, hml, hown, hts⟩ (mz_g_nextPart l dC dI cI cJ cZ x8_36 v_15 H ) ⟨va_cnB (host := "MadeItSo") 2 hts gX3_seek_X7_nextPart_n36 rfl rfl rfl (hN (RX3, 36, yX7_nextPart, "MadeItSo") (by decide +kernel)) (hts (.initialized RX7) (by decide +kernel)) (by decide +kernel) ⟨Nat.le_of_ble_eq_true rfl, Nat.le_of_ble_eq_true rfl⟩, hts (.static yX7_nextPart) (by decide +kernel), trivial⟩ ⟨fun a U g mk q => mz_blP q, fun U hU hW => ⟨rfl, hU, hPc, va_K.moved hW.alike hK, mz_nw hW hN⟩⟩ rfl rfl hl.1 rfl (lv_room (Nat.le_of_ble_eq_true rfl)) dX3_seek_109 ⟨Nat.le_of_ble_eq_true rfl, Nat.le_of_ble_eq_true rfl⟩) hS (fun q _ h => h.elim) (fun q h => h.elim) (fun r_109 u t H1 locs ht hvm hw_109 hB hz1 hk1 hS => ?_)
        have hE : H = H1 := hB.symm.trans ht
        subst hE
        refine lv_istore (lv' := [(8, .int r_109), (7, .int v_102), (6, .int r_20), (5, .int v_15), (0, .ref lh), (1, .ref dr), (2, .int p1), (3, .int p2), (4, .int p3)]) hx hb dX3_seek_112 hl (by decide) rfl (fun ls hl => ?_)
        refine lv_goto (tgt := 36) hx hb dX3_seek_114 (by decide) ?_
        exact ih_36 _ (by rw [hk_36, ev_102]; exact mz_dec c_40) _ _ _ ⟨r_109, v_102, nlh1_36, fhf_36, (by first | assumption | omega), hP, hD, hS, lv_sub hl [0, 1, 2, 3, 4, 5, 6, 7, 8] rfl, rfl⟩
      · skip
        have d_61 : ¬ 64 ≤ nlh1_36 := fun h => c_61 ((nI_leI (a := 64) (b := nlh1_36) (by omega) (by omega)).mpr h)
        refine lv_aload_n hx hb dX3_seek_64 rfl (lv_at hl 5 rfl) ?_
        refine lv_iload_n hx hb dX3_seek_65 rfl (lv_at hl 6 rfl) ?_
        have hPc := hP.sub (ws' := []) [] rfl
        refine va_calli (va_runSN (As := [.int p1]) (rest := [.ref dr]) ⟨hx, hb, hml, hown, hts⟩ (mz_g_bit l dC dI cI cJ cZ p1 H ) ⟨va_cnB (host := "MadeItSo") 1 hts gX3_seek_X7_bit_n19 rfl rfl rfl (hN (RX3, 19, yX7_bit, "MadeItSo") (by decide +kernel)) (hts (.initialized RX7) (by decide +kernel)) (by decide +kernel) ⟨Nat.le_of_ble_eq_true rfl, Nat.le_of_ble_eq_true rfl⟩, hts (.static yX7_bit) (by decide +kernel), trivial⟩ ⟨fun a U g mk q => mz_blP q, fun U hU hW => ⟨rfl, hU, hPc, va_K.moved hW.alike hK, mz_nw hW hN⟩⟩ rfl rfl hl.1 rfl (lv_room (Nat.le_of_ble_eq_true rfl)) dX3_seek_66 ⟨Nat.le_of_ble_eq_true rfl, Nat.le_of_ble_eq_true rfl⟩) hS (fun q _ h => h.elim) (fun q h => h.elim) (fun r_66 u t H1 locs ht hvm hw_66 hB hz1 hk1 hS => ?_)
        have hE : H = H1 := hB.symm.trans ht
        subst hE
        obtain rfl : r_66 = (1 <<< (p1 &&& 31)) := hw_66
        refine lv_iload_n hx hb dX3_seek_69 rfl (lv_at hl 7 rfl) ?_
        have hPc := hP.sub (ws' := []) [] rfl
        refine va_calli (va_runSN (As := [.int p2]) (rest := [.int (1 <<< (p1 &&& 31)), .ref dr]) ⟨hx, hb, hml, hown, hts⟩ (mz_g_bit l dC dI cI cJ cZ p2 H ) ⟨va_cnB (host := "MadeItSo") 1 hts gX3_seek_X7_bit_n19 rfl rfl rfl (hN (RX3, 19, yX7_bit, "MadeItSo") (by decide +kernel)) (hts (.initialized RX7) (by decide +kernel)) (by decide +kernel) ⟨Nat.le_of_ble_eq_true rfl, Nat.le_of_ble_eq_true rfl⟩, hts (.static yX7_bit) (by decide +kernel), trivial⟩ ⟨fun a U g mk q => mz_blP q, fun U hU hW => ⟨rfl, hU, hPc, va_K.moved hW.alike hK, mz_nw hW hN⟩⟩ rfl rfl hl.1 rfl (lv_room (Nat.le_of_ble_eq_true rfl)) dX3_seek_70 ⟨Nat.le_of_ble_eq_true rfl, Nat.le_of_ble_eq_true rfl⟩) hS (fun q _ h => h.elim) (fun q h => h.elim) (fun r_70 u t H1 locs ht hvm hw_70 hB hz1 hk1 hS => ?_)
        have hE : H = H1 := hB.symm.trans ht
        subst hE
        obtain rfl : r_70 = (1 <<< (p2 &&& 31)) := hw_70
        refine lv_iload hx hb dX3_seek_73 (lv_at hl 0 rfl) ?_
        have hPc := hP.sub (ws' := [(dr, .inr (2, [.ref dp, .ref dc, .int (nI n)])), (dp, .inl (cI, 8, .inl fp)), (dc, .inl (cI, 8, .inl fc))]) [2, 3, 4] rfl
        refine va_calli (va_runV (As := [.int (1 <<< (p1 &&& 31)), .int (1 <<< (p2 &&& 31)), .int x8_36]) (rest := []) ⟨hx, hb, hml, hown, hts⟩ (mz_d_barred l dC dI cI cJ cZ dr dp dc n fp fc (1 <<< (p1 &&& 31)) (1 <<< (p2 &&& 31)) x8_36 H ) (cwV 3 hts gX3_seek_X2_barred rfl rfl rfl (by decide +kernel) ⟨Nat.le_of_ble_eq_true rfl, Nat.le_of_ble_eq_true rfl⟩) ⟨fun a U g mk q => mz_blP q, va_recv hK hPc (ci := 2) (q0 := 0) rfl rfl, fun U hU hW => ⟨rfl, hU, hPc, va_K.moved hW.alike hK, mz_nw hW hN⟩⟩ rfl rfl hl.1 rfl (lv_room (Nat.le_of_ble_eq_true rfl)) dX3_seek_75 ⟨Nat.le_of_ble_eq_true rfl, Nat.le_of_ble_eq_true rfl⟩) hS (fun q _ h => h.elim) (fun q h => h.elim) (fun r_75 u t H1 locs ht hvm hw_75 hB hz1 hk1 hS => ?_)
        have hE : H = H1 := hB.symm.trans ht
        subst hE
        refine lv_if_eq (tgt := 102) hx hb dX3_seek_78 (by decide) (fun c_78 => ?_) (fun c_78 => ?_)
        · skip
          obtain ⟨v_102, ev_102⟩ : ∃ y : Int32, y = x7_36 + Int32.ofInt 1 := ⟨_, rfl⟩
          refine lv_iinc (v := v_102) (lv' := [(7, .int v_102), (8, .int x8_36), (6, .int r_20), (5, .int v_15), (0, .ref lh), (1, .ref dr), (2, .int p1), (3, .int p2), (4, .int p3)]) hx hb dX3_seek_102 hl (k := 1) rfl ev_102.symm (by decide) rfl (fun ls hl => ?_)
          refine lv_iload hx hb dX3_seek_105 (lv_at hl 1 rfl) ?_
          refine lv_iload hx hb dX3_seek_107 (lv_at hl 3 rfl) ?_
          have hPc := hP.sub (ws' := []) [] rfl
          refine va_calli (va_runSN (As := [.int x8_36, .int v_15]) (rest := []) ⟨hx, hb, hml, hown, hts⟩ (mz_g_nextPart l dC dI cI cJ cZ x8_36 v_15 H ) ⟨va_cnB (host := "MadeItSo") 2 hts gX3_seek_X7_nextPart_n36 rfl rfl rfl (hN (RX3, 36, yX7_nextPart, "MadeItSo") (by decide +kernel)) (hts (.initialized RX7) (by decide +kernel)) (by decide +kernel) ⟨Nat.le_of_ble_eq_true rfl, Nat.le_of_ble_eq_true rfl⟩, hts (.static yX7_nextPart) (by decide +kernel), trivial⟩ ⟨fun a U g mk q => mz_blP q, fun U hU hW => ⟨rfl, hU, hPc, va_K.moved hW.alike hK, mz_nw hW hN⟩⟩ rfl rfl hl.1 rfl (lv_room (Nat.le_of_ble_eq_true rfl)) dX3_seek_109 ⟨Nat.le_of_ble_eq_true rfl, Nat.le_of_ble_eq_true rfl⟩) hS (fun q _ h => h.elim) (fun q h => h.elim) (fun r_109 u t H1 locs ht hvm hw_109 hB hz1 hk1 hS => ?_)
          have hE : H = H1 := hB.symm.trans ht
          subst hE
          refine lv_istore (lv' := [(8, .int r_109), (7, .int v_102), (6, .int r_20), (5, .int v_15), (0, .ref lh), (1, .ref dr), (2, .int p1), (3, .int p2), (4, .int p3)]) hx hb dX3_seek_112 hl (by decide) rfl (fun ls hl => ?_)
          refine lv_goto (tgt := 36) hx hb dX3_seek_114 (by decide) ?_
          exact ih_36 _ (by rw [hk_36, ev_102]; exact mz_dec c_40) _ _ _ ⟨r_109, v_102, nlh1_36, fhf_36, (by first | assumption | omega), hP, hD, hS, lv_sub hl [0, 1, 2, 3, 4, 5, 6, 7, 8] rfl, rfl⟩
        · skip
          refine lv_aload_n hx hb dX3_seek_81 rfl (lv_at hl 4 rfl) ?_
          refine va_get (D := (dC, dI)) (ci := 3) (v := .ref hf) (C := RX3) (T := TX3) (N := 2) hx hb hts hiX3 hown hK hP 0 rfl rfl 0 (by decide) (hts (.fieldLink RX3 9 "MadeItSo$LeastHeaps" "found" "[I") (by decide +kernel)) (fun _ h9 => h9) rfl dX3_seek_82 ?_
          refine lv_aload_n hx hb dX3_seek_85 rfl (lv_at hl 4 rfl) ?_
          refine va_get (D := (dC, dI)) (ci := 3) (v := .int (nI nlh1_36)) (C := RX3) (T := TX3) (N := 2) hx hb hts hiX3 hown hK hP 0 rfl rfl 1 (by decide) (hts (.fieldLink RX3 15 "MadeItSo$LeastHeaps" "many" "I") (by decide +kernel)) (fun _ h9 => h9) rfl dX3_seek_86 ?_
          refine lv_iload hx hb dX3_seek_89 (lv_at hl 0 rfl) ?_
          refine va_iast hx hb hK hP hD hS 1 0 rfl rfl (vp_in_nI (by omega) (by omega)) dX3_seek_91 (fun H locs hP hD hS => ?_)
          have hP : va_P (dC, dI) vwCl [(lh, .inr (3, [.ref hf, .int (nI nlh1_36)])), (hf, .inl (cI, 64, .inl (upd fhf_36 ((nI nlh1_36) : Int32).toNatClampNeg x8_36))), (dr, .inr (2, [.ref dp, .ref dc, .int (nI n)])), (dp, .inl (cI, 8, .inl fp)), (dc, .inl (cI, 8, .inl fc))] H := hP
          have hD : va_D A [(lh, .inr (3, [.ref hf, .int (nI nlh1_36)])), (hf, .inl (cI, 64, .inl (upd fhf_36 ((nI nlh1_36) : Int32).toNatClampNeg x8_36))), (dr, .inr (2, [.ref dp, .ref dc, .int (nI n)])), (dp, .inl (cI, 8, .inl fp)), (dc, .inl (cI, 8, .inl fc))] := hD
          generalize (upd fhf_36 ((nI nlh1_36) : Int32).toNatClampNeg x8_36) = f_91 at hP hD
          refine lv_aload_n hx hb dX3_seek_92 rfl (lv_at hl 4 rfl) ?_
          refine lv_dup hx hb dX3_seek_93 rfl ?_
          refine va_get (D := (dC, dI)) (ci := 3) (v := .int (nI nlh1_36)) (C := RX3) (T := TX3) (N := 2) hx hb hts hiX3 hown hK hP 0 rfl rfl 1 (by decide) (hts (.fieldLink RX3 15 "MadeItSo$LeastHeaps" "many" "I") (by decide +kernel)) (fun _ h9 => h9) rfl dX3_seek_94 ?_
          refine lv_iconst (v := 1) hx hb dX3_seek_97 (by decide +kernel) ?_
          refine lv_iadd hx hb dX3_seek_98 ?_
          refine mz_ti (y := (nI (nlh1_36 + 1))) (nI_add _ _) ?_
          refine va_put (D := (dC, dI)) (ci := 3) (v := .int (nI (nlh1_36 + 1))) (ty := .int) (C := RX3) (T := TX3) (N := 2) hx hb hts hiX3 tyX3 tyX3_ok nmX3 hown hK hP hD hS 0 rfl rfl 1 (by decide) (hts (.fieldLink RX3 15 "MadeItSo$LeastHeaps" "many" "I") (by decide +kernel)) (fun _ h9 => h9) rfl (by decide +kernel) rfl rfl (Nat.le_of_ble_eq_true rfl) dX3_seek_99 (fun H locs hP hD hS => ?_)
          have hP : va_P (dC, dI) vwCl [(lh, .inr (3, [.ref hf, .int (nI (nlh1_36 + 1))])), (hf, .inl (cI, 64, .inl f_91)), (dr, .inr (2, [.ref dp, .ref dc, .int (nI n)])), (dp, .inl (cI, 8, .inl fp)), (dc, .inl (cI, 8, .inl fc))] H := hP
          have hD : va_D A [(lh, .inr (3, [.ref hf, .int (nI (nlh1_36 + 1))])), (hf, .inl (cI, 64, .inl f_91)), (dr, .inr (2, [.ref dp, .ref dc, .int (nI n)])), (dp, .inl (cI, 8, .inl fp)), (dc, .inl (cI, 8, .inl fc))] := hD
          obtain ⟨v_102, ev_102⟩ : ∃ y : Int32, y = x7_36 + Int32.ofInt 1 := ⟨_, rfl⟩
          refine lv_iinc (v := v_102) (lv' := [(7, .int v_102), (8, .int x8_36), (6, .int r_20), (5, .int v_15), (0, .ref lh), (1, .ref dr), (2, .int p1), (3, .int p2), (4, .int p3)]) hx hb dX3_seek_102 hl (k := 1) rfl ev_102.symm (by decide) rfl (fun ls hl => ?_)
          refine lv_iload hx hb dX3_seek_105 (lv_at hl 1 rfl) ?_
          refine lv_iload hx hb dX3_seek_107 (lv_at hl 3 rfl) ?_
          have hPc := hP.sub (ws' := []) [] rfl
          refine va_calli (va_runSN (As := [.int x8_36, .int v_15]) (rest := []) ⟨hx, hb, hml, hown, hts⟩ (mz_g_nextPart l dC dI cI cJ cZ x8_36 v_15 H ) ⟨va_cnB (host := "MadeItSo") 2 hts gX3_seek_X7_nextPart_n36 rfl rfl rfl (hN (RX3, 36, yX7_nextPart, "MadeItSo") (by decide +kernel)) (hts (.initialized RX7) (by decide +kernel)) (by decide +kernel) ⟨Nat.le_of_ble_eq_true rfl, Nat.le_of_ble_eq_true rfl⟩, hts (.static yX7_nextPart) (by decide +kernel), trivial⟩ ⟨fun a U g mk q => mz_blP q, fun U hU hW => ⟨rfl, hU, hPc, va_K.moved hW.alike hK, mz_nw hW hN⟩⟩ rfl rfl hl.1 rfl (lv_room (Nat.le_of_ble_eq_true rfl)) dX3_seek_109 ⟨Nat.le_of_ble_eq_true rfl, Nat.le_of_ble_eq_true rfl⟩) hS (fun q _ h => h.elim) (fun q h => h.elim) (fun r_109 u t H1 locs ht hvm hw_109 hB hz1 hk1 hS => ?_)
          have hE : H = H1 := hB.symm.trans ht
          subst hE
          refine lv_istore (lv' := [(8, .int r_109), (7, .int v_102), (6, .int r_20), (5, .int v_15), (0, .ref lh), (1, .ref dr), (2, .int p1), (3, .int p2), (4, .int p3)]) hx hb dX3_seek_112 hl (by decide) rfl (fun ls hl => ?_)
          refine lv_goto (tgt := 36) hx hb dX3_seek_114 (by decide) ?_
          exact ih_36 _ (by rw [hk_36, ev_102]; exact mz_dec c_40) _ _ _ ⟨r_109, v_102, (nlh1_36 + 1), f_91, (by first | assumption | omega), hP, hD, hS, lv_sub hl [0, 1, 2, 3, 4, 5, 6, 7, 8] rfl, rfl⟩
set_option maxHeartbeats 1000000 in
set_option maxRecDepth 100000 in
theorem mz_l_size (l : Launch) (dC : Nat → ClassId) (dI : Nat → Nat → Nat) (cI cJ cZ : ClassId) (lh : Nat) (hf : Nat) (lm : Int32) (Hq : Heap)  : Met l yX3_size wsX3_size ({ frames := 0, cells := 0, slots := 0, locals := 0 }) (va_Pc [.ref lh] (fun U => U.heap = Hq ∧ va_P (dC, dI) vwCl [(lh, .inr (3, [.ref hf, .int lm]))] Hq ∧ va_K (dC, dI) vwCl [(cI, FieldType.int), (cJ, FieldType.long), (cZ, FieldType.boolean)] U ∧ mz_N U)) (va_Qi (fun (r : Int32) (_ : Unit) => True) (fun _ t => t.heap = Hq) (fun _ : Nat => False)) 0 0 (fun _ : Nat => False) := by
  refine Met.ofW (cc := cX3_size) (maxL := 1) (ret := (some .int)) (by decide) rfl ?_
  intro p e s m args below meth c s₁ B hml hv
  obtain ⟨rfl, hH, hP, hK, hN⟩ := hv
  subst hH
  have hx := B.exec
  have hb := B.bytes
  have hr := B.returns
  have hts := atoms_spec (ws := wsX3_size) B.pre
  have hown : s.vm.findClass RX3 = some m.cls := findClass_of_methodNamed B.named
  have hlocks := B.notSynchronized
  have hS : va_S (fun _ : Nat => False) s.heap s.heap [] := va_S.rf
  have hiX3 : ∀ w ∈ u_ws RX3 TX3 2, w ∈ wsX3_size := by decide +kernel
  have hl := lv_entry ([.ref lh]) (n := 1) (Nat.le_of_ble_eq_true rfl)
  rw [lg_entry_eq]
  generalize (lg_sl ([.ref lh]) ++ List.replicate (1 - (lg_sl ([.ref lh])).length) Slot.unset).toArray = ls at hl ⊢
  have hl : lv_has ls 1 [(0, .ref lh)] := hl
  refine lv_aload_n hx hb dX3_size_0 rfl (lv_at hl 0 rfl) ?_
  refine va_get (D := (dC, dI)) (ci := 3) (v := .int lm) (C := RX3) (T := TX3) (N := 2) hx hb hts hiX3 hown hK hP 0 rfl rfl 1 (by decide) (hts (.fieldLink RX3 15 "MadeItSo$LeastHeaps" "many" "I") (by decide +kernel)) (fun _ h9 => h9) rfl dX3_size_1 ?_
  refine W.widen (k := 0) (n := 0) (Nat.le_of_ble_eq_true rfl) (Nat.le_of_ble_eq_true rfl) ?_
  exact W.iret (v := lm) hx hb hr (fun t ht hW => ⟨⟨lm, (), rfl, trivial, ht⟩, hS.F ht⟩) hS.2.2 dX3_size_4
set_option maxHeartbeats 1000000 in
set_option maxRecDepth 100000 in
theorem mz_l_at (l : Launch) (dC : Nat → ClassId) (dI : Nat → Nat → Nat) (cI cJ cZ : ClassId) (lh : Nat) (hf : Nat) (lm : Int32) (ff : Nat → Int32) (p0 : Int32) (Hq : Heap)  : Met l yX3_at wsX3_at ({ frames := 0, cells := 0, slots := 0, locals := 0 }) (va_Pc [.ref lh, .int p0] (fun U => U.heap = Hq ∧ va_P (dC, dI) vwCl [(lh, .inr (3, [.ref hf, .int lm])), (hf, .inl (cI, 64, .inl ff))] Hq ∧ va_K (dC, dI) vwCl [(cI, FieldType.int), (cJ, FieldType.long), (cZ, FieldType.boolean)] U ∧ mz_N U)) (va_Qi (fun (r : Int32) (_ : Unit) => True) (fun _ t => t.heap = Hq) (fun _ : Nat => False)) 0 0 (fun _ : Nat => False) := by
  refine Met.ofW (cc := cX3_at) (maxL := 2) (ret := (some .int)) (by decide) rfl ?_
  intro p e s m args below meth c s₁ B hml hv
  obtain ⟨rfl, hH, hP, hK, hN⟩ := hv
  subst hH
  have hx := B.exec
  have hb := B.bytes
  have hr := B.returns
  have hts := atoms_spec (ws := wsX3_at) B.pre
  have hown : s.vm.findClass RX3 = some m.cls := findClass_of_methodNamed B.named
  have hlocks := B.notSynchronized
  have hS : va_S (fun _ : Nat => False) s.heap s.heap [] := va_S.rf
  have hiX3 : ∀ w ∈ u_ws RX3 TX3 2, w ∈ wsX3_at := by decide +kernel
  have hl := lv_entry ([.ref lh, .int p0]) (n := 2) (Nat.le_of_ble_eq_true rfl)
  rw [lg_entry_eq]
  generalize (lg_sl ([.ref lh, .int p0]) ++ List.replicate (2 - (lg_sl ([.ref lh, .int p0])).length) Slot.unset).toArray = ls at hl ⊢
  have hl : lv_has ls 2 [(0, .ref lh), (1, .int p0)] := hl
  refine lv_iload_n hx hb dX3_at_0 rfl (lv_at hl 1 rfl) ?_
  refine lv_if_lt (tgt := 30) hx hb dX3_at_1 (by decide) (fun c_1 => ?_) (fun c_1 => ?_)
  · skip
    refine lv_iconst (v := (-1)) hx hb dX3_at_30 (by decide +kernel) ?_
    refine W.widen (k := 0) (n := 0) (Nat.le_of_ble_eq_true rfl) (Nat.le_of_ble_eq_true rfl) ?_
    exact W.iret (v := (-1)) hx hb hr (fun t ht hW => ⟨⟨(-1), (), rfl, trivial, ht⟩, hS.F ht⟩) hS.2.2 dX3_at_31
  · skip
    refine lv_iload_n hx hb dX3_at_4 rfl (lv_at hl 1 rfl) ?_
    refine lv_aload_n hx hb dX3_at_5 rfl (lv_at hl 0 rfl) ?_
    refine va_get (D := (dC, dI)) (ci := 3) (v := .int lm) (C := RX3) (T := TX3) (N := 2) hx hb hts hiX3 hown hK hP 0 rfl rfl 1 (by decide) (hts (.fieldLink RX3 15 "MadeItSo$LeastHeaps" "many" "I") (by decide +kernel)) (fun _ h9 => h9) rfl dX3_at_6 ?_
    refine lv_icmp_ge (tgt := 30) hx hb dX3_at_9 (by decide) (fun c_9 => ?_) (fun c_9 => ?_)
    · skip
      refine lv_iconst (v := (-1)) hx hb dX3_at_30 (by decide +kernel) ?_
      refine W.widen (k := 0) (n := 0) (Nat.le_of_ble_eq_true rfl) (Nat.le_of_ble_eq_true rfl) ?_
      exact W.iret (v := (-1)) hx hb hr (fun t ht hW => ⟨⟨(-1), (), rfl, trivial, ht⟩, hS.F ht⟩) hS.2.2 dX3_at_31
    · skip
      refine lv_iload_n hx hb dX3_at_12 rfl (lv_at hl 1 rfl) ?_
      refine lv_aload_n hx hb dX3_at_13 rfl (lv_at hl 0 rfl) ?_
      refine va_get (D := (dC, dI)) (ci := 3) (v := .ref hf) (C := RX3) (T := TX3) (N := 2) hx hb hts hiX3 hown hK hP 0 rfl rfl 0 (by decide) (hts (.fieldLink RX3 9 "MadeItSo$LeastHeaps" "found" "[I") (by decide +kernel)) (fun _ h9 => h9) rfl dX3_at_14 ?_
      refine va_alen (v := 64) hx hb hK hP 1 0 rfl rfl rfl dX3_at_17 ?_
      refine lv_icmp_ge (tgt := 30) hx hb dX3_at_18 (by decide) (fun c_18 => ?_) (fun c_18 => ?_)
      · skip
        refine lv_iconst (v := (-1)) hx hb dX3_at_30 (by decide +kernel) ?_
        refine W.widen (k := 0) (n := 0) (Nat.le_of_ble_eq_true rfl) (Nat.le_of_ble_eq_true rfl) ?_
        exact W.iret (v := (-1)) hx hb hr (fun t ht hW => ⟨⟨(-1), (), rfl, trivial, ht⟩, hS.F ht⟩) hS.2.2 dX3_at_31
      · skip
        refine lv_aload_n hx hb dX3_at_21 rfl (lv_at hl 0 rfl) ?_
        refine va_get (D := (dC, dI)) (ci := 3) (v := .ref hf) (C := RX3) (T := TX3) (N := 2) hx hb hts hiX3 hown hK hP 0 rfl rfl 0 (by decide) (hts (.fieldLink RX3 9 "MadeItSo$LeastHeaps" "found" "[I") (by decide +kernel)) (fun _ h9 => h9) rfl dX3_at_22 ?_
        refine lv_iload_n hx hb dX3_at_25 rfl (lv_at hl 1 rfl) ?_
        refine va_iald hx hb hK hP 1 0 rfl rfl (mz_inr (n := 64) c_1 c_18 (by decide)) dX3_at_26 ?_
        refine lv_topi (fun v_26 ev_26 => ?_)
        refine lv_goto (tgt := 31) hx hb dX3_at_27 (by decide) ?_
        refine W.widen (k := 0) (n := 0) (Nat.le_of_ble_eq_true rfl) (Nat.le_of_ble_eq_true rfl) ?_
        exact W.iret (v := v_26) hx hb hr (fun t ht hW => ⟨⟨v_26, (), rfl, trivial, ht⟩, hS.F ht⟩) hS.2.2 dX3_at_31
set_option maxHeartbeats 1000000 in
set_option maxRecDepth 100000 in
theorem mz_k_canBeLast (l : Launch) (dC : Nat → ClassId) (dI : Nat → Nat → Nat) (cI cJ cZ : ClassId) (dr : Nat) (dp : Nat) (dc : Nat) (n : Nat) (fp : Nat → Int32) (fc : Nat → Int32) (p1 : Int32) (Hq : Heap) (hn : n ≤ 8) : Met l yX4_canBeLast wsX4_canBeLast ({ frames := 4, cells := 0, slots := 0, locals := 88 }) (va_Pc [.ref dr, .int p1] (fun U => U.heap = Hq ∧ va_P (dC, dI) vwCl [(dr, .inr (2, [.ref dp, .ref dc, .int (nI n)])), (dp, .inl (cI, 8, .inl fp)), (dc, .inl (cI, 8, .inl fc))] Hq ∧ va_K (dC, dI) vwCl [(cI, FieldType.int), (cJ, FieldType.long), (cZ, FieldType.boolean)] U ∧ mz_N U)) (va_Qi (fun (r : Int32) (_ : Unit) => True) (fun _ t => t.heap = Hq) (fun _ : Nat => False)) 0 0 (fun _ : Nat => False) := by
  refine Met.ofW (cc := cX4_canBeLast) (maxL := 4) (ret := (some .int)) (by decide) rfl ?_
  intro p e s m args below meth c s₁ B hml hv
  obtain ⟨rfl, hH, hP, hK, hN⟩ := hv
  subst hH
  have hx := B.exec
  have hb := B.bytes
  have hr := B.returns
  have hts := atoms_spec (ws := wsX4_canBeLast) B.pre
  have hown : s.vm.findClass RX4 = some m.cls := findClass_of_methodNamed B.named
  have hlocks := B.notSynchronized
  have hS : va_S (fun _ : Nat => False) s.heap s.heap [] := va_S.rf
  have hl := lv_entry ([.ref dr, .int p1]) (n := 4) (Nat.le_of_ble_eq_true rfl)
  rw [lg_entry_eq]
  generalize (lg_sl ([.ref dr, .int p1]) ++ List.replicate (4 - (lg_sl ([.ref dr, .int p1])).length) Slot.unset).toArray = ls at hl ⊢
  have hl : lv_has ls 4 [(0, .ref dr), (1, .int p1)] := hl
  refine lv_iconst (v := 0) hx hb dX4_canBeLast_0 (by decide +kernel) ?_
  refine lv_istore_n (lv' := [(2, .int 0), (0, .ref dr), (1, .int p1)]) hx hb dX4_canBeLast_1 rfl hl (by decide) rfl (fun ls hl => ?_)
  refine lv_iconst (v := 0) hx hb dX4_canBeLast_2 (by decide +kernel) ?_
  refine lv_istore_n (lv' := [(3, .int 0), (2, .int 0), (0, .ref dr), (1, .int p1)]) hx hb dX4_canBeLast_3 rfl hl (by decide) rfl (fun ls hl => ?_)
  refine mz_loopU (fun k H locs ls => ∃ (i_4 : Nat), ∃ (x2_4 : Int32), i_4 ≤ n ∧ H = s.heap ∧ va_S (fun _ : Nat => False) s.heap H locs ∧ lv_has ls 4 [(3, .int (nI i_4)), (2, .int x2_4), (0, .ref dr), (1, .int p1)] ∧ k = n - i_4) ?_ _ _ _ _ ⟨0, 0, by omega, rfl, hS, lv_sub hl [0, 1, 2, 3] rfl, rfl⟩
  intro k_4 H locs ls hI_4 ih_4
  obtain ⟨i_4, x2_4, hi_4, hH_4, hS, hl, hk_4⟩ := hI_4
  subst hH_4
  refine lv_iload_n hx hb dX4_canBeLast_4 rfl (lv_at hl 0 rfl) ?_
  refine lv_aload_n hx hb dX4_canBeLast_5 rfl (lv_at hl 2 rfl) ?_
  have hPc := hP.sub (ws' := [(dr, .inr (2, [.ref dp, .ref dc, .int (nI n)]))]) [0] rfl
  refine va_calli (va_runV (As := []) (rest := [.int (nI i_4)]) ⟨hx, hb, hml, hown, hts⟩ (mz_d_size l dC dI cI cJ cZ dr dp dc n s.heap ) (cwV 0 hts gX4_canBeLast_X2_size rfl rfl rfl (by decide +kernel) ⟨Nat.le_of_ble_eq_true rfl, Nat.le_of_ble_eq_true rfl⟩) ⟨fun a U g mk q => mz_blP q, va_recv hK hPc (ci := 2) (q0 := 0) rfl rfl, fun U hU hW => ⟨rfl, hU, hPc, va_K.moved hW.alike hK, mz_nw hW hN⟩⟩ rfl rfl hl.1 rfl (lv_room (Nat.le_of_ble_eq_true rfl)) dX4_canBeLast_6 ⟨Nat.le_of_ble_eq_true rfl, Nat.le_of_ble_eq_true rfl⟩) hS (fun q _ h => h.elim) (fun q h => h.elim) (fun r_6 u t H1 locs ht hvm hw_6 hB hz1 hk1 hS => ?_)
  have hE : s.heap = H1 := hB.symm.trans ht
  subst hE
  obtain rfl : r_6 = (nI n) := hw_6
  refine lv_icmp_ge (tgt := 48) hx hb dX4_canBeLast_9 (by decide) (fun c_9 => ?_) (fun c_9 => ?_)
  · skip
    have d_9 : n ≤ i_4 := (nI_leI (a := n) (b := i_4) (by omega) (by omega)).mp c_9
    refine lv_iload_n hx hb dX4_canBeLast_48 rfl (lv_at hl 1 rfl) ?_
    refine W.widen (k := 0) (n := 0) (Nat.le_of_ble_eq_true rfl) (Nat.le_of_ble_eq_true rfl) ?_
    exact W.iret (v := x2_4) hx hb hr (fun t ht hW => ⟨⟨x2_4, (), rfl, trivial, ht⟩, hS.F ht⟩) hS.2.2 dX4_canBeLast_49
  · skip
    have d_9 : ¬ n ≤ i_4 := fun h => c_9 ((nI_leI (a := n) (b := i_4) (by omega) (by omega)).mpr h)
    refine lv_iload_n hx hb dX4_canBeLast_12 rfl (lv_at hl 3 rfl) ?_
    refine lv_iload_n hx hb dX4_canBeLast_13 rfl (lv_at hl 0 rfl) ?_
    have hPc := hP.sub (ws' := []) [] rfl
    refine va_calli (va_runSN (As := [.int p1, .int (nI i_4)]) (rest := []) ⟨hx, hb, hml, hown, hts⟩ (mz_g_inHeap l dC dI cI cJ cZ p1 (nI i_4) s.heap ) ⟨va_cnB (host := "MadeItSo") 2 hts gX4_canBeLast_X7_inHeap_n25 rfl rfl rfl (hN (RX4, 25, yX7_inHeap, "MadeItSo") (by decide +kernel)) (hts (.initialized RX7) (by decide +kernel)) (by decide +kernel) ⟨Nat.le_of_ble_eq_true rfl, Nat.le_of_ble_eq_true rfl⟩, hts (.static yX7_inHeap) (by decide +kernel), trivial⟩ ⟨fun a U g mk q => mz_blP q, fun U hU hW => ⟨rfl, hU, hPc, va_K.moved hW.alike hK, mz_nw hW hN⟩⟩ rfl rfl hl.1 rfl (lv_room (Nat.le_of_ble_eq_true rfl)) dX4_canBeLast_14 ⟨Nat.le_of_ble_eq_true rfl, Nat.le_of_ble_eq_true rfl⟩) hS (fun q _ h => h.elim) (fun q h => h.elim) (fun r_14 u t H1 locs ht hvm hw_14 hB hz1 hk1 hS => ?_)
    have hE : s.heap = H1 := hB.symm.trans ht
    subst hE
    refine lv_if_eq (tgt := 42) hx hb dX4_canBeLast_17 (by decide) (fun c_17 => ?_) (fun c_17 => ?_)
    · skip
      refine lv_iinc (v := (nI (i_4 + 1))) (lv' := [(3, .int (nI (i_4 + 1))), (2, .int x2_4), (0, .ref dr), (1, .int p1)]) hx hb dX4_canBeLast_42 hl (k := 0) rfl (nI_1 _) (by decide) rfl (fun ls hl => ?_)
      refine lv_goto (tgt := 4) hx hb dX4_canBeLast_45 (by decide) ?_
      exact ih_4 _ (by omega) _ _ _ ⟨(i_4 + 1), x2_4, by omega, rfl, hS, lv_sub hl [0, 1, 2, 3] rfl, rfl⟩
    · skip
      refine lv_aload_n hx hb dX4_canBeLast_20 rfl (lv_at hl 2 rfl) ?_
      refine lv_iload_n hx hb dX4_canBeLast_21 rfl (lv_at hl 0 rfl) ?_
      refine lv_aload_n hx hb dX4_canBeLast_22 rfl (lv_at hl 2 rfl) ?_
      refine lv_iload_n hx hb dX4_canBeLast_23 rfl (lv_at hl 0 rfl) ?_
      have hPc := hP.sub (ws' := [(dr, .inr (2, [.ref dp, .ref dc, .int (nI n)])), (dp, .inl (cI, 8, .inl fp)), (dc, .inl (cI, 8, .inl fc))]) [0, 1, 2] rfl
      refine va_calli (va_runV (As := [.int (nI i_4)]) (rest := [.int (nI i_4), .ref dr]) ⟨hx, hb, hml, hown, hts⟩ (mz_d_joinedTo l dC dI cI cJ cZ dr dp dc n fp fc (nI i_4) s.heap (by first | assumption | omega)) (cwV 1 hts gX4_canBeLast_X2_joinedTo rfl rfl rfl (by decide +kernel) ⟨Nat.le_of_ble_eq_true rfl, Nat.le_of_ble_eq_true rfl⟩) ⟨fun a U g mk q => mz_blP q, va_recv hK hPc (ci := 2) (q0 := 0) rfl rfl, fun U hU hW => ⟨rfl, hU, hPc, va_K.moved hW.alike hK, mz_nw hW hN⟩⟩ rfl rfl hl.1 rfl (lv_room (Nat.le_of_ble_eq_true rfl)) dX4_canBeLast_24 ⟨Nat.le_of_ble_eq_true rfl, Nat.le_of_ble_eq_true rfl⟩) hS (fun q _ h => h.elim) (fun q h => h.elim) (fun r_24 u t H1 locs ht hvm hw_24 hB hz1 hk1 hS => ?_)
      have hE : s.heap = H1 := hB.symm.trans ht
      subst hE
      refine lv_iload_n hx hb dX4_canBeLast_27 rfl (lv_at hl 3 rfl) ?_
      refine lv_iand hx hb dX4_canBeLast_28 ?_
      refine lv_topi (fun v_28 ev_28 => ?_)
      have hPc := hP.sub (ws' := [(dr, .inr (2, [.ref dp, .ref dc, .int (nI n)])), (dp, .inl (cI, 8, .inl fp)), (dc, .inl (cI, 8, .inl fc))]) [0, 1, 2] rfl
      refine va_calli (va_runV (As := [.int (nI i_4), .int v_28]) (rest := []) ⟨hx, hb, hml, hown, hts⟩ (mz_d_sameThirds l dC dI cI cJ cZ dr dp dc n fp fc (nI i_4) v_28 s.heap (by first | assumption | omega)) (cwV 2 hts gX4_canBeLast_X2_sameThirds rfl rfl rfl (by decide +kernel) ⟨Nat.le_of_ble_eq_true rfl, Nat.le_of_ble_eq_true rfl⟩) ⟨fun a U g mk q => mz_blP q, va_recv hK hPc (ci := 2) (q0 := 0) rfl rfl, fun U hU hW => ⟨rfl, hU, hPc, va_K.moved hW.alike hK, mz_nw hW hN⟩⟩ rfl rfl hl.1 rfl (lv_room (Nat.le_of_ble_eq_true rfl)) dX4_canBeLast_29 ⟨Nat.le_of_ble_eq_true rfl, Nat.le_of_ble_eq_true rfl⟩) hS (fun q _ h => h.elim) (fun q h => h.elim) (fun r_29 u t H1 locs ht hvm hw_29 hB hz1 hk1 hS => ?_)
      have hE : s.heap = H1 := hB.symm.trans ht
      subst hE
      refine lv_if_eq (tgt := 42) hx hb dX4_canBeLast_32 (by decide) (fun c_32 => ?_) (fun c_32 => ?_)
      · skip
        refine lv_iinc (v := (nI (i_4 + 1))) (lv' := [(3, .int (nI (i_4 + 1))), (2, .int x2_4), (0, .ref dr), (1, .int p1)]) hx hb dX4_canBeLast_42 hl (k := 0) rfl (nI_1 _) (by decide) rfl (fun ls hl => ?_)
        refine lv_goto (tgt := 4) hx hb dX4_canBeLast_45 (by decide) ?_
        exact ih_4 _ (by omega) _ _ _ ⟨(i_4 + 1), x2_4, by omega, rfl, hS, lv_sub hl [0, 1, 2, 3] rfl, rfl⟩
      · skip
        refine lv_iload_n hx hb dX4_canBeLast_35 rfl (lv_at hl 1 rfl) ?_
        refine lv_iload_n hx hb dX4_canBeLast_36 rfl (lv_at hl 0 rfl) ?_
        have hPc := hP.sub (ws' := []) [] rfl
        refine va_calli (va_runSN (As := [.int (nI i_4)]) (rest := [.int x2_4]) ⟨hx, hb, hml, hown, hts⟩ (mz_g_bit l dC dI cI cJ cZ (nI i_4) s.heap ) ⟨va_cnB (host := "MadeItSo") 1 hts gX4_canBeLast_X7_bit_n29 rfl rfl rfl (hN (RX4, 29, yX7_bit, "MadeItSo") (by decide +kernel)) (hts (.initialized RX7) (by decide +kernel)) (by decide +kernel) ⟨Nat.le_of_ble_eq_true rfl, Nat.le_of_ble_eq_true rfl⟩, hts (.static yX7_bit) (by decide +kernel), trivial⟩ ⟨fun a U g mk q => mz_blP q, fun U hU hW => ⟨rfl, hU, hPc, va_K.moved hW.alike hK, mz_nw hW hN⟩⟩ rfl rfl hl.1 rfl (lv_room (Nat.le_of_ble_eq_true rfl)) dX4_canBeLast_37 ⟨Nat.le_of_ble_eq_true rfl, Nat.le_of_ble_eq_true rfl⟩) hS (fun q _ h => h.elim) (fun q h => h.elim) (fun r_37 u t H1 locs ht hvm hw_37 hB hz1 hk1 hS => ?_)
        have hE : s.heap = H1 := hB.symm.trans ht
        subst hE
        obtain rfl : r_37 = (1 <<< ((nI i_4) &&& 31)) := hw_37
        refine lv_ior hx hb dX4_canBeLast_40 ?_
        refine lv_topi (fun v_40 ev_40 => ?_)
        refine lv_istore_n (lv' := [(2, .int v_40), (3, .int (nI i_4)), (0, .ref dr), (1, .int p1)]) hx hb dX4_canBeLast_41 rfl hl (by decide) rfl (fun ls hl => ?_)
        refine lv_iinc (v := (nI (i_4 + 1))) (lv' := [(3, .int (nI (i_4 + 1))), (2, .int v_40), (0, .ref dr), (1, .int p1)]) hx hb dX4_canBeLast_42 hl (k := 1) rfl (nI_1 _) (by decide) rfl (fun ls hl => ?_)
        refine lv_goto (tgt := 4) hx hb dX4_canBeLast_45 (by decide) ?_
        exact ih_4 _ (by omega) _ _ _ ⟨(i_4 + 1), v_40, by omega, rfl, hS, lv_sub hl [0, 1, 2, 3] rfl, rfl⟩
set_option maxHeartbeats 1000000 in
set_option maxRecDepth 100000 in
theorem mz_k_waysEndingIn (l : Launch) (dC : Nat → ClassId) (dI : Nat → Nat → Nat) (cI cJ cZ : ClassId) (la : Nat) (lw : Nat) (fl : Nat → Int32) (dr : Nat) (dp : Nat) (dc : Nat) (n : Nat) (fp : Nat → Int32) (fc : Nat → Int32) (p1 : Int32) (p2 : Int32) (Hq : Heap) (hn : n ≤ 8) : Met l yX4_waysEndingIn wsX4_waysEndingIn ({ frames := 3, cells := 0, slots := 0, locals := 64 }) (va_Pc [.ref la, .ref dr, .int p1, .int p2] (fun U => U.heap = Hq ∧ va_P (dC, dI) vwCl [(la, .inr (4, [.ref lw])), (lw, .inl (cI, 256, .inl fl)), (dr, .inr (2, [.ref dp, .ref dc, .int (nI n)])), (dp, .inl (cI, 8, .inl fp)), (dc, .inl (cI, 8, .inl fc))] Hq ∧ va_K (dC, dI) vwCl [(cI, FieldType.int), (cJ, FieldType.long), (cZ, FieldType.boolean)] U ∧ mz_N U)) (va_Qi (fun (r : Int32) (_ : Unit) => True) (fun _ t => t.heap = Hq) (fun _ : Nat => False)) 0 0 (fun _ : Nat => False) := by
  refine Met.ofW (cc := cX4_waysEndingIn) (maxL := 9) (ret := (some .int)) (by decide) rfl ?_
  intro p e s m args below meth c s₁ B hml hv
  obtain ⟨rfl, hH, hP, hK, hN⟩ := hv
  subst hH
  have hx := B.exec
  have hb := B.bytes
  have hr := B.returns
  have hts := atoms_spec (ws := wsX4_waysEndingIn) B.pre
  have hown : s.vm.findClass RX4 = some m.cls := findClass_of_methodNamed B.named
  have hlocks := B.notSynchronized
  have hS : va_S (fun _ : Nat => False) s.heap s.heap [] := va_S.rf
  have hiX4 : ∀ w ∈ u_ws RX4 TX4 1, w ∈ wsX4_waysEndingIn := by decide +kernel
  have hl := lv_entry ([.ref la, .ref dr, .int p1, .int p2]) (n := 9) (Nat.le_of_ble_eq_true rfl)
  rw [lg_entry_eq]
  generalize (lg_sl ([.ref la, .ref dr, .int p1, .int p2]) ++ List.replicate (9 - (lg_sl ([.ref la, .ref dr, .int p1, .int p2])).length) Slot.unset).toArray = ls at hl ⊢
  have hl : lv_has ls 9 [(0, .ref la), (1, .ref dr), (2, .int p1), (3, .int p2)] := hl
  refine lv_iconst (v := 0) hx hb dX4_waysEndingIn_0 (by decide +kernel) ?_
  refine lv_istore (lv' := [(4, .int 0), (0, .ref la), (1, .ref dr), (2, .int p1), (3, .int p2)]) hx hb dX4_waysEndingIn_1 hl (by decide) rfl (fun ls hl => ?_)
  refine lv_iload_n hx hb dX4_waysEndingIn_3 rfl (lv_at hl 4 rfl) ?_
  have hPc := hP.sub (ws' := []) [] rfl
  refine va_calli (va_runSN (As := [.int p2]) (rest := []) ⟨hx, hb, hml, hown, hts⟩ (mz_g_partsOf l dC dI cI cJ cZ p2 s.heap ) ⟨va_cnB (host := "MadeItSo") 1 hts gX4_waysEndingIn_X7_partsOf_n37 rfl rfl rfl (hN (RX4, 37, yX7_partsOf, "MadeItSo") (by decide +kernel)) (hts (.initialized RX7) (by decide +kernel)) (by decide +kernel) ⟨Nat.le_of_ble_eq_true rfl, Nat.le_of_ble_eq_true rfl⟩, hts (.static yX7_partsOf) (by decide +kernel), trivial⟩ ⟨fun a U g mk q => mz_blP q, fun U hU hW => ⟨rfl, hU, hPc, va_K.moved hW.alike hK, mz_nw hW hN⟩⟩ rfl rfl hl.1 rfl (lv_room (Nat.le_of_ble_eq_true rfl)) dX4_waysEndingIn_4 ⟨Nat.le_of_ble_eq_true rfl, Nat.le_of_ble_eq_true rfl⟩) hS (fun q _ h => h.elim) (fun q h => h.elim) (fun r_4 u t H1 locs ht hvm hw_4 hB hz1 hk1 hS => ?_)
  have hE : s.heap = H1 := hB.symm.trans ht
  subst hE
  refine lv_istore (lv' := [(5, .int r_4), (4, .int 0), (0, .ref la), (1, .ref dr), (2, .int p1), (3, .int p2)]) hx hb dX4_waysEndingIn_7 hl (by decide) rfl (fun ls hl => ?_)
  refine lv_iconst (v := 1) hx hb dX4_waysEndingIn_9 (by decide +kernel) ?_
  refine lv_istore (lv' := [(6, .int 1), (5, .int r_4), (4, .int 0), (0, .ref la), (1, .ref dr), (2, .int p1), (3, .int p2)]) hx hb dX4_waysEndingIn_10 hl (by decide) rfl (fun ls hl => ?_)
  refine lv_iconst (v := 0) hx hb dX4_waysEndingIn_12 (by decide +kernel) ?_
  refine lv_iload_n hx hb dX4_waysEndingIn_13 rfl (lv_at hl 6 rfl) ?_
  have hPc := hP.sub (ws' := []) [] rfl
  refine va_calli (va_runSN (As := [.int 0, .int p2]) (rest := []) ⟨hx, hb, hml, hown, hts⟩ (mz_g_nextPart l dC dI cI cJ cZ 0 p2 s.heap ) ⟨va_cnB (host := "MadeItSo") 2 hts gX4_waysEndingIn_X7_nextPart_n40 rfl rfl rfl (hN (RX4, 40, yX7_nextPart, "MadeItSo") (by decide +kernel)) (hts (.initialized RX7) (by decide +kernel)) (by decide +kernel) ⟨Nat.le_of_ble_eq_true rfl, Nat.le_of_ble_eq_true rfl⟩, hts (.static yX7_nextPart) (by decide +kernel), trivial⟩ ⟨fun a U g mk q => mz_blP q, fun U hU hW => ⟨rfl, hU, hPc, va_K.moved hW.alike hK, mz_nw hW hN⟩⟩ rfl rfl hl.1 rfl (lv_room (Nat.le_of_ble_eq_true rfl)) dX4_waysEndingIn_14 ⟨Nat.le_of_ble_eq_true rfl, Nat.le_of_ble_eq_true rfl⟩) hS (fun q _ h => h.elim) (fun q h => h.elim) (fun r_14 u t H1 locs ht hvm hw_14 hB hz1 hk1 hS => ?_)
  have hE : s.heap = H1 := hB.symm.trans ht
  subst hE
  refine lv_istore (lv' := [(7, .int r_14), (6, .int 1), (5, .int r_4), (4, .int 0), (0, .ref la), (1, .ref dr), (2, .int p1), (3, .int p2)]) hx hb dX4_waysEndingIn_17 hl (by decide) rfl (fun ls hl => ?_)
  refine mz_loopU (fun k H locs ls => ∃ (x7_19 : Int32), ∃ (x6_19 : Int32), ∃ (x4_19 : Int32), H = s.heap ∧ va_S (fun _ : Nat => False) s.heap H locs ∧ lv_has ls 9 [(7, .int x7_19), (6, .int x6_19), (5, .int r_4), (4, .int x4_19), (0, .ref la), (1, .ref dr), (2, .int p1), (3, .int p2)] ∧ k = ((r_4 : Int32).toInt - x6_19.toInt).toNat) ?_ _ _ _ _ ⟨r_14, 1, 0, rfl, hS, lv_sub hl [0, 1, 2, 3, 4, 5, 6, 7] rfl, rfl⟩
  intro k_19 H locs ls hI_19 ih_19
  obtain ⟨x7_19, x6_19, x4_19, hH_19, hS, hl, hk_19⟩ := hI_19
  subst hH_19
  refine lv_iload hx hb dX4_waysEndingIn_19 (lv_at hl 1 rfl) ?_
  refine lv_iload hx hb dX4_waysEndingIn_21 (lv_at hl 2 rfl) ?_
  refine lv_icmp_ge (tgt := 90) hx hb dX4_waysEndingIn_23 (by decide) (fun c_23 => ?_) (fun c_23 => ?_)
  · skip
    refine lv_iload hx hb dX4_waysEndingIn_90 (lv_at hl 3 rfl) ?_
    refine W.widen (k := 0) (n := 0) (Nat.le_of_ble_eq_true rfl) (Nat.le_of_ble_eq_true rfl) ?_
    exact W.iret (v := x4_19) hx hb hr (fun t ht hW => ⟨⟨x4_19, (), rfl, trivial, ht⟩, hS.F ht⟩) hS.2.2 dX4_waysEndingIn_92
  · skip
    refine lv_aload_n hx hb dX4_waysEndingIn_26 rfl (lv_at hl 5 rfl) ?_
    refine lv_iload hx hb dX4_waysEndingIn_27 (lv_at hl 0 rfl) ?_
    have hPc := hP.sub (ws' := [(dr, .inr (2, [.ref dp, .ref dc, .int (nI n)])), (dp, .inl (cI, 8, .inl fp)), (dc, .inl (cI, 8, .inl fc))]) [2, 3, 4] rfl
    refine va_calli (va_runV (As := [.int x7_19]) (rest := []) ⟨hx, hb, hml, hown, hts⟩ (mz_d_apart l dC dI cI cJ cZ dr dp dc n fp fc x7_19 s.heap (by first | assumption | omega)) (cwV 1 hts gX4_waysEndingIn_X2_apart rfl rfl rfl (by decide +kernel) ⟨Nat.le_of_ble_eq_true rfl, Nat.le_of_ble_eq_true rfl⟩) ⟨fun a U g mk q => mz_blP q, va_recv hK hPc (ci := 2) (q0 := 0) rfl rfl, fun U hU hW => ⟨rfl, hU, hPc, va_K.moved hW.alike hK, mz_nw hW hN⟩⟩ rfl rfl hl.1 rfl (lv_room (Nat.le_of_ble_eq_true rfl)) dX4_waysEndingIn_29 ⟨Nat.le_of_ble_eq_true rfl, Nat.le_of_ble_eq_true rfl⟩) hS (fun q _ h => h.elim) (fun q h => h.elim) (fun r_29 u t H1 locs ht hvm hw_29 hB hz1 hk1 hS => ?_)
    have hE : s.heap = H1 := hB.symm.trans ht
    subst hE
    refine lv_if_eq (tgt := 76) hx hb dX4_waysEndingIn_32 (by decide) (fun c_32 => ?_) (fun c_32 => ?_)
    · skip
      obtain ⟨v_76, ev_76⟩ : ∃ y : Int32, y = x6_19 + Int32.ofInt 1 := ⟨_, rfl⟩
      refine lv_iinc (v := v_76) (lv' := [(6, .int v_76), (7, .int x7_19), (5, .int r_4), (4, .int x4_19), (0, .ref la), (1, .ref dr), (2, .int p1), (3, .int p2)]) hx hb dX4_waysEndingIn_76 hl (k := 1) rfl ev_76.symm (by decide) rfl (fun ls hl => ?_)
      refine lv_iload hx hb dX4_waysEndingIn_79 (lv_at hl 1 rfl) ?_
      refine lv_iload_n hx hb dX4_waysEndingIn_81 rfl (lv_at hl 7 rfl) ?_
      have hPc := hP.sub (ws' := []) [] rfl
      refine va_calli (va_runSN (As := [.int x7_19, .int p2]) (rest := []) ⟨hx, hb, hml, hown, hts⟩ (mz_g_nextPart l dC dI cI cJ cZ x7_19 p2 s.heap ) ⟨va_cnB (host := "MadeItSo") 2 hts gX4_waysEndingIn_X7_nextPart_n40 rfl rfl rfl (hN (RX4, 40, yX7_nextPart, "MadeItSo") (by decide +kernel)) (hts (.initialized RX7) (by decide +kernel)) (by decide +kernel) ⟨Nat.le_of_ble_eq_true rfl, Nat.le_of_ble_eq_true rfl⟩, hts (.static yX7_nextPart) (by decide +kernel), trivial⟩ ⟨fun a U g mk q => mz_blP q, fun U hU hW => ⟨rfl, hU, hPc, va_K.moved hW.alike hK, mz_nw hW hN⟩⟩ rfl rfl hl.1 rfl (lv_room (Nat.le_of_ble_eq_true rfl)) dX4_waysEndingIn_82 ⟨Nat.le_of_ble_eq_true rfl, Nat.le_of_ble_eq_true rfl⟩) hS (fun q _ h => h.elim) (fun q h => h.elim) (fun r_82 u t H1 locs ht hvm hw_82 hB hz1 hk1 hS => ?_)
      have hE : s.heap = H1 := hB.symm.trans ht
      subst hE
      refine lv_istore (lv' := [(7, .int r_82), (6, .int v_76), (5, .int r_4), (4, .int x4_19), (0, .ref la), (1, .ref dr), (2, .int p1), (3, .int p2)]) hx hb dX4_waysEndingIn_85 hl (by decide) rfl (fun ls hl => ?_)
      refine lv_goto (tgt := 19) hx hb dX4_waysEndingIn_87 (by decide) ?_
      exact ih_19 _ (by rw [hk_19, ev_76]; exact mz_dec c_23) _ _ _ ⟨r_82, v_76, x4_19, rfl, hS, lv_sub hl [0, 1, 2, 3, 4, 5, 6, 7] rfl, rfl⟩
    · skip
      refine lv_aload_n hx hb dX4_waysEndingIn_35 rfl (lv_at hl 4 rfl) ?_
      refine va_get (D := (dC, dI)) (ci := 4) (v := .ref lw) (C := RX4) (T := TX4) (N := 1) hx hb hts hiX4 hown hK hP 0 rfl rfl 0 (by decide) (hts (.fieldLink RX4 9 "MadeItSo$Lookalikes" "waysOf" "[I") (by decide +kernel)) (fun _ h9 => h9) rfl dX4_waysEndingIn_36 ?_
      refine lv_iload_n hx hb dX4_waysEndingIn_39 rfl (lv_at hl 6 rfl) ?_
      refine lv_iload hx hb dX4_waysEndingIn_40 (lv_at hl 0 rfl) ?_
      refine lv_iconst (v := (-1)) hx hb dX4_waysEndingIn_42 (by decide +kernel) ?_
      refine lv_ixor hx hb dX4_waysEndingIn_43 ?_
      refine lv_topi (fun v_43 ev_43 => ?_)
      refine lv_iand hx hb dX4_waysEndingIn_44 ?_
      refine lv_topi (fun v_44 ev_44 => ?_)
      refine lv_sipush (v := 255) hx hb dX4_waysEndingIn_45 (by decide +kernel) ?_
      refine lv_iand hx hb dX4_waysEndingIn_48 ?_
      obtain ⟨a_48, ha_48, ea_48⟩ := pk_andE (v_44) (m := 255) 8 (by decide)
      have ha_48 : a_48 < 256 := ha_48
      refine mz_ti (y := (nI a_48)) ea_48 ?_
      refine va_iald hx hb hK hP 1 0 rfl rfl (vp_in_nI (by omega) (by omega)) dX4_waysEndingIn_49 ?_
      refine lv_topi (fun v_49 ev_49 => ?_)
      refine lv_istore (lv' := [(8, .int v_49), (7, .int x7_19), (6, .int x6_19), (5, .int r_4), (4, .int x4_19), (0, .ref la), (1, .ref dr), (2, .int p1), (3, .int p2)]) hx hb dX4_waysEndingIn_50 hl (by decide) rfl (fun ls hl => ?_)
      refine lv_iload hx hb dX4_waysEndingIn_52 (lv_at hl 4 rfl) ?_
      refine lv_iload hx hb dX4_waysEndingIn_54 (lv_at hl 1 rfl) ?_
      have hPc := hP.sub (ws' := []) [] rfl
      refine va_calli (va_runS (As := [.int x7_19]) (rest := [.int x4_19]) ⟨hx, hb, hml, hown, hts⟩ (mz_g_bitCount l dC dI cI cJ cZ x7_19 s.heap ) (va_cwS 1 hts gX4_waysEndingIn_J6_bitCount_0f7a4 rfl rfl rfl (by decide +kernel) ⟨Nat.le_of_ble_eq_true rfl, Nat.le_of_ble_eq_true rfl⟩) ⟨fun a U g mk q => mz_blP q, fun U hU hW => ⟨rfl, hU, hPc, va_K.moved hW.alike hK, mz_nw hW hN⟩⟩ rfl rfl hl.1 rfl (lv_room (Nat.le_of_ble_eq_true rfl)) dX4_waysEndingIn_56 ⟨Nat.le_of_ble_eq_true rfl, Nat.le_of_ble_eq_true rfl⟩) hS (fun q _ h => h.elim) (fun q h => h.elim) (fun r_56 u t H1 locs ht hvm hw_56 hB hz1 hk1 hS => ?_)
      have hE : s.heap = H1 := hB.symm.trans ht
      subst hE
      refine lv_iconst (v := 1) hx hb dX4_waysEndingIn_59 (by decide +kernel) ?_
      refine lv_iand hx hb dX4_waysEndingIn_60 ?_
      refine lv_topi (fun v_60 ev_60 => ?_)
      refine lv_iconst (v := 1) hx hb dX4_waysEndingIn_61 (by decide +kernel) ?_
      refine lv_icmp_ne (tgt := 70) hx hb dX4_waysEndingIn_62 (by decide) (fun c_62 => ?_) (fun c_62 => ?_)
      · skip
        refine lv_iload hx hb dX4_waysEndingIn_70 (lv_at hl 0 rfl) ?_
        refine lv_ineg hx hb dX4_waysEndingIn_72 ?_
        refine lv_topi (fun v_72 ev_72 => ?_)
        refine lv_iadd hx hb dX4_waysEndingIn_73 ?_
        refine lv_topi (fun v_73 ev_73 => ?_)
        refine lv_istore (lv' := [(4, .int v_73), (8, .int v_49), (7, .int x7_19), (6, .int x6_19), (5, .int r_4), (0, .ref la), (1, .ref dr), (2, .int p1), (3, .int p2)]) hx hb dX4_waysEndingIn_74 hl (by decide) rfl (fun ls hl => ?_)
        obtain ⟨v_76, ev_76⟩ : ∃ y : Int32, y = x6_19 + Int32.ofInt 1 := ⟨_, rfl⟩
        refine lv_iinc (v := v_76) (lv' := [(6, .int v_76), (4, .int v_73), (8, .int v_49), (7, .int x7_19), (5, .int r_4), (0, .ref la), (1, .ref dr), (2, .int p1), (3, .int p2)]) hx hb dX4_waysEndingIn_76 hl (k := 3) rfl ev_76.symm (by decide) rfl (fun ls hl => ?_)
        refine lv_iload hx hb dX4_waysEndingIn_79 (lv_at hl 3 rfl) ?_
        refine lv_iload_n hx hb dX4_waysEndingIn_81 rfl (lv_at hl 8 rfl) ?_
        have hPc := hP.sub (ws' := []) [] rfl
        refine va_calli (va_runSN (As := [.int x7_19, .int p2]) (rest := []) ⟨hx, hb, hml, hown, hts⟩ (mz_g_nextPart l dC dI cI cJ cZ x7_19 p2 s.heap ) ⟨va_cnB (host := "MadeItSo") 2 hts gX4_waysEndingIn_X7_nextPart_n40 rfl rfl rfl (hN (RX4, 40, yX7_nextPart, "MadeItSo") (by decide +kernel)) (hts (.initialized RX7) (by decide +kernel)) (by decide +kernel) ⟨Nat.le_of_ble_eq_true rfl, Nat.le_of_ble_eq_true rfl⟩, hts (.static yX7_nextPart) (by decide +kernel), trivial⟩ ⟨fun a U g mk q => mz_blP q, fun U hU hW => ⟨rfl, hU, hPc, va_K.moved hW.alike hK, mz_nw hW hN⟩⟩ rfl rfl hl.1 rfl (lv_room (Nat.le_of_ble_eq_true rfl)) dX4_waysEndingIn_82 ⟨Nat.le_of_ble_eq_true rfl, Nat.le_of_ble_eq_true rfl⟩) hS (fun q _ h => h.elim) (fun q h => h.elim) (fun r_82 u t H1 locs ht hvm hw_82 hB hz1 hk1 hS => ?_)
        have hE : s.heap = H1 := hB.symm.trans ht
        subst hE
        refine lv_istore (lv' := [(7, .int r_82), (6, .int v_76), (4, .int v_73), (8, .int v_49), (5, .int r_4), (0, .ref la), (1, .ref dr), (2, .int p1), (3, .int p2)]) hx hb dX4_waysEndingIn_85 hl (by decide) rfl (fun ls hl => ?_)
        refine lv_goto (tgt := 19) hx hb dX4_waysEndingIn_87 (by decide) ?_
        exact ih_19 _ (by rw [hk_19, ev_76]; exact mz_dec c_23) _ _ _ ⟨r_82, v_76, v_73, rfl, hS, lv_sub hl [0, 1, 4, 2, 5, 6, 7, 8] rfl, rfl⟩
      · skip
        refine lv_iload hx hb dX4_waysEndingIn_65 (lv_at hl 0 rfl) ?_
        refine lv_goto (tgt := 73) hx hb dX4_waysEndingIn_67 (by decide) ?_
        refine lv_iadd hx hb dX4_waysEndingIn_73 ?_
        refine lv_topi (fun v_73 ev_73 => ?_)
        refine lv_istore (lv' := [(4, .int v_73), (8, .int v_49), (7, .int x7_19), (6, .int x6_19), (5, .int r_4), (0, .ref la), (1, .ref dr), (2, .int p1), (3, .int p2)]) hx hb dX4_waysEndingIn_74 hl (by decide) rfl (fun ls hl => ?_)
        obtain ⟨v_76, ev_76⟩ : ∃ y : Int32, y = x6_19 + Int32.ofInt 1 := ⟨_, rfl⟩
        refine lv_iinc (v := v_76) (lv' := [(6, .int v_76), (4, .int v_73), (8, .int v_49), (7, .int x7_19), (5, .int r_4), (0, .ref la), (1, .ref dr), (2, .int p1), (3, .int p2)]) hx hb dX4_waysEndingIn_76 hl (k := 3) rfl ev_76.symm (by decide) rfl (fun ls hl => ?_)
        refine lv_iload hx hb dX4_waysEndingIn_79 (lv_at hl 3 rfl) ?_
        refine lv_iload_n hx hb dX4_waysEndingIn_81 rfl (lv_at hl 8 rfl) ?_
        have hPc := hP.sub (ws' := []) [] rfl
        refine va_calli (va_runSN (As := [.int x7_19, .int p2]) (rest := []) ⟨hx, hb, hml, hown, hts⟩ (mz_g_nextPart l dC dI cI cJ cZ x7_19 p2 s.heap ) ⟨va_cnB (host := "MadeItSo") 2 hts gX4_waysEndingIn_X7_nextPart_n40 rfl rfl rfl (hN (RX4, 40, yX7_nextPart, "MadeItSo") (by decide +kernel)) (hts (.initialized RX7) (by decide +kernel)) (by decide +kernel) ⟨Nat.le_of_ble_eq_true rfl, Nat.le_of_ble_eq_true rfl⟩, hts (.static yX7_nextPart) (by decide +kernel), trivial⟩ ⟨fun a U g mk q => mz_blP q, fun U hU hW => ⟨rfl, hU, hPc, va_K.moved hW.alike hK, mz_nw hW hN⟩⟩ rfl rfl hl.1 rfl (lv_room (Nat.le_of_ble_eq_true rfl)) dX4_waysEndingIn_82 ⟨Nat.le_of_ble_eq_true rfl, Nat.le_of_ble_eq_true rfl⟩) hS (fun q _ h => h.elim) (fun q h => h.elim) (fun r_82 u t H1 locs ht hvm hw_82 hB hz1 hk1 hS => ?_)
        have hE : s.heap = H1 := hB.symm.trans ht
        subst hE
        refine lv_istore (lv' := [(7, .int r_82), (6, .int v_76), (4, .int v_73), (8, .int v_49), (5, .int r_4), (0, .ref la), (1, .ref dr), (2, .int p1), (3, .int p2)]) hx hb dX4_waysEndingIn_85 hl (by decide) rfl (fun ls hl => ?_)
        refine lv_goto (tgt := 19) hx hb dX4_waysEndingIn_87 (by decide) ?_
        exact ih_19 _ (by rw [hk_19, ev_76]; exact mz_dec c_23) _ _ _ ⟨r_82, v_76, v_73, rfl, hS, lv_sub hl [0, 1, 4, 2, 5, 6, 7, 8] rfl, rfl⟩
set_option maxHeartbeats 1000000 in
set_option maxRecDepth 100000 in
theorem mz_k_reckon (l : Launch) (dC : Nat → ClassId) (dI : Nat → Nat → Nat) (cI cJ cZ : ClassId) (la : Nat) (lw : Nat) (fl : Nat → Int32) (dr : Nat) (dp : Nat) (dc : Nat) (n : Nat) (fp : Nat → Int32) (fc : Nat → Int32) (p1 : Int32) (p2 : Int32) (sz : Nat) (hn : n ≤ 8) : Met l yX4_reckon wsX4_reckon ({ frames := 5, cells := 0, slots := 0, locals := 111 }) (va_Pc [.ref la, .ref dr, .int p1, .int p2] (fun U => U.heap.size = sz ∧ va_P (dC, dI) vwCl [(la, .inr (4, [.ref lw])), (lw, .inl (cI, 256, .inl fl)), (dr, .inr (2, [.ref dp, .ref dc, .int (nI n)])), (dp, .inl (cI, 8, .inl fp)), (dc, .inl (cI, 8, .inl fc))] U.heap ∧ va_K (dC, dI) vwCl [(cI, FieldType.int), (cJ, FieldType.long), (cZ, FieldType.boolean)] U ∧ va_D (fun _ => True) [(la, .inr (4, [.ref lw])), (lw, .inl (cI, 256, .inl fl)), (dr, .inr (2, [.ref dp, .ref dc, .int (nI n)])), (dp, .inl (cI, 8, .inl fp)), (dc, .inl (cI, 8, .inl fc))] ∧ mz_N U)) (va_Qi (fun (r : Int32) (_ : Unit) => True) (fun _ t => ∃ (gl : Nat → Int32), va_P (dC, dI) vwCl [(la, .inr (4, [.ref lw])), (lw, .inl (cI, 256, .inl gl)), (dr, .inr (2, [.ref dp, .ref dc, .int (nI n)])), (dp, .inl (cI, 8, .inl fp)), (dc, .inl (cI, 8, .inl fc))] t.heap ∧ va_D (va_A [(la, .inr (4, [.ref lw])), (lw, .inl (cI, 256, .inl fl)), (dr, .inr (2, [.ref dp, .ref dc, .int (nI n)])), (dp, .inl (cI, 8, .inl fp)), (dc, .inl (cI, 8, .inl fc))] sz) [(la, .inr (4, [.ref lw])), (lw, .inl (cI, 256, .inl gl)), (dr, .inr (2, [.ref dp, .ref dc, .int (nI n)])), (dp, .inl (cI, 8, .inl fp)), (dc, .inl (cI, 8, .inl fc))]) (va_A [(la, .inr (4, [.ref lw])), (lw, .inl (cI, 256, .inl fl)), (dr, .inr (2, [.ref dp, .ref dc, .int (nI n)])), (dp, .inl (cI, 8, .inl fp)), (dc, .inl (cI, 8, .inl fc))] sz)) 0 0 (va_A [(la, .inr (4, [.ref lw])), (lw, .inl (cI, 256, .inl fl)), (dr, .inr (2, [.ref dp, .ref dc, .int (nI n)])), (dp, .inl (cI, 8, .inl fp)), (dc, .inl (cI, 8, .inl fc))] sz) := by
  refine Met.ofW (cc := cX4_reckon) (maxL := 7) (ret := (some .int)) (by decide) rfl ?_
  intro p e s m args below meth c s₁ B hml hv
  obtain ⟨rfl, hsz, hP, hK, hD0, hN⟩ := hv
  subst hsz
  have hx := B.exec
  have hb := B.bytes
  have hr := B.returns
  have hts := atoms_spec (ws := wsX4_reckon) B.pre
  have hown : s.vm.findClass RX4 = some m.cls := findClass_of_methodNamed B.named
  have hlocks := B.notSynchronized
  have hD := hD0.self (sz := s.heap.size)
  generalize hAe : va_A [(la, .inr (4, [.ref lw])), (lw, .inl (cI, 256, .inl fl)), (dr, .inr (2, [.ref dp, .ref dc, .int (nI n)])), (dp, .inl (cI, 8, .inl fp)), (dc, .inl (cI, 8, .inl fc))] s.heap.size = A at hD ⊢
  have hA : ∀ q : Nat, s.heap.size ≤ q → A q := fun q h => by rw [← hAe]; exact Or.inr h
  have hS : va_S A s.heap s.heap [] := va_S.rf
  have hiX4 : ∀ w ∈ u_ws RX4 TX4 1, w ∈ wsX4_reckon := by decide +kernel
  have hl := lv_entry ([.ref la, .ref dr, .int p1, .int p2]) (n := 7) (Nat.le_of_ble_eq_true rfl)
  rw [lg_entry_eq]
  generalize (lg_sl ([.ref la, .ref dr, .int p1, .int p2]) ++ List.replicate (7 - (lg_sl ([.ref la, .ref dr, .int p1, .int p2])).length) Slot.unset).toArray = ls at hl ⊢
  have hl : lv_has ls 7 [(0, .ref la), (1, .ref dr), (2, .int p1), (3, .int p2)] := hl
  refine lv_aload_n hx hb dX4_reckon_0 rfl (lv_at hl 1 rfl) ?_
  have hPc := hP.sub (ws' := [(dr, .inr (2, [.ref dp, .ref dc, .int (nI n)]))]) [2] rfl
  refine va_calli (va_runV (As := []) (rest := []) ⟨hx, hb, hml, hown, hts⟩ (mz_d_everything l dC dI cI cJ cZ dr dp dc n s.heap ) (cwV 0 hts gX4_reckon_X2_everything rfl rfl rfl (by decide +kernel) ⟨Nat.le_of_ble_eq_true rfl, Nat.le_of_ble_eq_true rfl⟩) ⟨fun a U g mk q => mz_blP q, va_recv hK hPc (ci := 2) (q0 := 0) rfl rfl, fun U hU hW => ⟨rfl, hU, hPc, va_K.moved hW.alike hK, mz_nw hW hN⟩⟩ rfl rfl hl.1 rfl (lv_room (Nat.le_of_ble_eq_true rfl)) dX4_reckon_1 ⟨Nat.le_of_ble_eq_true rfl, Nat.le_of_ble_eq_true rfl⟩) hS (fun q _ h => h.elim) (fun q h => h.elim) (fun r_1 u t H1 locs ht hvm hw_1 hB hz1 hk1 hS => ?_)
  have hE : s.heap = H1 := hB.symm.trans ht
  subst hE
  refine lv_sipush (v := 255) hx hb dX4_reckon_4 (by decide +kernel) ?_
  refine lv_iand hx hb dX4_reckon_7 ?_
  obtain ⟨a_7, ha_7, ea_7⟩ := pk_andE (r_1) (m := 255) 8 (by decide)
  have ha_7 : a_7 < 256 := ha_7
  refine mz_ti (y := (nI a_7)) ea_7 ?_
  refine lv_istore (lv' := [(4, .int (nI a_7)), (0, .ref la), (1, .ref dr), (2, .int p1), (3, .int p2)]) hx hb dX4_reckon_8 hl (by decide) rfl (fun ls hl => ?_)
  refine lv_aload_n hx hb dX4_reckon_10 rfl (lv_at hl 1 rfl) ?_
  refine va_get (D := (dC, dI)) (ci := 4) (v := .ref lw) (C := RX4) (T := TX4) (N := 1) hx hb hts hiX4 hown hK hP 0 rfl rfl 0 (by decide) (hts (.fieldLink RX4 9 "MadeItSo$Lookalikes" "waysOf" "[I") (by decide +kernel)) (fun _ h9 => h9) rfl dX4_reckon_11 ?_
  refine lv_iconst (v := 0) hx hb dX4_reckon_14 (by decide +kernel) ?_
  refine lv_iconst (v := 1) hx hb dX4_reckon_15 (by decide +kernel) ?_
  refine va_iast hx hb hK hP hD hS 1 0 rfl rfl (mz_in (by decide +kernel)) dX4_reckon_16 (fun H locs hP hD hS => ?_)
  have hP : va_P (dC, dI) vwCl [(la, .inr (4, [.ref lw])), (lw, .inl (cI, 256, .inl (upd fl (0 : Int32).toNatClampNeg 1))), (dr, .inr (2, [.ref dp, .ref dc, .int (nI n)])), (dp, .inl (cI, 8, .inl fp)), (dc, .inl (cI, 8, .inl fc))] H := hP
  have hD : va_D A [(la, .inr (4, [.ref lw])), (lw, .inl (cI, 256, .inl (upd fl (0 : Int32).toNatClampNeg 1))), (dr, .inr (2, [.ref dp, .ref dc, .int (nI n)])), (dp, .inl (cI, 8, .inl fp)), (dc, .inl (cI, 8, .inl fc))] := hD
  generalize (upd fl (0 : Int32).toNatClampNeg 1) = f_16 at hP hD
  refine lv_iconst (v := 1) hx hb dX4_reckon_17 (by decide +kernel) ?_
  refine lv_istore (lv' := [(5, .int 1), (4, .int (nI a_7)), (0, .ref la), (1, .ref dr), (2, .int p1), (3, .int p2)]) hx hb dX4_reckon_18 hl (by decide) rfl (fun ls hl => ?_)
  refine mz_loopU (fun k H locs ls => ∃ (i_20 : Nat), ∃ (flw_20 : Nat → Int32), i_20 ≤ 256 ∧ va_P (dC, dI) vwCl [(la, .inr (4, [.ref lw])), (lw, .inl (cI, 256, .inl flw_20)), (dr, .inr (2, [.ref dp, .ref dc, .int (nI n)])), (dp, .inl (cI, 8, .inl fp)), (dc, .inl (cI, 8, .inl fc))] H ∧ va_D A [(la, .inr (4, [.ref lw])), (lw, .inl (cI, 256, .inl flw_20)), (dr, .inr (2, [.ref dp, .ref dc, .int (nI n)])), (dp, .inl (cI, 8, .inl fp)), (dc, .inl (cI, 8, .inl fc))] ∧ va_S A s.heap H locs ∧ lv_has ls 7 [(5, .int (nI i_20)), (4, .int (nI a_7)), (0, .ref la), (1, .ref dr), (2, .int p1), (3, .int p2)] ∧ k = 256 - i_20) ?_ _ _ _ _ ⟨1, f_16, by omega, hP, hD, hS, lv_sub hl [0, 1, 2, 3, 4, 5] rfl, rfl⟩
  intro k_20 H locs ls hI_20 ih_20
  obtain ⟨i_20, flw_20, hi_20, hP, hD, hS, hl, hk_20⟩ := hI_20
  refine lv_iload hx hb dX4_reckon_20 (lv_at hl 0 rfl) ?_
  refine lv_iload hx hb dX4_reckon_22 (lv_at hl 1 rfl) ?_
  refine lv_icmp_gt (tgt := 82) hx hb dX4_reckon_24 (by decide) (fun c_24 => ?_) (fun c_24 => ?_)
  · skip
    have d_24 : a_7 < i_20 := (nI_ltI (a := a_7) (b := i_20) (by omega) (by omega)).mp c_24
    refine lv_aload_n hx hb dX4_reckon_82 rfl (lv_at hl 2 rfl) ?_
    refine va_get (D := (dC, dI)) (ci := 4) (v := .ref lw) (C := RX4) (T := TX4) (N := 1) hx hb hts hiX4 hown hK hP 0 rfl rfl 0 (by decide) (hts (.fieldLink RX4 9 "MadeItSo$Lookalikes" "waysOf" "[I") (by decide +kernel)) (fun _ h9 => h9) rfl dX4_reckon_83 ?_
    refine lv_iload hx hb dX4_reckon_86 (lv_at hl 1 rfl) ?_
    refine va_iald hx hb hK hP 1 0 rfl rfl (vp_in_nI (by omega) (by omega)) dX4_reckon_88 ?_
    refine lv_topi (fun v_88 ev_88 => ?_)
    have hP9 := hP.sub (ws' := [(la, .inr (4, [.ref lw])), (lw, .inl (cI, 256, .inl flw_20)), (dr, .inr (2, [.ref dp, .ref dc, .int (nI n)])), (dp, .inl (cI, 8, .inl fp)), (dc, .inl (cI, 8, .inl fc))]) [0, 1, 2, 3, 4] rfl
    have hD9 := hD.sub (ws' := [(la, .inr (4, [.ref lw])), (lw, .inl (cI, 256, .inl flw_20)), (dr, .inr (2, [.ref dp, .ref dc, .int (nI n)])), (dp, .inl (cI, 8, .inl fp)), (dc, .inl (cI, 8, .inl fc))]) [0, 1, 2, 3, 4] (by decide) rfl
    refine W.widen (k := 0) (n := 0) (Nat.le_of_ble_eq_true rfl) (Nat.le_of_ble_eq_true rfl) ?_
    exact W.iret (v := v_88) hx hb hr (fun t ht hW => ⟨⟨v_88, (), rfl, trivial, flw_20, by rw [ht]; exact hP9, hD9⟩, hS.F ht⟩) hS.2.2 dX4_reckon_89
  · skip
    have d_24 : ¬ a_7 < i_20 := fun h => c_24 ((nI_ltI (a := a_7) (b := i_20) (by omega) (by omega)).mpr h)
    refine lv_aload_n hx hb dX4_reckon_27 rfl (lv_at hl 3 rfl) ?_
    refine lv_iload hx hb dX4_reckon_28 (lv_at hl 0 rfl) ?_
    have hPc := hP.sub (ws' := [(dr, .inr (2, [.ref dp, .ref dc, .int (nI n)])), (dp, .inl (cI, 8, .inl fp)), (dc, .inl (cI, 8, .inl fc))]) [2, 3, 4] rfl
    refine va_calli (va_runS (As := [.ref dr, .int (nI i_20)]) (rest := []) ⟨hx, hb, hml, hown, hts⟩ (mz_k_canBeLast l dC dI cI cJ cZ dr dp dc n fp fc (nI i_20) H (by first | assumption | omega)) (va_cwS 2 hts gX4_reckon_X4_canBeLast rfl rfl rfl (by decide +kernel) ⟨Nat.le_of_ble_eq_true rfl, Nat.le_of_ble_eq_true rfl⟩) ⟨fun a U g mk q => mz_blP q, fun U hU hW => ⟨rfl, hU, hPc, va_K.moved hW.alike hK, mz_nw hW hN⟩⟩ rfl rfl hl.1 rfl (lv_room (Nat.le_of_ble_eq_true rfl)) dX4_reckon_30 ⟨Nat.le_of_ble_eq_true rfl, Nat.le_of_ble_eq_true rfl⟩) hS (fun q _ h => h.elim) (fun q h => h.elim) (fun r_30 u t H1 locs ht hvm hw_30 hB hz1 hk1 hS => ?_)
    have hE : H = H1 := hB.symm.trans ht
    subst hE
    refine lv_istore (lv' := [(6, .int r_30), (5, .int (nI i_20)), (4, .int (nI a_7)), (0, .ref la), (1, .ref dr), (2, .int p1), (3, .int p2)]) hx hb dX4_reckon_33 hl (by decide) rfl (fun ls hl => ?_)
    refine lv_iload_n hx hb dX4_reckon_35 rfl (lv_at hl 6 rfl) ?_
    refine lv_iconst (v := (-1)) hx hb dX4_reckon_36 (by decide +kernel) ?_
    refine lv_icmp_eq (tgt := 60) hx hb dX4_reckon_37 (by decide) (fun c_37 => ?_) (fun c_37 => ?_)
    · skip
      refine lv_aload_n hx hb dX4_reckon_60 rfl (lv_at hl 3 rfl) ?_
      refine va_get (D := (dC, dI)) (ci := 4) (v := .ref lw) (C := RX4) (T := TX4) (N := 1) hx hb hts hiX4 hown hK hP 0 rfl rfl 0 (by decide) (hts (.fieldLink RX4 9 "MadeItSo$Lookalikes" "waysOf" "[I") (by decide +kernel)) (fun _ h9 => h9) rfl dX4_reckon_61 ?_
      refine lv_iload hx hb dX4_reckon_64 (lv_at hl 1 rfl) ?_
      refine lv_aload_n hx hb dX4_reckon_66 rfl (lv_at hl 3 rfl) ?_
      refine lv_aload_n hx hb dX4_reckon_67 rfl (lv_at hl 4 rfl) ?_
      refine lv_iload hx hb dX4_reckon_68 (lv_at hl 1 rfl) ?_
      refine lv_iload hx hb dX4_reckon_70 (lv_at hl 0 rfl) ?_
      have hPc := hP.sub (ws' := [(la, .inr (4, [.ref lw])), (lw, .inl (cI, 256, .inl flw_20)), (dr, .inr (2, [.ref dp, .ref dc, .int (nI n)])), (dp, .inl (cI, 8, .inl fp)), (dc, .inl (cI, 8, .inl fc))]) [0, 1, 2, 3, 4] rfl
      refine va_calli (va_runV (As := [.ref dr, .int (nI i_20), .int r_30]) (rest := [.int (nI i_20), .ref lw]) ⟨hx, hb, hml, hown, hts⟩ (mz_k_waysEndingIn l dC dI cI cJ cZ la lw flw_20 dr dp dc n fp fc (nI i_20) r_30 H (by first | assumption | omega)) (cwV 3 hts gX4_reckon_X4_waysEndingIn rfl rfl rfl (by decide +kernel) ⟨Nat.le_of_ble_eq_true rfl, Nat.le_of_ble_eq_true rfl⟩) ⟨fun a U g mk q => mz_blP q, va_recv hK hPc (ci := 4) (q0 := 0) rfl rfl, fun U hU hW => ⟨rfl, hU, hPc, va_K.moved hW.alike hK, mz_nw hW hN⟩⟩ rfl rfl hl.1 rfl (lv_room (Nat.le_of_ble_eq_true rfl)) dX4_reckon_72 ⟨Nat.le_of_ble_eq_true rfl, Nat.le_of_ble_eq_true rfl⟩) hS (fun q _ h => h.elim) (fun q h => h.elim) (fun r_72 u t H1 locs ht hvm hw_72 hB hz1 hk1 hS => ?_)
      have hE : H = H1 := hB.symm.trans ht
      subst hE
      refine va_iast hx hb hK hP hD hS 1 0 rfl rfl (vp_in_nI (by omega) (by omega)) dX4_reckon_75 (fun H locs hP hD hS => ?_)
      have hP : va_P (dC, dI) vwCl [(la, .inr (4, [.ref lw])), (lw, .inl (cI, 256, .inl (upd flw_20 ((nI i_20) : Int32).toNatClampNeg r_72))), (dr, .inr (2, [.ref dp, .ref dc, .int (nI n)])), (dp, .inl (cI, 8, .inl fp)), (dc, .inl (cI, 8, .inl fc))] H := hP
      have hD : va_D A [(la, .inr (4, [.ref lw])), (lw, .inl (cI, 256, .inl (upd flw_20 ((nI i_20) : Int32).toNatClampNeg r_72))), (dr, .inr (2, [.ref dp, .ref dc, .int (nI n)])), (dp, .inl (cI, 8, .inl fp)), (dc, .inl (cI, 8, .inl fc))] := hD
      generalize (upd flw_20 ((nI i_20) : Int32).toNatClampNeg r_72) = f_75 at hP hD
      refine lv_iinc (v := (nI (i_20 + 1))) (lv' := [(5, .int (nI (i_20 + 1))), (6, .int r_30), (4, .int (nI a_7)), (0, .ref la), (1, .ref dr), (2, .int p1), (3, .int p2)]) hx hb dX4_reckon_76 hl (k := 1) rfl (nI_1 _) (by decide) rfl (fun ls hl => ?_)
      refine lv_goto (tgt := 20) hx hb dX4_reckon_79 (by decide) ?_
      exact ih_20 _ (by omega) _ _ _ ⟨(i_20 + 1), f_75, by omega, hP, hD, hS, lv_sub hl [0, 2, 3, 4, 5, 6] rfl, rfl⟩
    · skip
      refine lv_iload hx hb dX4_reckon_40 (lv_at hl 1 rfl) ?_
      refine lv_iload_n hx hb dX4_reckon_42 rfl (lv_at hl 5 rfl) ?_
      have hPc := hP.sub (ws' := []) [] rfl
      refine va_calli (va_runSN (As := [.int (nI i_20), .int p1]) (rest := []) ⟨hx, hb, hml, hown, hts⟩ (mz_g_inHeap l dC dI cI cJ cZ (nI i_20) p1 H ) ⟨va_cnB (host := "MadeItSo") 2 hts gX4_reckon_X7_inHeap_n25 rfl rfl rfl (hN (RX4, 25, yX7_inHeap, "MadeItSo") (by decide +kernel)) (hts (.initialized RX7) (by decide +kernel)) (by decide +kernel) ⟨Nat.le_of_ble_eq_true rfl, Nat.le_of_ble_eq_true rfl⟩, hts (.static yX7_inHeap) (by decide +kernel), trivial⟩ ⟨fun a U g mk q => mz_blP q, fun U hU hW => ⟨rfl, hU, hPc, va_K.moved hW.alike hK, mz_nw hW hN⟩⟩ rfl rfl hl.1 rfl (lv_room (Nat.le_of_ble_eq_true rfl)) dX4_reckon_43 ⟨Nat.le_of_ble_eq_true rfl, Nat.le_of_ble_eq_true rfl⟩) hS (fun q _ h => h.elim) (fun q h => h.elim) (fun r_43 u t H1 locs ht hvm hw_43 hB hz1 hk1 hS => ?_)
      have hE : H = H1 := hB.symm.trans ht
      subst hE
      refine lv_if_ne (tgt := 60) hx hb dX4_reckon_46 (by decide) (fun c_46 => ?_) (fun c_46 => ?_)
      · skip
        refine lv_aload_n hx hb dX4_reckon_60 rfl (lv_at hl 3 rfl) ?_
        refine va_get (D := (dC, dI)) (ci := 4) (v := .ref lw) (C := RX4) (T := TX4) (N := 1) hx hb hts hiX4 hown hK hP 0 rfl rfl 0 (by decide) (hts (.fieldLink RX4 9 "MadeItSo$Lookalikes" "waysOf" "[I") (by decide +kernel)) (fun _ h9 => h9) rfl dX4_reckon_61 ?_
        refine lv_iload hx hb dX4_reckon_64 (lv_at hl 1 rfl) ?_
        refine lv_aload_n hx hb dX4_reckon_66 rfl (lv_at hl 3 rfl) ?_
        refine lv_aload_n hx hb dX4_reckon_67 rfl (lv_at hl 4 rfl) ?_
        refine lv_iload hx hb dX4_reckon_68 (lv_at hl 1 rfl) ?_
        refine lv_iload hx hb dX4_reckon_70 (lv_at hl 0 rfl) ?_
        have hPc := hP.sub (ws' := [(la, .inr (4, [.ref lw])), (lw, .inl (cI, 256, .inl flw_20)), (dr, .inr (2, [.ref dp, .ref dc, .int (nI n)])), (dp, .inl (cI, 8, .inl fp)), (dc, .inl (cI, 8, .inl fc))]) [0, 1, 2, 3, 4] rfl
        refine va_calli (va_runV (As := [.ref dr, .int (nI i_20), .int r_30]) (rest := [.int (nI i_20), .ref lw]) ⟨hx, hb, hml, hown, hts⟩ (mz_k_waysEndingIn l dC dI cI cJ cZ la lw flw_20 dr dp dc n fp fc (nI i_20) r_30 H (by first | assumption | omega)) (cwV 3 hts gX4_reckon_X4_waysEndingIn rfl rfl rfl (by decide +kernel) ⟨Nat.le_of_ble_eq_true rfl, Nat.le_of_ble_eq_true rfl⟩) ⟨fun a U g mk q => mz_blP q, va_recv hK hPc (ci := 4) (q0 := 0) rfl rfl, fun U hU hW => ⟨rfl, hU, hPc, va_K.moved hW.alike hK, mz_nw hW hN⟩⟩ rfl rfl hl.1 rfl (lv_room (Nat.le_of_ble_eq_true rfl)) dX4_reckon_72 ⟨Nat.le_of_ble_eq_true rfl, Nat.le_of_ble_eq_true rfl⟩) hS (fun q _ h => h.elim) (fun q h => h.elim) (fun r_72 u t H1 locs ht hvm hw_72 hB hz1 hk1 hS => ?_)
        have hE : H = H1 := hB.symm.trans ht
        subst hE
        refine va_iast hx hb hK hP hD hS 1 0 rfl rfl (vp_in_nI (by omega) (by omega)) dX4_reckon_75 (fun H locs hP hD hS => ?_)
        have hP : va_P (dC, dI) vwCl [(la, .inr (4, [.ref lw])), (lw, .inl (cI, 256, .inl (upd flw_20 ((nI i_20) : Int32).toNatClampNeg r_72))), (dr, .inr (2, [.ref dp, .ref dc, .int (nI n)])), (dp, .inl (cI, 8, .inl fp)), (dc, .inl (cI, 8, .inl fc))] H := hP
        have hD : va_D A [(la, .inr (4, [.ref lw])), (lw, .inl (cI, 256, .inl (upd flw_20 ((nI i_20) : Int32).toNatClampNeg r_72))), (dr, .inr (2, [.ref dp, .ref dc, .int (nI n)])), (dp, .inl (cI, 8, .inl fp)), (dc, .inl (cI, 8, .inl fc))] := hD
        generalize (upd flw_20 ((nI i_20) : Int32).toNatClampNeg r_72) = f_75 at hP hD
        refine lv_iinc (v := (nI (i_20 + 1))) (lv' := [(5, .int (nI (i_20 + 1))), (6, .int r_30), (4, .int (nI a_7)), (0, .ref la), (1, .ref dr), (2, .int p1), (3, .int p2)]) hx hb dX4_reckon_76 hl (k := 1) rfl (nI_1 _) (by decide) rfl (fun ls hl => ?_)
        refine lv_goto (tgt := 20) hx hb dX4_reckon_79 (by decide) ?_
        exact ih_20 _ (by omega) _ _ _ ⟨(i_20 + 1), f_75, by omega, hP, hD, hS, lv_sub hl [0, 2, 3, 4, 5, 6] rfl, rfl⟩
      · skip
        refine lv_iload hx hb dX4_reckon_49 (lv_at hl 0 rfl) ?_
        refine lv_iload_n hx hb dX4_reckon_51 rfl (lv_at hl 6 rfl) ?_
        have hPc := hP.sub (ws' := []) [] rfl
        refine va_calli (va_runSN (As := [.int p2]) (rest := [.int r_30]) ⟨hx, hb, hml, hown, hts⟩ (mz_g_bit l dC dI cI cJ cZ p2 H ) ⟨va_cnB (host := "MadeItSo") 1 hts gX4_reckon_X7_bit_n29 rfl rfl rfl (hN (RX4, 29, yX7_bit, "MadeItSo") (by decide +kernel)) (hts (.initialized RX7) (by decide +kernel)) (by decide +kernel) ⟨Nat.le_of_ble_eq_true rfl, Nat.le_of_ble_eq_true rfl⟩, hts (.static yX7_bit) (by decide +kernel), trivial⟩ ⟨fun a U g mk q => mz_blP q, fun U hU hW => ⟨rfl, hU, hPc, va_K.moved hW.alike hK, mz_nw hW hN⟩⟩ rfl rfl hl.1 rfl (lv_room (Nat.le_of_ble_eq_true rfl)) dX4_reckon_52 ⟨Nat.le_of_ble_eq_true rfl, Nat.le_of_ble_eq_true rfl⟩) hS (fun q _ h => h.elim) (fun q h => h.elim) (fun r_52 u t H1 locs ht hvm hw_52 hB hz1 hk1 hS => ?_)
        have hE : H = H1 := hB.symm.trans ht
        subst hE
        obtain rfl : r_52 = (1 <<< (p2 &&& 31)) := hw_52
        refine lv_iconst (v := (-1)) hx hb dX4_reckon_55 (by decide +kernel) ?_
        refine lv_ixor hx hb dX4_reckon_56 ?_
        refine lv_topi (fun v_56 ev_56 => ?_)
        refine lv_iand hx hb dX4_reckon_57 ?_
        refine lv_topi (fun v_57 ev_57 => ?_)
        refine lv_istore (lv' := [(6, .int v_57), (5, .int (nI i_20)), (4, .int (nI a_7)), (0, .ref la), (1, .ref dr), (2, .int p1), (3, .int p2)]) hx hb dX4_reckon_58 hl (by decide) rfl (fun ls hl => ?_)
        refine lv_aload_n hx hb dX4_reckon_60 rfl (lv_at hl 3 rfl) ?_
        refine va_get (D := (dC, dI)) (ci := 4) (v := .ref lw) (C := RX4) (T := TX4) (N := 1) hx hb hts hiX4 hown hK hP 0 rfl rfl 0 (by decide) (hts (.fieldLink RX4 9 "MadeItSo$Lookalikes" "waysOf" "[I") (by decide +kernel)) (fun _ h9 => h9) rfl dX4_reckon_61 ?_
        refine lv_iload hx hb dX4_reckon_64 (lv_at hl 1 rfl) ?_
        refine lv_aload_n hx hb dX4_reckon_66 rfl (lv_at hl 3 rfl) ?_
        refine lv_aload_n hx hb dX4_reckon_67 rfl (lv_at hl 4 rfl) ?_
        refine lv_iload hx hb dX4_reckon_68 (lv_at hl 1 rfl) ?_
        refine lv_iload hx hb dX4_reckon_70 (lv_at hl 0 rfl) ?_
        have hPc := hP.sub (ws' := [(la, .inr (4, [.ref lw])), (lw, .inl (cI, 256, .inl flw_20)), (dr, .inr (2, [.ref dp, .ref dc, .int (nI n)])), (dp, .inl (cI, 8, .inl fp)), (dc, .inl (cI, 8, .inl fc))]) [0, 1, 2, 3, 4] rfl
        refine va_calli (va_runV (As := [.ref dr, .int (nI i_20), .int v_57]) (rest := [.int (nI i_20), .ref lw]) ⟨hx, hb, hml, hown, hts⟩ (mz_k_waysEndingIn l dC dI cI cJ cZ la lw flw_20 dr dp dc n fp fc (nI i_20) v_57 H (by first | assumption | omega)) (cwV 3 hts gX4_reckon_X4_waysEndingIn rfl rfl rfl (by decide +kernel) ⟨Nat.le_of_ble_eq_true rfl, Nat.le_of_ble_eq_true rfl⟩) ⟨fun a U g mk q => mz_blP q, va_recv hK hPc (ci := 4) (q0 := 0) rfl rfl, fun U hU hW => ⟨rfl, hU, hPc, va_K.moved hW.alike hK, mz_nw hW hN⟩⟩ rfl rfl hl.1 rfl (lv_room (Nat.le_of_ble_eq_true rfl)) dX4_reckon_72 ⟨Nat.le_of_ble_eq_true rfl, Nat.le_of_ble_eq_true rfl⟩) hS (fun q _ h => h.elim) (fun q h => h.elim) (fun r_72 u t H1 locs ht hvm hw_72 hB hz1 hk1 hS => ?_)
        have hE : H = H1 := hB.symm.trans ht
        subst hE
        refine va_iast hx hb hK hP hD hS 1 0 rfl rfl (vp_in_nI (by omega) (by omega)) dX4_reckon_75 (fun H locs hP hD hS => ?_)
        have hP : va_P (dC, dI) vwCl [(la, .inr (4, [.ref lw])), (lw, .inl (cI, 256, .inl (upd flw_20 ((nI i_20) : Int32).toNatClampNeg r_72))), (dr, .inr (2, [.ref dp, .ref dc, .int (nI n)])), (dp, .inl (cI, 8, .inl fp)), (dc, .inl (cI, 8, .inl fc))] H := hP
        have hD : va_D A [(la, .inr (4, [.ref lw])), (lw, .inl (cI, 256, .inl (upd flw_20 ((nI i_20) : Int32).toNatClampNeg r_72))), (dr, .inr (2, [.ref dp, .ref dc, .int (nI n)])), (dp, .inl (cI, 8, .inl fp)), (dc, .inl (cI, 8, .inl fc))] := hD
        generalize (upd flw_20 ((nI i_20) : Int32).toNatClampNeg r_72) = f_75 at hP hD
        refine lv_iinc (v := (nI (i_20 + 1))) (lv' := [(5, .int (nI (i_20 + 1))), (6, .int v_57), (4, .int (nI a_7)), (0, .ref la), (1, .ref dr), (2, .int p1), (3, .int p2)]) hx hb dX4_reckon_76 hl (k := 1) rfl (nI_1 _) (by decide) rfl (fun ls hl => ?_)
        refine lv_goto (tgt := 20) hx hb dX4_reckon_79 (by decide) ?_
        exact ih_20 _ (by omega) _ _ _ ⟨(i_20 + 1), f_75, by omega, hP, hD, hS, lv_sub hl [0, 2, 3, 4, 5, 6] rfl, rfl⟩
end
