section
-- ===== PART A: goes FIRST, ahead of the names: the tables' words, and 'selects' of the private methods out of them =====
/-- a private method of a class that the tables say can be made, by its rows of tables_1 -/
def lw_okq (q : MethodName × Nat) : Prop := (q.1.cls ≠ "java/lang/invoke/MethodHandle" ∧ q.1.cls ≠ "java/lang/invoke/VarHandle") ∧ Cond.instantiable q.1.cls q.2 ∈ tables_1 ∧ Cond.privateMethod q.1 ∈ tables_1 ∧ Cond.instanceMethod q.1 ∈ tables_1
theorem lw_p0 : lw_okq (⟨"TreeRevisions", "openTransaction", "(I)LTreeRevisions$Transaction;"⟩, 6) := ⟨⟨by decide +kernel, by decide +kernel⟩, List.mem_of_getElem? (i := 20) (by decide +kernel), List.mem_of_getElem? (i := 201) (by decide +kernel), List.mem_of_getElem? (i := 202) (by decide +kernel)⟩
theorem lw_p1 : lw_okq (⟨"TreeRevisions", "newLine", "()I"⟩, 6) := ⟨⟨by decide +kernel, by decide +kernel⟩, List.mem_of_getElem? (i := 20) (by decide +kernel), List.mem_of_getElem? (i := 222) (by decide +kernel), List.mem_of_getElem? (i := 223) (by decide +kernel)⟩
theorem lw_p2 : lw_okq (⟨"TreeRevisions", "isRevision", "(I)Z"⟩, 6) := ⟨⟨by decide +kernel, by decide +kernel⟩, List.mem_of_getElem? (i := 20) (by decide +kernel), List.mem_of_getElem? (i := 260) (by decide +kernel), List.mem_of_getElem? (i := 261) (by decide +kernel)⟩
theorem lw_p3 : lw_okq (⟨"TreeRevisions$Merge", "conflictAt", "(I)I"⟩, 3) := ⟨⟨by decide +kernel, by decide +kernel⟩, List.mem_of_getElem? (i := 295) (by decide +kernel), List.mem_of_getElem? (i := 311) (by decide +kernel), List.mem_of_getElem? (i := 312) (by decide +kernel)⟩
theorem lw_p4 : lw_okq (⟨"TreeRevisions$Merge", "isUnchangedIn", "(LTreeRevisions$Tree;I)Z"⟩, 3) := ⟨⟨by decide +kernel, by decide +kernel⟩, List.mem_of_getElem? (i := 295) (by decide +kernel), List.mem_of_getElem? (i := 315) (by decide +kernel), List.mem_of_getElem? (i := 316) (by decide +kernel)⟩
theorem lw_p5 : lw_okq (⟨"TreeRevisions$Merge", "isOneDirectory", "(I)Z"⟩, 3) := ⟨⟨by decide +kernel, by decide +kernel⟩, List.mem_of_getElem? (i := 295) (by decide +kernel), List.mem_of_getElem? (i := 320) (by decide +kernel), List.mem_of_getElem? (i := 321) (by decide +kernel)⟩
theorem lw_p6 : lw_okq (⟨"TreeRevisions$Merge", "mergeAt", "(I)V"⟩, 3) := ⟨⟨by decide +kernel, by decide +kernel⟩, List.mem_of_getElem? (i := 295) (by decide +kernel), List.mem_of_getElem? (i := 332) (by decide +kernel), List.mem_of_getElem? (i := 333) (by decide +kernel)⟩
theorem lw_p7 : lw_okq (⟨"TreeRevisions", "settle", "(LTreeRevisions$Tree;)V"⟩, 6) := ⟨⟨by decide +kernel, by decide +kernel⟩, List.mem_of_getElem? (i := 20) (by decide +kernel), List.mem_of_getElem? (i := 339) (by decide +kernel), List.mem_of_getElem? (i := 340) (by decide +kernel)⟩
theorem lw_p8 : lw_okq (⟨"TreeRevisions", "keep", "(LTreeRevisions$Node;)I"⟩, 6) := ⟨⟨by decide +kernel, by decide +kernel⟩, List.mem_of_getElem? (i := 20) (by decide +kernel), List.mem_of_getElem? (i := 343) (by decide +kernel), List.mem_of_getElem? (i := 344) (by decide +kernel)⟩
theorem lw_p9 : lw_okq (⟨"TreeRevisions", "indexOfText", "(LTreeRevisions$Text;)I"⟩, 6) := ⟨⟨by decide +kernel, by decide +kernel⟩, List.mem_of_getElem? (i := 20) (by decide +kernel), List.mem_of_getElem? (i := 347) (by decide +kernel), List.mem_of_getElem? (i := 348) (by decide +kernel)⟩
theorem lw_p10 : lw_okq (⟨"TreeRevisions", "baseFor", "(LTreeRevisions$Node;)I"⟩, 6) := ⟨⟨by decide +kernel, by decide +kernel⟩, List.mem_of_getElem? (i := 20) (by decide +kernel), List.mem_of_getElem? (i := 374) (by decide +kernel), List.mem_of_getElem? (i := 375) (by decide +kernel)⟩
theorem lw_p11 : lw_okq (⟨"TreeRevisions$Text", "longestPiece", "(ILTreeRevisions$Text;)I"⟩, 2) := ⟨⟨by decide +kernel, by decide +kernel⟩, List.mem_of_getElem? (i := 58) (by decide +kernel), List.mem_of_getElem? (i := 390) (by decide +kernel), List.mem_of_getElem? (i := 391) (by decide +kernel)⟩
theorem lw_p12 : lw_okq (⟨"TreeRevisions$Text", "commonFrom", "(ILTreeRevisions$Text;I)I"⟩, 2) := ⟨⟨by decide +kernel, by decide +kernel⟩, List.mem_of_getElem? (i := 58) (by decide +kernel), List.mem_of_getElem? (i := 394) (by decide +kernel), List.mem_of_getElem? (i := 395) (by decide +kernel)⟩
theorem lw_p13 : lw_okq (⟨"TreeRevisions$Text", "digitAt", "(I)I"⟩, 2) := ⟨⟨by decide +kernel, by decide +kernel⟩, List.mem_of_getElem? (i := 58) (by decide +kernel), List.mem_of_getElem? (i := 398) (by decide +kernel), List.mem_of_getElem? (i := 399) (by decide +kernel)⟩
theorem lw_p14 : lw_okq (⟨"java/util/ArrayList", "add", "(Ljava/lang/Object;[Ljava/lang/Object;I)V"⟩, 3) := ⟨⟨by decide +kernel, by decide +kernel⟩, List.mem_of_getElem? (i := 32) (by decide +kernel), List.mem_of_getElem? (i := 429) (by decide +kernel), List.mem_of_getElem? (i := 430) (by decide +kernel)⟩
theorem lw_p15 : lw_okq (⟨"java/util/ArrayList", "grow", "()[Ljava/lang/Object;"⟩, 3) := ⟨⟨by decide +kernel, by decide +kernel⟩, List.mem_of_getElem? (i := 32) (by decide +kernel), List.mem_of_getElem? (i := 433) (by decide +kernel), List.mem_of_getElem? (i := 434) (by decide +kernel)⟩
def lw_privs_1 : List (MethodName × Nat) := [(⟨"TreeRevisions", "openTransaction", "(I)LTreeRevisions$Transaction;"⟩, 6), (⟨"TreeRevisions", "newLine", "()I"⟩, 6), (⟨"TreeRevisions", "isRevision", "(I)Z"⟩, 6), (⟨"TreeRevisions$Merge", "conflictAt", "(I)I"⟩, 3), (⟨"TreeRevisions$Merge", "isUnchangedIn", "(LTreeRevisions$Tree;I)Z"⟩, 3), (⟨"TreeRevisions$Merge", "isOneDirectory", "(I)Z"⟩, 3), (⟨"TreeRevisions$Merge", "mergeAt", "(I)V"⟩, 3), (⟨"TreeRevisions", "settle", "(LTreeRevisions$Tree;)V"⟩, 6), (⟨"TreeRevisions", "keep", "(LTreeRevisions$Node;)I"⟩, 6), (⟨"TreeRevisions", "indexOfText", "(LTreeRevisions$Text;)I"⟩, 6), (⟨"TreeRevisions", "baseFor", "(LTreeRevisions$Node;)I"⟩, 6), (⟨"TreeRevisions$Text", "longestPiece", "(ILTreeRevisions$Text;)I"⟩, 2), (⟨"TreeRevisions$Text", "commonFrom", "(ILTreeRevisions$Text;I)I"⟩, 2), (⟨"TreeRevisions$Text", "digitAt", "(I)I"⟩, 2), (⟨"java/util/ArrayList", "add", "(Ljava/lang/Object;[Ljava/lang/Object;I)V"⟩, 3), (⟨"java/util/ArrayList", "grow", "()[Ljava/lang/Object;"⟩, 3)]
theorem lw_r1 : ∀ q ∈ lw_privs_1, lw_okq q := List.forall_mem_cons.mpr ⟨lw_p0, List.forall_mem_cons.mpr ⟨lw_p1, List.forall_mem_cons.mpr ⟨lw_p2, List.forall_mem_cons.mpr ⟨lw_p3, List.forall_mem_cons.mpr ⟨lw_p4, List.forall_mem_cons.mpr ⟨lw_p5, List.forall_mem_cons.mpr ⟨lw_p6, List.forall_mem_cons.mpr ⟨lw_p7, List.forall_mem_cons.mpr ⟨lw_p8, List.forall_mem_cons.mpr ⟨lw_p9, List.forall_mem_cons.mpr ⟨lw_p10, List.forall_mem_cons.mpr ⟨lw_p11, List.forall_mem_cons.mpr ⟨lw_p12, List.forall_mem_cons.mpr ⟨lw_p13, List.forall_mem_cons.mpr ⟨lw_p14, List.forall_mem_cons.mpr ⟨lw_p15, fun _ h => absurd h List.not_mem_nil⟩⟩⟩⟩⟩⟩⟩⟩⟩⟩⟩⟩⟩⟩⟩⟩
theorem lw_p16 : lw_okq (⟨"java/util/ArrayList", "grow", "(I)[Ljava/lang/Object;"⟩, 3) := ⟨⟨by decide +kernel, by decide +kernel⟩, List.mem_of_getElem? (i := 32) (by decide +kernel), List.mem_of_getElem? (i := 437) (by decide +kernel), List.mem_of_getElem? (i := 438) (by decide +kernel)⟩
theorem lw_p17 : lw_okq (⟨"TreeRevisions", "treeOf", "(I)LTreeRevisions$Tree;"⟩, 6) := ⟨⟨by decide +kernel, by decide +kernel⟩, List.mem_of_getElem? (i := 20) (by decide +kernel), List.mem_of_getElem? (i := 491) (by decide +kernel), List.mem_of_getElem? (i := 492) (by decide +kernel)⟩
theorem lw_p18 : lw_okq (⟨"TreeRevisions", "nodeAt", "(II)LTreeRevisions$Node;"⟩, 6) := ⟨⟨by decide +kernel, by decide +kernel⟩, List.mem_of_getElem? (i := 20) (by decide +kernel), List.mem_of_getElem? (i := 499) (by decide +kernel), List.mem_of_getElem? (i := 500) (by decide +kernel)⟩
theorem lw_p19 : lw_okq (⟨"TreeRevisions", "isOnLine", "(IILTreeRevisions$Node;)Z"⟩, 6) := ⟨⟨by decide +kernel, by decide +kernel⟩, List.mem_of_getElem? (i := 20) (by decide +kernel), List.mem_of_getElem? (i := 531) (by decide +kernel), List.mem_of_getElem? (i := 532) (by decide +kernel)⟩
theorem lw_p20 : lw_okq (⟨"TreeRevisionsModel", "fill", "(II)V"⟩, 21) := ⟨⟨by decide +kernel, by decide +kernel⟩, List.mem_of_getElem? (i := 547) (by decide +kernel), List.mem_of_getElem? (i := 626) (by decide +kernel), List.mem_of_getElem? (i := 627) (by decide +kernel)⟩
theorem lw_p21 : lw_okq (⟨"TreeRevisionsModel", "room", "(II)Z"⟩, 21) := ⟨⟨by decide +kernel, by decide +kernel⟩, List.mem_of_getElem? (i := 547) (by decide +kernel), List.mem_of_getElem? (i := 634) (by decide +kernel), List.mem_of_getElem? (i := 635) (by decide +kernel)⟩
theorem lw_p22 : lw_okq (⟨"TreeRevisionsModel", "isOpen", "(I)Z"⟩, 21) := ⟨⟨by decide +kernel, by decide +kernel⟩, List.mem_of_getElem? (i := 547) (by decide +kernel), List.mem_of_getElem? (i := 638) (by decide +kernel), List.mem_of_getElem? (i := 639) (by decide +kernel)⟩
theorem lw_p23 : lw_okq (⟨"TreeRevisionsModel", "at", "(II)I"⟩, 21) := ⟨⟨by decide +kernel, by decide +kernel⟩, List.mem_of_getElem? (i := 547) (by decide +kernel), List.mem_of_getElem? (i := 645) (by decide +kernel), List.mem_of_getElem? (i := 646) (by decide +kernel)⟩
theorem lw_p24 : lw_okq (⟨"TreeRevisionsModel", "node", "(III)I"⟩, 21) := ⟨⟨by decide +kernel, by decide +kernel⟩, List.mem_of_getElem? (i := 547) (by decide +kernel), List.mem_of_getElem? (i := 658) (by decide +kernel), List.mem_of_getElem? (i := 659) (by decide +kernel)⟩
theorem lw_p25 : lw_okq (⟨"TreeRevisionsModel", "place", "(III)V"⟩, 21) := ⟨⟨by decide +kernel, by decide +kernel⟩, List.mem_of_getElem? (i := 547) (by decide +kernel), List.mem_of_getElem? (i := 662) (by decide +kernel), List.mem_of_getElem? (i := 663) (by decide +kernel)⟩
theorem lw_p26 : lw_okq (⟨"TreeRevisionsModel", "touch", "(II)V"⟩, 21) := ⟨⟨by decide +kernel, by decide +kernel⟩, List.mem_of_getElem? (i := 547) (by decide +kernel), List.mem_of_getElem? (i := 666) (by decide +kernel), List.mem_of_getElem? (i := 667) (by decide +kernel)⟩
theorem lw_p27 : lw_okq (⟨"TreeRevisionsModel", "merge", "(IZ)I"⟩, 21) := ⟨⟨by decide +kernel, by decide +kernel⟩, List.mem_of_getElem? (i := 547) (by decide +kernel), List.mem_of_getElem? (i := 692) (by decide +kernel), List.mem_of_getElem? (i := 693) (by decide +kernel)⟩
theorem lw_p28 : lw_okq (⟨"TreeRevisionsModel", "way", "(II)I"⟩, 21) := ⟨⟨by decide +kernel, by decide +kernel⟩, List.mem_of_getElem? (i := 547) (by decide +kernel), List.mem_of_getElem? (i := 696) (by decide +kernel), List.mem_of_getElem? (i := 697) (by decide +kernel)⟩
theorem lw_p29 : lw_okq (⟨"TreeRevisionsModel", "settle", "(IIIZ)V"⟩, 21) := ⟨⟨by decide +kernel, by decide +kernel⟩, List.mem_of_getElem? (i := 547) (by decide +kernel), List.mem_of_getElem? (i := 700) (by decide +kernel), List.mem_of_getElem? (i := 701) (by decide +kernel)⟩
theorem lw_p30 : lw_okq (⟨"TreeRevisionsModel", "take", "(II)V"⟩, 21) := ⟨⟨by decide +kernel, by decide +kernel⟩, List.mem_of_getElem? (i := 547) (by decide +kernel), List.mem_of_getElem? (i := 704) (by decide +kernel), List.mem_of_getElem? (i := 705) (by decide +kernel)⟩
theorem lw_p31 : lw_okq (⟨"TreeRevisionsModel", "join", "(II)V"⟩, 21) := ⟨⟨by decide +kernel, by decide +kernel⟩, List.mem_of_getElem? (i := 547) (by decide +kernel), List.mem_of_getElem? (i := 708) (by decide +kernel), List.mem_of_getElem? (i := 709) (by decide +kernel)⟩
def lw_privs_2 : List (MethodName × Nat) := [(⟨"java/util/ArrayList", "grow", "(I)[Ljava/lang/Object;"⟩, 3), (⟨"TreeRevisions", "treeOf", "(I)LTreeRevisions$Tree;"⟩, 6), (⟨"TreeRevisions", "nodeAt", "(II)LTreeRevisions$Node;"⟩, 6), (⟨"TreeRevisions", "isOnLine", "(IILTreeRevisions$Node;)Z"⟩, 6), (⟨"TreeRevisionsModel", "fill", "(II)V"⟩, 21), (⟨"TreeRevisionsModel", "room", "(II)Z"⟩, 21), (⟨"TreeRevisionsModel", "isOpen", "(I)Z"⟩, 21), (⟨"TreeRevisionsModel", "at", "(II)I"⟩, 21), (⟨"TreeRevisionsModel", "node", "(III)I"⟩, 21), (⟨"TreeRevisionsModel", "place", "(III)V"⟩, 21), (⟨"TreeRevisionsModel", "touch", "(II)V"⟩, 21), (⟨"TreeRevisionsModel", "merge", "(IZ)I"⟩, 21), (⟨"TreeRevisionsModel", "way", "(II)I"⟩, 21), (⟨"TreeRevisionsModel", "settle", "(IIIZ)V"⟩, 21), (⟨"TreeRevisionsModel", "take", "(II)V"⟩, 21), (⟨"TreeRevisionsModel", "join", "(II)V"⟩, 21)]
theorem lw_r2 : ∀ q ∈ lw_privs_2, lw_okq q := List.forall_mem_cons.mpr ⟨lw_p16, List.forall_mem_cons.mpr ⟨lw_p17, List.forall_mem_cons.mpr ⟨lw_p18, List.forall_mem_cons.mpr ⟨lw_p19, List.forall_mem_cons.mpr ⟨lw_p20, List.forall_mem_cons.mpr ⟨lw_p21, List.forall_mem_cons.mpr ⟨lw_p22, List.forall_mem_cons.mpr ⟨lw_p23, List.forall_mem_cons.mpr ⟨lw_p24, List.forall_mem_cons.mpr ⟨lw_p25, List.forall_mem_cons.mpr ⟨lw_p26, List.forall_mem_cons.mpr ⟨lw_p27, List.forall_mem_cons.mpr ⟨lw_p28, List.forall_mem_cons.mpr ⟨lw_p29, List.forall_mem_cons.mpr ⟨lw_p30, List.forall_mem_cons.mpr ⟨lw_p31, fun _ h => absurd h List.not_mem_nil⟩⟩⟩⟩⟩⟩⟩⟩⟩⟩⟩⟩⟩⟩⟩⟩
theorem lw_p32 : lw_okq (⟨"TreeRevisionsModel", "store", "(I)V"⟩, 21) := ⟨⟨by decide +kernel, by decide +kernel⟩, List.mem_of_getElem? (i := 547) (by decide +kernel), List.mem_of_getElem? (i := 712) (by decide +kernel), List.mem_of_getElem? (i := 713) (by decide +kernel)⟩
theorem lw_p33 : lw_okq (⟨"TreeRevisionsModel", "find", "(II)I"⟩, 21) := ⟨⟨by decide +kernel, by decide +kernel⟩, List.mem_of_getElem? (i := 547) (by decide +kernel), List.mem_of_getElem? (i := 731) (by decide +kernel), List.mem_of_getElem? (i := 732) (by decide +kernel)⟩
theorem lw_p34 : lw_okq (⟨"TreeRevisionsModel", "table", "(I)I"⟩, 21) := ⟨⟨by decide +kernel, by decide +kernel⟩, List.mem_of_getElem? (i := 547) (by decide +kernel), List.mem_of_getElem? (i := 735) (by decide +kernel), List.mem_of_getElem? (i := 736) (by decide +kernel)⟩
theorem lw_p35 : lw_okq (⟨"TreeRevisionsModel", "isFile", "(I)Z"⟩, 21) := ⟨⟨by decide +kernel, by decide +kernel⟩, List.mem_of_getElem? (i := 547) (by decide +kernel), List.mem_of_getElem? (i := 743) (by decide +kernel), List.mem_of_getElem? (i := 744) (by decide +kernel)⟩
theorem lw_p36 : lw_okq (⟨"TreeRevisionsModel", "copied", "(II)I"⟩, 21) := ⟨⟨by decide +kernel, by decide +kernel⟩, List.mem_of_getElem? (i := 547) (by decide +kernel), List.mem_of_getElem? (i := 768) (by decide +kernel), List.mem_of_getElem? (i := 769) (by decide +kernel)⟩
theorem lw_p37 : lw_okq (⟨"TreeRevisionsModel", "cost", "(I)I"⟩, 21) := ⟨⟨by decide +kernel, by decide +kernel⟩, List.mem_of_getElem? (i := 547) (by decide +kernel), List.mem_of_getElem? (i := 784) (by decide +kernel), List.mem_of_getElem? (i := 785) (by decide +kernel)⟩
def lw_privs_3 : List (MethodName × Nat) := [(⟨"TreeRevisionsModel", "store", "(I)V"⟩, 21), (⟨"TreeRevisionsModel", "find", "(II)I"⟩, 21), (⟨"TreeRevisionsModel", "table", "(I)I"⟩, 21), (⟨"TreeRevisionsModel", "isFile", "(I)Z"⟩, 21), (⟨"TreeRevisionsModel", "copied", "(II)I"⟩, 21), (⟨"TreeRevisionsModel", "cost", "(I)I"⟩, 21)]
theorem lw_r3 : ∀ q ∈ lw_privs_3, lw_okq q := List.forall_mem_cons.mpr ⟨lw_p32, List.forall_mem_cons.mpr ⟨lw_p33, List.forall_mem_cons.mpr ⟨lw_p34, List.forall_mem_cons.mpr ⟨lw_p35, List.forall_mem_cons.mpr ⟨lw_p36, List.forall_mem_cons.mpr ⟨lw_p37, fun _ h => absurd h List.not_mem_nil⟩⟩⟩⟩⟩⟩
def lw_privs : List (MethodName × Nat) := lw_privs_1 ++ (lw_privs_2 ++ (lw_privs_3))
def lw_tbl : List Cond := k2_sels lw_privs ++ tables_1
theorem lw_privs_ok : ∀ q ∈ lw_privs, lw_okq q := by
  show ∀ q ∈ lw_privs_1 ++ (lw_privs_2 ++ (lw_privs_3)), lw_okq q
  exact List.forall_mem_append.mpr ⟨lw_r1, List.forall_mem_append.mpr ⟨lw_r2, lw_r3⟩⟩
end
section
/-! words: those of the tables that a contract may carry -/
section WW
def WALL : List Cond := lw_tbl.filter goodWord
theorem WALL_good : ∀ w ∈ WALL, goodWord w = true := fun w h => (List.mem_filter.mp h).2
theorem WALL_in : ∀ w ∈ WALL, w ∈ lw_tbl := fun w h => (List.mem_filter.mp h).1
theorem wm1 (i : Nat) {w : Cond} (h : tables_1_1[i]? = some w) (hg : goodWord w = true) : w ∈ WALL := List.mem_filter.mpr ⟨List.mem_append_right _ (List.mem_append_left _ (List.mem_of_getElem? h)), hg⟩
theorem wm2 (i : Nat) {w : Cond} (h : tables_1_2[i]? = some w) (hg : goodWord w = true) : w ∈ WALL := List.mem_filter.mpr ⟨List.mem_append_right _ (List.mem_append_right _ (List.mem_append_left _ (List.mem_of_getElem? h))), hg⟩
theorem wm3 (i : Nat) {w : Cond} (h : tables_1_3[i]? = some w) (hg : goodWord w = true) : w ∈ WALL := List.mem_filter.mpr ⟨List.mem_append_right _ (List.mem_append_right _ (List.mem_append_right _ (List.mem_append_left _ (List.mem_of_getElem? h)))), hg⟩
theorem wm4 (i : Nat) {w : Cond} (h : tables_1_4[i]? = some w) (hg : goodWord w = true) : w ∈ WALL := List.mem_filter.mpr ⟨List.mem_append_right _ (List.mem_append_right _ (List.mem_append_right _ (List.mem_append_right _ (List.mem_of_getElem? h)))), hg⟩
theorem wmp1 (i : Nat) {y : MethodName} {n : Nat} (h : lw_privs_1[i]? = some (y, n)) : Cond.selects y.cls y y ∈ WALL := List.mem_filter.mpr ⟨List.mem_append_left _ (List.mem_map.mpr ⟨(y, n), List.mem_append_left _ (List.mem_of_getElem? h), rfl⟩), rfl⟩
theorem wmp2 (i : Nat) {y : MethodName} {n : Nat} (h : lw_privs_2[i]? = some (y, n)) : Cond.selects y.cls y y ∈ WALL := List.mem_filter.mpr ⟨List.mem_append_left _ (List.mem_map.mpr ⟨(y, n), List.mem_append_right _ (List.mem_append_left _ (List.mem_of_getElem? h)), rfl⟩), rfl⟩
theorem wmp3 (i : Nat) {y : MethodName} {n : Nat} (h : lw_privs_3[i]? = some (y, n)) : Cond.selects y.cls y y ∈ WALL := List.mem_filter.mpr ⟨List.mem_append_left _ (List.mem_map.mpr ⟨(y, n), List.mem_append_right _ (List.mem_append_right _ (List.mem_of_getElem? h)), rfl⟩), rfl⟩
end WW
def R_T : String := "TreeRevisions"
def R_Tr : String := "TreeRevisions$Tree"
def R_Tx : String := "TreeRevisions$Transaction"
def R_N : String := "TreeRevisions$Node"
def R_Te : String := "TreeRevisions$Text"
def R_Rp : String := "TreeRevisions$Representation"
def R_Me : String := "TreeRevisions$Merge"
def R_P : String := "TreeRevisions$Path"
def R_M : String := "TreeRevisionsModel"
def R_L : String := "TreeRevisionsLaw"
def R_AL : String := "java/util/ArrayList"
def R_ABL : String := "java/util/AbstractList"
def R_ABC : String := "java/util/AbstractCollection"
def R_Ob : String := "java/util/Objects"
def R_Ar : String := "java/util/Arrays"
def R_AS : String := "jdk/internal/util/ArraysSupport"
def R_Pc : String := "jdk/internal/util/Preconditions"
def R_Ma : String := "java/lang/Math"
def R_O : String := "java/lang/Object"
def R_Sy : String := "java/lang/System"
def T_T : u_T := fun k => match k with
  | 0 => ("TreeRevisions", "revisions", "[LTreeRevisions$Tree;", true)
  | 1 => ("TreeRevisions", "transactions", "[LTreeRevisions$Transaction;", true)
  | 2 => ("TreeRevisions", "kept", "Ljava/util/ArrayList;", true)
  | 3 => ("TreeRevisions", "empty", "LTreeRevisions$Text;", true)
  | 4 => ("TreeRevisions", "newest", "I", false)
  | _ => ("TreeRevisions", "lastLine", "I", false)
def ty_T : Nat → FieldType := fun k => match k with
  | 0 => .array (.object "TreeRevisions$Tree")
  | 1 => .array (.object "TreeRevisions$Transaction")
  | 2 => .object "java/util/ArrayList"
  | 3 => .object "TreeRevisions$Text"
  | 4 => .int
  | _ => .int
def T_Tr : u_T := fun k => match k with
  | _ => ("TreeRevisions$Tree", "nodes", "[LTreeRevisions$Node;", true)
def ty_Tr : Nat → FieldType := fun k => match k with
  | _ => .array (.object "TreeRevisions$Node")
def T_Tx : u_T := fun k => match k with
  | 0 => ("TreeRevisions$Transaction", "tree", "LTreeRevisions$Tree;", true)
  | 1 => ("TreeRevisions$Transaction", "open", "Z", false)
  | _ => ("TreeRevisions$Transaction", "base", "I", false)
def ty_Tx : Nat → FieldType := fun k => match k with
  | 0 => .object "TreeRevisions$Tree"
  | 1 => .boolean
  | _ => .int
def T_N : u_T := fun k => match k with
  | 0 => ("TreeRevisions$Node", "line", "I", true)
  | 1 => ("TreeRevisions$Node", "directory", "Z", true)
  | 2 => ("TreeRevisions$Node", "text", "LTreeRevisions$Text;", false)
  | 3 => ("TreeRevisions$Node", "count", "I", false)
  | 4 => ("TreeRevisions$Node", "creation", "I", false)
  | 5 => ("TreeRevisions$Node", "predecessor", "LTreeRevisions$Node;", false)
  | 6 => ("TreeRevisions$Node", "sourceRevision", "I", false)
  | 7 => ("TreeRevisions$Node", "sourcePath", "I", false)
  | 8 => ("TreeRevisions$Node", "written", "Z", false)
  | _ => ("TreeRevisions$Node", "shown", "I", false)
def ty_N : Nat → FieldType := fun k => match k with
  | 0 => .int
  | 1 => .boolean
  | 2 => .object "TreeRevisions$Text"
  | 3 => .int
  | 4 => .int
  | 5 => .object "TreeRevisions$Node"
  | 6 => .int
  | 7 => .int
  | 8 => .boolean
  | _ => .int
def T_Te : u_T := fun k => match k with
  | 0 => ("TreeRevisions$Text", "digits", "J", true)
  | _ => ("TreeRevisions$Text", "size", "I", true)
def ty_Te : Nat → FieldType := fun k => match k with
  | 0 => .long
  | _ => .int
def T_Rp : u_T := fun k => match k with
  | 0 => ("TreeRevisions$Representation", "text", "LTreeRevisions$Text;", true)
  | 1 => ("TreeRevisions$Representation", "base", "I", true)
  | 2 => ("TreeRevisions$Representation", "chain", "I", true)
  | _ => ("TreeRevisions$Representation", "cost", "I", true)
def ty_Rp : Nat → FieldType := fun k => match k with
  | 0 => .object "TreeRevisions$Text"
  | 1 => .int
  | 2 => .int
  | _ => .int
def T_Me : u_T := fun k => match k with
  | 0 => ("TreeRevisions$Merge", "base", "LTreeRevisions$Tree;", true)
  | 1 => ("TreeRevisions$Merge", "youngest", "LTreeRevisions$Tree;", true)
  | _ => ("TreeRevisions$Merge", "own", "LTreeRevisions$Tree;", true)
def ty_Me : Nat → FieldType := fun k => match k with
  | 0 => .object "TreeRevisions$Tree"
  | 1 => .object "TreeRevisions$Tree"
  | _ => .object "TreeRevisions$Tree"
def T_AL : u_T := fun k => match k with
  | 0 => ("java/util/AbstractList", "modCount", "I", false)
  | 1 => ("java/util/ArrayList", "elementData", "[Ljava/lang/Object;", false)
  | _ => ("java/util/ArrayList", "size", "I", false)
def ty_AL : Nat → FieldType := fun k => match k with
  | 0 => .int
  | 1 => .array (.object "java/lang/Object")
  | _ => .int
def T_M : u_T := fun k => match k with
  | 0 => ("TreeRevisionsModel", "tree", "[S", true)
  | 1 => ("TreeRevisionsModel", "youngest", "I", false)
  | 2 => ("TreeRevisionsModel", "open", "[Z", true)
  | 3 => ("TreeRevisionsModel", "base", "[I", true)
  | 4 => ("TreeRevisionsModel", "nodes", "I", false)
  | 5 => ("TreeRevisionsModel", "lines", "I", false)
  | 6 => ("TreeRevisionsModel", "kind", "[B", true)
  | 7 => ("TreeRevisionsModel", "size", "[B", true)
  | 8 => ("TreeRevisionsModel", "wrote", "[Z", true)
  | 9 => ("TreeRevisionsModel", "text", "[J", true)
  | 10 => ("TreeRevisionsModel", "line", "[S", true)
  | 11 => ("TreeRevisionsModel", "count", "[S", true)
  | 12 => ("TreeRevisionsModel", "birth", "[B", true)
  | 13 => ("TreeRevisionsModel", "before", "[S", true)
  | 14 => ("TreeRevisionsModel", "source", "[S", true)
  | 15 => ("TreeRevisionsModel", "shows", "[S", true)
  | 16 => ("TreeRevisionsModel", "stores", "I", false)
  | 17 => ("TreeRevisionsModel", "storeText", "[J", true)
  | 18 => ("TreeRevisionsModel", "storeSize", "[B", true)
  | 19 => ("TreeRevisionsModel", "storeBase", "[S", true)
  | _ => ("TreeRevisionsModel", "storeChain", "[B", true)
def ty_M : Nat → FieldType := fun k => match k with
  | 0 => .array .short
  | 1 => .int
  | 2 => .array .boolean
  | 3 => .array .int
  | 4 => .int
  | 5 => .int
  | 6 => .array .byte
  | 7 => .array .byte
  | 8 => .array .boolean
  | 9 => .array .long
  | 10 => .array .short
  | 11 => .array .short
  | 12 => .array .byte
  | 13 => .array .short
  | 14 => .array .short
  | 15 => .array .short
  | 16 => .int
  | 17 => .array .long
  | 18 => .array .byte
  | 19 => .array .short
  | _ => .array .byte
abbrev vwCl : List vw_C := [(R_T, T_T, 6), (R_Tr, T_Tr, 1), (R_Tx, T_Tx, 3), (R_N, T_N, 10), (R_Te, T_Te, 2), (R_Rp, T_Rp, 4), (R_Me, T_Me, 3), (R_AL, T_AL, 3), (R_M, T_M, 21)]
def y_T_init : MethodName := ⟨R_T, "<init>", "()V"⟩
theorem ar_T_init : y_T_init.cls ≠ "java/lang/invoke/MethodHandle" ∧ y_T_init.cls ≠ "java/lang/invoke/VarHandle" ∧ (parseMethodDescriptor y_T_init.desc).map (fun d => d.parameters.length) = some 0 := by decide +kernel
def y_T_begin : MethodName := ⟨R_T, "begin", "(I)Z"⟩
theorem ar_T_begin : y_T_begin.cls ≠ "java/lang/invoke/MethodHandle" ∧ y_T_begin.cls ≠ "java/lang/invoke/VarHandle" ∧ (parseMethodDescriptor y_T_begin.desc).map (fun d => d.parameters.length) = some 1 := by decide +kernel
def y_T_make : MethodName := ⟨R_T, "make", "(IIZ)Z"⟩
theorem ar_T_make : y_T_make.cls ≠ "java/lang/invoke/MethodHandle" ∧ y_T_make.cls ≠ "java/lang/invoke/VarHandle" ∧ (parseMethodDescriptor y_T_make.desc).map (fun d => d.parameters.length) = some 3 := by decide +kernel
def y_T_remove : MethodName := ⟨R_T, "remove", "(II)Z"⟩
theorem ar_T_remove : y_T_remove.cls ≠ "java/lang/invoke/MethodHandle" ∧ y_T_remove.cls ≠ "java/lang/invoke/VarHandle" ∧ (parseMethodDescriptor y_T_remove.desc).map (fun d => d.parameters.length) = some 2 := by decide +kernel
def y_T_copy : MethodName := ⟨R_T, "copy", "(IIII)Z"⟩
theorem ar_T_copy : y_T_copy.cls ≠ "java/lang/invoke/MethodHandle" ∧ y_T_copy.cls ≠ "java/lang/invoke/VarHandle" ∧ (parseMethodDescriptor y_T_copy.desc).map (fun d => d.parameters.length) = some 4 := by decide +kernel
def y_T_write : MethodName := ⟨R_T, "write", "(IIJI)Z"⟩
theorem ar_T_write : y_T_write.cls ≠ "java/lang/invoke/MethodHandle" ∧ y_T_write.cls ≠ "java/lang/invoke/VarHandle" ∧ (parseMethodDescriptor y_T_write.desc).map (fun d => d.parameters.length) = some 4 := by decide +kernel
def y_T_commit : MethodName := ⟨R_T, "commit", "(I)I"⟩
theorem ar_T_commit : y_T_commit.cls ≠ "java/lang/invoke/MethodHandle" ∧ y_T_commit.cls ≠ "java/lang/invoke/VarHandle" ∧ (parseMethodDescriptor y_T_commit.desc).map (fun d => d.parameters.length) = some 1 := by decide +kernel
def y_T_abort : MethodName := ⟨R_T, "abort", "(I)Z"⟩
theorem ar_T_abort : y_T_abort.cls ≠ "java/lang/invoke/MethodHandle" ∧ y_T_abort.cls ≠ "java/lang/invoke/VarHandle" ∧ (parseMethodDescriptor y_T_abort.desc).map (fun d => d.parameters.length) = some 1 := by decide +kernel
def y_T_youngest : MethodName := ⟨R_T, "youngest", "()I"⟩
theorem ar_T_youngest : y_T_youngest.cls ≠ "java/lang/invoke/MethodHandle" ∧ y_T_youngest.cls ≠ "java/lang/invoke/VarHandle" ∧ (parseMethodDescriptor y_T_youngest.desc).map (fun d => d.parameters.length) = some 0 := by decide +kernel
def y_T_kind : MethodName := ⟨R_T, "kind", "(II)I"⟩
theorem ar_T_kind : y_T_kind.cls ≠ "java/lang/invoke/MethodHandle" ∧ y_T_kind.cls ≠ "java/lang/invoke/VarHandle" ∧ (parseMethodDescriptor y_T_kind.desc).map (fun d => d.parameters.length) = some 2 := by decide +kernel
def y_T_text : MethodName := ⟨R_T, "text", "(II)J"⟩
theorem ar_T_text : y_T_text.cls ≠ "java/lang/invoke/MethodHandle" ∧ y_T_text.cls ≠ "java/lang/invoke/VarHandle" ∧ (parseMethodDescriptor y_T_text.desc).map (fun d => d.parameters.length) = some 2 := by decide +kernel
def y_T_length : MethodName := ⟨R_T, "length", "(II)I"⟩
theorem ar_T_length : y_T_length.cls ≠ "java/lang/invoke/MethodHandle" ∧ y_T_length.cls ≠ "java/lang/invoke/VarHandle" ∧ (parseMethodDescriptor y_T_length.desc).map (fun d => d.parameters.length) = some 2 := by decide +kernel
def y_T_line : MethodName := ⟨R_T, "line", "(II)I"⟩
theorem ar_T_line : y_T_line.cls ≠ "java/lang/invoke/MethodHandle" ∧ y_T_line.cls ≠ "java/lang/invoke/VarHandle" ∧ (parseMethodDescriptor y_T_line.desc).map (fun d => d.parameters.length) = some 2 := by decide +kernel
def y_T_count : MethodName := ⟨R_T, "count", "(II)I"⟩
theorem ar_T_count : y_T_count.cls ≠ "java/lang/invoke/MethodHandle" ∧ y_T_count.cls ≠ "java/lang/invoke/VarHandle" ∧ (parseMethodDescriptor y_T_count.desc).map (fun d => d.parameters.length) = some 2 := by decide +kernel
def y_T_created : MethodName := ⟨R_T, "created", "(II)I"⟩
theorem ar_T_created : y_T_created.cls ≠ "java/lang/invoke/MethodHandle" ∧ y_T_created.cls ≠ "java/lang/invoke/VarHandle" ∧ (parseMethodDescriptor y_T_created.desc).map (fun d => d.parameters.length) = some 2 := by decide +kernel
def y_T_locate : MethodName := ⟨R_T, "locate", "(III)I"⟩
theorem ar_T_locate : y_T_locate.cls ≠ "java/lang/invoke/MethodHandle" ∧ y_T_locate.cls ≠ "java/lang/invoke/VarHandle" ∧ (parseMethodDescriptor y_T_locate.desc).map (fun d => d.parameters.length) = some 3 := by decide +kernel
def y_T_representation : MethodName := ⟨R_T, "representation", "(II)I"⟩
theorem ar_T_representation : y_T_representation.cls ≠ "java/lang/invoke/MethodHandle" ∧ y_T_representation.cls ≠ "java/lang/invoke/VarHandle" ∧ (parseMethodDescriptor y_T_representation.desc).map (fun d => d.parameters.length) = some 2 := by decide +kernel
def y_T_representations : MethodName := ⟨R_T, "representations", "()I"⟩
theorem ar_T_representations : y_T_representations.cls ≠ "java/lang/invoke/MethodHandle" ∧ y_T_representations.cls ≠ "java/lang/invoke/VarHandle" ∧ (parseMethodDescriptor y_T_representations.desc).map (fun d => d.parameters.length) = some 0 := by decide +kernel
def y_T_stored : MethodName := ⟨R_T, "stored", "(II)I"⟩
theorem ar_T_stored : y_T_stored.cls ≠ "java/lang/invoke/MethodHandle" ∧ y_T_stored.cls ≠ "java/lang/invoke/VarHandle" ∧ (parseMethodDescriptor y_T_stored.desc).map (fun d => d.parameters.length) = some 2 := by decide +kernel
def y_T_newLine : MethodName := ⟨R_T, "newLine", "()I"⟩
theorem ar_T_newLine : y_T_newLine.cls ≠ "java/lang/invoke/MethodHandle" ∧ y_T_newLine.cls ≠ "java/lang/invoke/VarHandle" ∧ (parseMethodDescriptor y_T_newLine.desc).map (fun d => d.parameters.length) = some 0 := by decide +kernel
def y_T_isRevision : MethodName := ⟨R_T, "isRevision", "(I)Z"⟩
theorem ar_T_isRevision : y_T_isRevision.cls ≠ "java/lang/invoke/MethodHandle" ∧ y_T_isRevision.cls ≠ "java/lang/invoke/VarHandle" ∧ (parseMethodDescriptor y_T_isRevision.desc).map (fun d => d.parameters.length) = some 1 := by decide +kernel
def y_T_openTransaction : MethodName := ⟨R_T, "openTransaction", "(I)LTreeRevisions$Transaction;"⟩
theorem ar_T_openTransaction : y_T_openTransaction.cls ≠ "java/lang/invoke/MethodHandle" ∧ y_T_openTransaction.cls ≠ "java/lang/invoke/VarHandle" ∧ (parseMethodDescriptor y_T_openTransaction.desc).map (fun d => d.parameters.length) = some 1 := by decide +kernel
def y_T_treeOf : MethodName := ⟨R_T, "treeOf", "(I)LTreeRevisions$Tree;"⟩
theorem ar_T_treeOf : y_T_treeOf.cls ≠ "java/lang/invoke/MethodHandle" ∧ y_T_treeOf.cls ≠ "java/lang/invoke/VarHandle" ∧ (parseMethodDescriptor y_T_treeOf.desc).map (fun d => d.parameters.length) = some 1 := by decide +kernel
def y_T_nodeAt : MethodName := ⟨R_T, "nodeAt", "(II)LTreeRevisions$Node;"⟩
theorem ar_T_nodeAt : y_T_nodeAt.cls ≠ "java/lang/invoke/MethodHandle" ∧ y_T_nodeAt.cls ≠ "java/lang/invoke/VarHandle" ∧ (parseMethodDescriptor y_T_nodeAt.desc).map (fun d => d.parameters.length) = some 2 := by decide +kernel
def y_T_kindOf : MethodName := ⟨R_T, "kindOf", "(LTreeRevisions$Node;)I"⟩
theorem ar_T_kindOf : y_T_kindOf.cls ≠ "java/lang/invoke/MethodHandle" ∧ y_T_kindOf.cls ≠ "java/lang/invoke/VarHandle" ∧ (parseMethodDescriptor y_T_kindOf.desc).map (fun d => d.parameters.length) = some 1 := by decide +kernel
def y_T_isOnLine : MethodName := ⟨R_T, "isOnLine", "(IILTreeRevisions$Node;)Z"⟩
theorem ar_T_isOnLine : y_T_isOnLine.cls ≠ "java/lang/invoke/MethodHandle" ∧ y_T_isOnLine.cls ≠ "java/lang/invoke/VarHandle" ∧ (parseMethodDescriptor y_T_isOnLine.desc).map (fun d => d.parameters.length) = some 3 := by decide +kernel
def y_T_settle : MethodName := ⟨R_T, "settle", "(LTreeRevisions$Tree;)V"⟩
theorem ar_T_settle : y_T_settle.cls ≠ "java/lang/invoke/MethodHandle" ∧ y_T_settle.cls ≠ "java/lang/invoke/VarHandle" ∧ (parseMethodDescriptor y_T_settle.desc).map (fun d => d.parameters.length) = some 1 := by decide +kernel
def y_T_keep : MethodName := ⟨R_T, "keep", "(LTreeRevisions$Node;)I"⟩
theorem ar_T_keep : y_T_keep.cls ≠ "java/lang/invoke/MethodHandle" ∧ y_T_keep.cls ≠ "java/lang/invoke/VarHandle" ∧ (parseMethodDescriptor y_T_keep.desc).map (fun d => d.parameters.length) = some 1 := by decide +kernel
def y_T_indexOfText : MethodName := ⟨R_T, "indexOfText", "(LTreeRevisions$Text;)I"⟩
theorem ar_T_indexOfText : y_T_indexOfText.cls ≠ "java/lang/invoke/MethodHandle" ∧ y_T_indexOfText.cls ≠ "java/lang/invoke/VarHandle" ∧ (parseMethodDescriptor y_T_indexOfText.desc).map (fun d => d.parameters.length) = some 1 := by decide +kernel
def y_T_baseFor : MethodName := ⟨R_T, "baseFor", "(LTreeRevisions$Node;)I"⟩
theorem ar_T_baseFor : y_T_baseFor.cls ≠ "java/lang/invoke/MethodHandle" ∧ y_T_baseFor.cls ≠ "java/lang/invoke/VarHandle" ∧ (parseMethodDescriptor y_T_baseFor.desc).map (fun d => d.parameters.length) = some 1 := by decide +kernel
def y_T_allowedChain : MethodName := ⟨R_T, "allowedChain", "(I)I"⟩
theorem ar_T_allowedChain : y_T_allowedChain.cls ≠ "java/lang/invoke/MethodHandle" ∧ y_T_allowedChain.cls ≠ "java/lang/invoke/VarHandle" ∧ (parseMethodDescriptor y_T_allowedChain.desc).map (fun d => d.parameters.length) = some 1 := by decide +kernel
def y_M_init : MethodName := ⟨R_M, "<init>", "()V"⟩
theorem ar_M_init : y_M_init.cls ≠ "java/lang/invoke/MethodHandle" ∧ y_M_init.cls ≠ "java/lang/invoke/VarHandle" ∧ (parseMethodDescriptor y_M_init.desc).map (fun d => d.parameters.length) = some 0 := by decide +kernel
def y_M_unit : MethodName := ⟨R_M, "unit", "(I)I"⟩
theorem ar_M_unit : y_M_unit.cls ≠ "java/lang/invoke/MethodHandle" ∧ y_M_unit.cls ≠ "java/lang/invoke/VarHandle" ∧ (parseMethodDescriptor y_M_unit.desc).map (fun d => d.parameters.length) = some 1 := by decide +kernel
def y_M_good : MethodName := ⟨R_M, "good", "(I)Z"⟩
theorem ar_M_good : y_M_good.cls ≠ "java/lang/invoke/MethodHandle" ∧ y_M_good.cls ≠ "java/lang/invoke/VarHandle" ∧ (parseMethodDescriptor y_M_good.desc).map (fun d => d.parameters.length) = some 1 := by decide +kernel
def y_M_depth : MethodName := ⟨R_M, "depth", "(I)I"⟩
theorem ar_M_depth : y_M_depth.cls ≠ "java/lang/invoke/MethodHandle" ∧ y_M_depth.cls ≠ "java/lang/invoke/VarHandle" ∧ (parseMethodDescriptor y_M_depth.desc).map (fun d => d.parameters.length) = some 1 := by decide +kernel
def y_M_parent : MethodName := ⟨R_M, "parent", "(I)I"⟩
theorem ar_M_parent : y_M_parent.cls ≠ "java/lang/invoke/MethodHandle" ∧ y_M_parent.cls ≠ "java/lang/invoke/VarHandle" ∧ (parseMethodDescriptor y_M_parent.desc).map (fun d => d.parameters.length) = some 1 := by decide +kernel
def y_M_under : MethodName := ⟨R_M, "under", "(II)Z"⟩
theorem ar_M_under : y_M_under.cls ≠ "java/lang/invoke/MethodHandle" ∧ y_M_under.cls ≠ "java/lang/invoke/VarHandle" ∧ (parseMethodDescriptor y_M_under.desc).map (fun d => d.parameters.length) = some 2 := by decide +kernel
def y_M_table : MethodName := ⟨R_M, "table", "(I)I"⟩
theorem ar_M_table : y_M_table.cls ≠ "java/lang/invoke/MethodHandle" ∧ y_M_table.cls ≠ "java/lang/invoke/VarHandle" ∧ (parseMethodDescriptor y_M_table.desc).map (fun d => d.parameters.length) = some 1 := by decide +kernel
def y_M_at : MethodName := ⟨R_M, "at", "(II)I"⟩
theorem ar_M_at : y_M_at.cls ≠ "java/lang/invoke/MethodHandle" ∧ y_M_at.cls ≠ "java/lang/invoke/VarHandle" ∧ (parseMethodDescriptor y_M_at.desc).map (fun d => d.parameters.length) = some 2 := by decide +kernel
def y_M_isOpen : MethodName := ⟨R_M, "isOpen", "(I)Z"⟩
theorem ar_M_isOpen : y_M_isOpen.cls ≠ "java/lang/invoke/MethodHandle" ∧ y_M_isOpen.cls ≠ "java/lang/invoke/VarHandle" ∧ (parseMethodDescriptor y_M_isOpen.desc).map (fun d => d.parameters.length) = some 1 := by decide +kernel
def y_M_fill : MethodName := ⟨R_M, "fill", "(II)V"⟩
theorem ar_M_fill : y_M_fill.cls ≠ "java/lang/invoke/MethodHandle" ∧ y_M_fill.cls ≠ "java/lang/invoke/VarHandle" ∧ (parseMethodDescriptor y_M_fill.desc).map (fun d => d.parameters.length) = some 2 := by decide +kernel
def y_M_begin : MethodName := ⟨R_M, "begin", "(I)Z"⟩
theorem ar_M_begin : y_M_begin.cls ≠ "java/lang/invoke/MethodHandle" ∧ y_M_begin.cls ≠ "java/lang/invoke/VarHandle" ∧ (parseMethodDescriptor y_M_begin.desc).map (fun d => d.parameters.length) = some 1 := by decide +kernel
def y_M_node : MethodName := ⟨R_M, "node", "(III)I"⟩
theorem ar_M_node : y_M_node.cls ≠ "java/lang/invoke/MethodHandle" ∧ y_M_node.cls ≠ "java/lang/invoke/VarHandle" ∧ (parseMethodDescriptor y_M_node.desc).map (fun d => d.parameters.length) = some 3 := by decide +kernel
def y_M_place : MethodName := ⟨R_M, "place", "(III)V"⟩
theorem ar_M_place : y_M_place.cls ≠ "java/lang/invoke/MethodHandle" ∧ y_M_place.cls ≠ "java/lang/invoke/VarHandle" ∧ (parseMethodDescriptor y_M_place.desc).map (fun d => d.parameters.length) = some 3 := by decide +kernel
def y_M_touch : MethodName := ⟨R_M, "touch", "(II)V"⟩
theorem ar_M_touch : y_M_touch.cls ≠ "java/lang/invoke/MethodHandle" ∧ y_M_touch.cls ≠ "java/lang/invoke/VarHandle" ∧ (parseMethodDescriptor y_M_touch.desc).map (fun d => d.parameters.length) = some 2 := by decide +kernel
def y_M_room : MethodName := ⟨R_M, "room", "(II)Z"⟩
theorem ar_M_room : y_M_room.cls ≠ "java/lang/invoke/MethodHandle" ∧ y_M_room.cls ≠ "java/lang/invoke/VarHandle" ∧ (parseMethodDescriptor y_M_room.desc).map (fun d => d.parameters.length) = some 2 := by decide +kernel
def y_M_make : MethodName := ⟨R_M, "make", "(IIZ)Z"⟩
theorem ar_M_make : y_M_make.cls ≠ "java/lang/invoke/MethodHandle" ∧ y_M_make.cls ≠ "java/lang/invoke/VarHandle" ∧ (parseMethodDescriptor y_M_make.desc).map (fun d => d.parameters.length) = some 3 := by decide +kernel
def y_M_remove : MethodName := ⟨R_M, "remove", "(II)Z"⟩
theorem ar_M_remove : y_M_remove.cls ≠ "java/lang/invoke/MethodHandle" ∧ y_M_remove.cls ≠ "java/lang/invoke/VarHandle" ∧ (parseMethodDescriptor y_M_remove.desc).map (fun d => d.parameters.length) = some 2 := by decide +kernel
def y_M_moved : MethodName := ⟨R_M, "moved", "(III)I"⟩
theorem ar_M_moved : y_M_moved.cls ≠ "java/lang/invoke/MethodHandle" ∧ y_M_moved.cls ≠ "java/lang/invoke/VarHandle" ∧ (parseMethodDescriptor y_M_moved.desc).map (fun d => d.parameters.length) = some 3 := by decide +kernel
def y_M_copy : MethodName := ⟨R_M, "copy", "(IIII)Z"⟩
theorem ar_M_copy : y_M_copy.cls ≠ "java/lang/invoke/MethodHandle" ∧ y_M_copy.cls ≠ "java/lang/invoke/VarHandle" ∧ (parseMethodDescriptor y_M_copy.desc).map (fun d => d.parameters.length) = some 4 := by decide +kernel
def y_M_write : MethodName := ⟨R_M, "write", "(IIJI)Z"⟩
theorem ar_M_write : y_M_write.cls ≠ "java/lang/invoke/MethodHandle" ∧ y_M_write.cls ≠ "java/lang/invoke/VarHandle" ∧ (parseMethodDescriptor y_M_write.desc).map (fun d => d.parameters.length) = some 4 := by decide +kernel
def y_M_way : MethodName := ⟨R_M, "way", "(II)I"⟩
theorem ar_M_way : y_M_way.cls ≠ "java/lang/invoke/MethodHandle" ∧ y_M_way.cls ≠ "java/lang/invoke/VarHandle" ∧ (parseMethodDescriptor y_M_way.desc).map (fun d => d.parameters.length) = some 2 := by decide +kernel
def y_M_take : MethodName := ⟨R_M, "take", "(II)V"⟩
theorem ar_M_take : y_M_take.cls ≠ "java/lang/invoke/MethodHandle" ∧ y_M_take.cls ≠ "java/lang/invoke/VarHandle" ∧ (parseMethodDescriptor y_M_take.desc).map (fun d => d.parameters.length) = some 2 := by decide +kernel
def y_M_join : MethodName := ⟨R_M, "join", "(II)V"⟩
theorem ar_M_join : y_M_join.cls ≠ "java/lang/invoke/MethodHandle" ∧ y_M_join.cls ≠ "java/lang/invoke/VarHandle" ∧ (parseMethodDescriptor y_M_join.desc).map (fun d => d.parameters.length) = some 2 := by decide +kernel
def y_M_settle : MethodName := ⟨R_M, "settle", "(IIIZ)V"⟩
theorem ar_M_settle : y_M_settle.cls ≠ "java/lang/invoke/MethodHandle" ∧ y_M_settle.cls ≠ "java/lang/invoke/VarHandle" ∧ (parseMethodDescriptor y_M_settle.desc).map (fun d => d.parameters.length) = some 4 := by decide +kernel
def y_M_merge : MethodName := ⟨R_M, "merge", "(IZ)I"⟩
theorem ar_M_merge : y_M_merge.cls ≠ "java/lang/invoke/MethodHandle" ∧ y_M_merge.cls ≠ "java/lang/invoke/VarHandle" ∧ (parseMethodDescriptor y_M_merge.desc).map (fun d => d.parameters.length) = some 2 := by decide +kernel
def y_M_commit : MethodName := ⟨R_M, "commit", "(I)I"⟩
theorem ar_M_commit : y_M_commit.cls ≠ "java/lang/invoke/MethodHandle" ∧ y_M_commit.cls ≠ "java/lang/invoke/VarHandle" ∧ (parseMethodDescriptor y_M_commit.desc).map (fun d => d.parameters.length) = some 1 := by decide +kernel
def y_M_allowed : MethodName := ⟨R_M, "allowed", "(I)I"⟩
theorem ar_M_allowed : y_M_allowed.cls ≠ "java/lang/invoke/MethodHandle" ∧ y_M_allowed.cls ≠ "java/lang/invoke/VarHandle" ∧ (parseMethodDescriptor y_M_allowed.desc).map (fun d => d.parameters.length) = some 1 := by decide +kernel
def y_M_store : MethodName := ⟨R_M, "store", "(I)V"⟩
theorem ar_M_store : y_M_store.cls ≠ "java/lang/invoke/MethodHandle" ∧ y_M_store.cls ≠ "java/lang/invoke/VarHandle" ∧ (parseMethodDescriptor y_M_store.desc).map (fun d => d.parameters.length) = some 1 := by decide +kernel
def y_M_abort : MethodName := ⟨R_M, "abort", "(I)Z"⟩
theorem ar_M_abort : y_M_abort.cls ≠ "java/lang/invoke/MethodHandle" ∧ y_M_abort.cls ≠ "java/lang/invoke/VarHandle" ∧ (parseMethodDescriptor y_M_abort.desc).map (fun d => d.parameters.length) = some 1 := by decide +kernel
def y_M_youngest : MethodName := ⟨R_M, "youngest", "()I"⟩
theorem ar_M_youngest : y_M_youngest.cls ≠ "java/lang/invoke/MethodHandle" ∧ y_M_youngest.cls ≠ "java/lang/invoke/VarHandle" ∧ (parseMethodDescriptor y_M_youngest.desc).map (fun d => d.parameters.length) = some 0 := by decide +kernel
def y_M_find : MethodName := ⟨R_M, "find", "(II)I"⟩
theorem ar_M_find : y_M_find.cls ≠ "java/lang/invoke/MethodHandle" ∧ y_M_find.cls ≠ "java/lang/invoke/VarHandle" ∧ (parseMethodDescriptor y_M_find.desc).map (fun d => d.parameters.length) = some 2 := by decide +kernel
def y_M_kind : MethodName := ⟨R_M, "kind", "(II)I"⟩
theorem ar_M_kind : y_M_kind.cls ≠ "java/lang/invoke/MethodHandle" ∧ y_M_kind.cls ≠ "java/lang/invoke/VarHandle" ∧ (parseMethodDescriptor y_M_kind.desc).map (fun d => d.parameters.length) = some 2 := by decide +kernel
def y_M_isFile : MethodName := ⟨R_M, "isFile", "(I)Z"⟩
theorem ar_M_isFile : y_M_isFile.cls ≠ "java/lang/invoke/MethodHandle" ∧ y_M_isFile.cls ≠ "java/lang/invoke/VarHandle" ∧ (parseMethodDescriptor y_M_isFile.desc).map (fun d => d.parameters.length) = some 1 := by decide +kernel
def y_M_text : MethodName := ⟨R_M, "text", "(II)J"⟩
theorem ar_M_text : y_M_text.cls ≠ "java/lang/invoke/MethodHandle" ∧ y_M_text.cls ≠ "java/lang/invoke/VarHandle" ∧ (parseMethodDescriptor y_M_text.desc).map (fun d => d.parameters.length) = some 2 := by decide +kernel
def y_M_length : MethodName := ⟨R_M, "length", "(II)I"⟩
theorem ar_M_length : y_M_length.cls ≠ "java/lang/invoke/MethodHandle" ∧ y_M_length.cls ≠ "java/lang/invoke/VarHandle" ∧ (parseMethodDescriptor y_M_length.desc).map (fun d => d.parameters.length) = some 2 := by decide +kernel
def y_M_line : MethodName := ⟨R_M, "line", "(II)I"⟩
theorem ar_M_line : y_M_line.cls ≠ "java/lang/invoke/MethodHandle" ∧ y_M_line.cls ≠ "java/lang/invoke/VarHandle" ∧ (parseMethodDescriptor y_M_line.desc).map (fun d => d.parameters.length) = some 2 := by decide +kernel
def y_M_count : MethodName := ⟨R_M, "count", "(II)I"⟩
theorem ar_M_count : y_M_count.cls ≠ "java/lang/invoke/MethodHandle" ∧ y_M_count.cls ≠ "java/lang/invoke/VarHandle" ∧ (parseMethodDescriptor y_M_count.desc).map (fun d => d.parameters.length) = some 2 := by decide +kernel
def y_M_created : MethodName := ⟨R_M, "created", "(II)I"⟩
theorem ar_M_created : y_M_created.cls ≠ "java/lang/invoke/MethodHandle" ∧ y_M_created.cls ≠ "java/lang/invoke/VarHandle" ∧ (parseMethodDescriptor y_M_created.desc).map (fun d => d.parameters.length) = some 2 := by decide +kernel
def y_M_copied : MethodName := ⟨R_M, "copied", "(II)I"⟩
theorem ar_M_copied : y_M_copied.cls ≠ "java/lang/invoke/MethodHandle" ∧ y_M_copied.cls ≠ "java/lang/invoke/VarHandle" ∧ (parseMethodDescriptor y_M_copied.desc).map (fun d => d.parameters.length) = some 2 := by decide +kernel
def y_M_locate : MethodName := ⟨R_M, "locate", "(III)I"⟩
theorem ar_M_locate : y_M_locate.cls ≠ "java/lang/invoke/MethodHandle" ∧ y_M_locate.cls ≠ "java/lang/invoke/VarHandle" ∧ (parseMethodDescriptor y_M_locate.desc).map (fun d => d.parameters.length) = some 3 := by decide +kernel
def y_M_representation : MethodName := ⟨R_M, "representation", "(II)I"⟩
theorem ar_M_representation : y_M_representation.cls ≠ "java/lang/invoke/MethodHandle" ∧ y_M_representation.cls ≠ "java/lang/invoke/VarHandle" ∧ (parseMethodDescriptor y_M_representation.desc).map (fun d => d.parameters.length) = some 2 := by decide +kernel
def y_M_representations : MethodName := ⟨R_M, "representations", "()I"⟩
theorem ar_M_representations : y_M_representations.cls ≠ "java/lang/invoke/MethodHandle" ∧ y_M_representations.cls ≠ "java/lang/invoke/VarHandle" ∧ (parseMethodDescriptor y_M_representations.desc).map (fun d => d.parameters.length) = some 0 := by decide +kernel
def y_M_digit : MethodName := ⟨R_M, "digit", "(JI)I"⟩
theorem ar_M_digit : y_M_digit.cls ≠ "java/lang/invoke/MethodHandle" ∧ y_M_digit.cls ≠ "java/lang/invoke/VarHandle" ∧ (parseMethodDescriptor y_M_digit.desc).map (fun d => d.parameters.length) = some 2 := by decide +kernel
def y_M_piece : MethodName := ⟨R_M, "piece", "(JIIJII)I"⟩
theorem ar_M_piece : y_M_piece.cls ≠ "java/lang/invoke/MethodHandle" ∧ y_M_piece.cls ≠ "java/lang/invoke/VarHandle" ∧ (parseMethodDescriptor y_M_piece.desc).map (fun d => d.parameters.length) = some 6 := by decide +kernel
def y_M_cost : MethodName := ⟨R_M, "cost", "(I)I"⟩
theorem ar_M_cost : y_M_cost.cls ≠ "java/lang/invoke/MethodHandle" ∧ y_M_cost.cls ≠ "java/lang/invoke/VarHandle" ∧ (parseMethodDescriptor y_M_cost.desc).map (fun d => d.parameters.length) = some 1 := by decide +kernel
def y_M_stored : MethodName := ⟨R_M, "stored", "(II)I"⟩
theorem ar_M_stored : y_M_stored.cls ≠ "java/lang/invoke/MethodHandle" ∧ y_M_stored.cls ≠ "java/lang/invoke/VarHandle" ∧ (parseMethodDescriptor y_M_stored.desc).map (fun d => d.parameters.length) = some 2 := by decide +kernel
def y_Me_init : MethodName := ⟨R_Me, "<init>", "(LTreeRevisions$Tree;LTreeRevisions$Tree;LTreeRevisions$Tree;)V"⟩
theorem ar_Me_init : y_Me_init.cls ≠ "java/lang/invoke/MethodHandle" ∧ y_Me_init.cls ≠ "java/lang/invoke/VarHandle" ∧ (parseMethodDescriptor y_Me_init.desc).map (fun d => d.parameters.length) = some 3 := by decide +kernel
def y_Me_conflictAt : MethodName := ⟨R_Me, "conflictAt", "(I)I"⟩
theorem ar_Me_conflictAt : y_Me_conflictAt.cls ≠ "java/lang/invoke/MethodHandle" ∧ y_Me_conflictAt.cls ≠ "java/lang/invoke/VarHandle" ∧ (parseMethodDescriptor y_Me_conflictAt.desc).map (fun d => d.parameters.length) = some 1 := by decide +kernel
def y_Me_mergeAt : MethodName := ⟨R_Me, "mergeAt", "(I)V"⟩
theorem ar_Me_mergeAt : y_Me_mergeAt.cls ≠ "java/lang/invoke/MethodHandle" ∧ y_Me_mergeAt.cls ≠ "java/lang/invoke/VarHandle" ∧ (parseMethodDescriptor y_Me_mergeAt.desc).map (fun d => d.parameters.length) = some 1 := by decide +kernel
def y_Me_isUnchangedIn : MethodName := ⟨R_Me, "isUnchangedIn", "(LTreeRevisions$Tree;I)Z"⟩
theorem ar_Me_isUnchangedIn : y_Me_isUnchangedIn.cls ≠ "java/lang/invoke/MethodHandle" ∧ y_Me_isUnchangedIn.cls ≠ "java/lang/invoke/VarHandle" ∧ (parseMethodDescriptor y_Me_isUnchangedIn.desc).map (fun d => d.parameters.length) = some 2 := by decide +kernel
def y_Me_isOneDirectory : MethodName := ⟨R_Me, "isOneDirectory", "(I)Z"⟩
theorem ar_Me_isOneDirectory : y_Me_isOneDirectory.cls ≠ "java/lang/invoke/MethodHandle" ∧ y_Me_isOneDirectory.cls ≠ "java/lang/invoke/VarHandle" ∧ (parseMethodDescriptor y_Me_isOneDirectory.desc).map (fun d => d.parameters.length) = some 1 := by decide +kernel
def y_N_init : MethodName := ⟨R_N, "<init>", "(IZLTreeRevisions$Text;)V"⟩
theorem ar_N_init : y_N_init.cls ≠ "java/lang/invoke/MethodHandle" ∧ y_N_init.cls ≠ "java/lang/invoke/VarHandle" ∧ (parseMethodDescriptor y_N_init.desc).map (fun d => d.parameters.length) = some 3 := by decide +kernel
def y_N_after : MethodName := ⟨R_N, "after", "(LTreeRevisions$Node;I)LTreeRevisions$Node;"⟩
theorem ar_N_after : y_N_after.cls ≠ "java/lang/invoke/MethodHandle" ∧ y_N_after.cls ≠ "java/lang/invoke/VarHandle" ∧ (parseMethodDescriptor y_N_after.desc).map (fun d => d.parameters.length) = some 2 := by decide +kernel
def y_N_follow : MethodName := ⟨R_N, "follow", "(LTreeRevisions$Node;)V"⟩
theorem ar_N_follow : y_N_follow.cls ≠ "java/lang/invoke/MethodHandle" ∧ y_N_follow.cls ≠ "java/lang/invoke/VarHandle" ∧ (parseMethodDescriptor y_N_follow.desc).map (fun d => d.parameters.length) = some 1 := by decide +kernel
def y_N_ancestor : MethodName := ⟨R_N, "ancestor", "(I)LTreeRevisions$Node;"⟩
theorem ar_N_ancestor : y_N_ancestor.cls ≠ "java/lang/invoke/MethodHandle" ∧ y_N_ancestor.cls ≠ "java/lang/invoke/VarHandle" ∧ (parseMethodDescriptor y_N_ancestor.desc).map (fun d => d.parameters.length) = some 1 := by decide +kernel
def y_P_isGood : MethodName := ⟨R_P, "isGood", "(I)Z"⟩
theorem ar_P_isGood : y_P_isGood.cls ≠ "java/lang/invoke/MethodHandle" ∧ y_P_isGood.cls ≠ "java/lang/invoke/VarHandle" ∧ (parseMethodDescriptor y_P_isGood.desc).map (fun d => d.parameters.length) = some 1 := by decide +kernel
def y_P_depthOf : MethodName := ⟨R_P, "depthOf", "(I)I"⟩
theorem ar_P_depthOf : y_P_depthOf.cls ≠ "java/lang/invoke/MethodHandle" ∧ y_P_depthOf.cls ≠ "java/lang/invoke/VarHandle" ∧ (parseMethodDescriptor y_P_depthOf.desc).map (fun d => d.parameters.length) = some 1 := by decide +kernel
def y_P_weightAt : MethodName := ⟨R_P, "weightAt", "(I)I"⟩
theorem ar_P_weightAt : y_P_weightAt.cls ≠ "java/lang/invoke/MethodHandle" ∧ y_P_weightAt.cls ≠ "java/lang/invoke/VarHandle" ∧ (parseMethodDescriptor y_P_weightAt.desc).map (fun d => d.parameters.length) = some 1 := by decide +kernel
def y_P_parentOf : MethodName := ⟨R_P, "parentOf", "(I)I"⟩
theorem ar_P_parentOf : y_P_parentOf.cls ≠ "java/lang/invoke/MethodHandle" ∧ y_P_parentOf.cls ≠ "java/lang/invoke/VarHandle" ∧ (parseMethodDescriptor y_P_parentOf.desc).map (fun d => d.parameters.length) = some 1 := by decide +kernel
def y_P_namesBelow : MethodName := ⟨R_P, "namesBelow", "(I)I"⟩
theorem ar_P_namesBelow : y_P_namesBelow.cls ≠ "java/lang/invoke/MethodHandle" ∧ y_P_namesBelow.cls ≠ "java/lang/invoke/VarHandle" ∧ (parseMethodDescriptor y_P_namesBelow.desc).map (fun d => d.parameters.length) = some 1 := by decide +kernel
def y_P_childOf : MethodName := ⟨R_P, "childOf", "(II)I"⟩
theorem ar_P_childOf : y_P_childOf.cls ≠ "java/lang/invoke/MethodHandle" ∧ y_P_childOf.cls ≠ "java/lang/invoke/VarHandle" ∧ (parseMethodDescriptor y_P_childOf.desc).map (fun d => d.parameters.length) = some 2 := by decide +kernel
def y_P_isAtOrBelow : MethodName := ⟨R_P, "isAtOrBelow", "(II)Z"⟩
theorem ar_P_isAtOrBelow : y_P_isAtOrBelow.cls ≠ "java/lang/invoke/MethodHandle" ∧ y_P_isAtOrBelow.cls ≠ "java/lang/invoke/VarHandle" ∧ (parseMethodDescriptor y_P_isAtOrBelow.desc).map (fun d => d.parameters.length) = some 2 := by decide +kernel
def y_P_moved : MethodName := ⟨R_P, "moved", "(III)I"⟩
theorem ar_P_moved : y_P_moved.cls ≠ "java/lang/invoke/MethodHandle" ∧ y_P_moved.cls ≠ "java/lang/invoke/VarHandle" ∧ (parseMethodDescriptor y_P_moved.desc).map (fun d => d.parameters.length) = some 3 := by decide +kernel
def y_Rp_init : MethodName := ⟨R_Rp, "<init>", "(LTreeRevisions$Text;III)V"⟩
theorem ar_Rp_init : y_Rp_init.cls ≠ "java/lang/invoke/MethodHandle" ∧ y_Rp_init.cls ≠ "java/lang/invoke/VarHandle" ∧ (parseMethodDescriptor y_Rp_init.desc).map (fun d => d.parameters.length) = some 4 := by decide +kernel
def y_Te_init : MethodName := ⟨R_Te, "<init>", "(JI)V"⟩
theorem ar_Te_init : y_Te_init.cls ≠ "java/lang/invoke/MethodHandle" ∧ y_Te_init.cls ≠ "java/lang/invoke/VarHandle" ∧ (parseMethodDescriptor y_Te_init.desc).map (fun d => d.parameters.length) = some 2 := by decide +kernel
def y_Te_isSameAs : MethodName := ⟨R_Te, "isSameAs", "(LTreeRevisions$Text;)Z"⟩
theorem ar_Te_isSameAs : y_Te_isSameAs.cls ≠ "java/lang/invoke/MethodHandle" ∧ y_Te_isSameAs.cls ≠ "java/lang/invoke/VarHandle" ∧ (parseMethodDescriptor y_Te_isSameAs.desc).map (fun d => d.parameters.length) = some 1 := by decide +kernel
def y_Te_digitAt : MethodName := ⟨R_Te, "digitAt", "(I)I"⟩
theorem ar_Te_digitAt : y_Te_digitAt.cls ≠ "java/lang/invoke/MethodHandle" ∧ y_Te_digitAt.cls ≠ "java/lang/invoke/VarHandle" ∧ (parseMethodDescriptor y_Te_digitAt.desc).map (fun d => d.parameters.length) = some 1 := by decide +kernel
def y_Te_costFrom : MethodName := ⟨R_Te, "costFrom", "(LTreeRevisions$Text;)I"⟩
theorem ar_Te_costFrom : y_Te_costFrom.cls ≠ "java/lang/invoke/MethodHandle" ∧ y_Te_costFrom.cls ≠ "java/lang/invoke/VarHandle" ∧ (parseMethodDescriptor y_Te_costFrom.desc).map (fun d => d.parameters.length) = some 1 := by decide +kernel
def y_Te_longestPiece : MethodName := ⟨R_Te, "longestPiece", "(ILTreeRevisions$Text;)I"⟩
theorem ar_Te_longestPiece : y_Te_longestPiece.cls ≠ "java/lang/invoke/MethodHandle" ∧ y_Te_longestPiece.cls ≠ "java/lang/invoke/VarHandle" ∧ (parseMethodDescriptor y_Te_longestPiece.desc).map (fun d => d.parameters.length) = some 2 := by decide +kernel
def y_Te_commonFrom : MethodName := ⟨R_Te, "commonFrom", "(ILTreeRevisions$Text;I)I"⟩
theorem ar_Te_commonFrom : y_Te_commonFrom.cls ≠ "java/lang/invoke/MethodHandle" ∧ y_Te_commonFrom.cls ≠ "java/lang/invoke/VarHandle" ∧ (parseMethodDescriptor y_Te_commonFrom.desc).map (fun d => d.parameters.length) = some 3 := by decide +kernel
def y_Tx_init : MethodName := ⟨R_Tx, "<init>", "()V"⟩
theorem ar_Tx_init : y_Tx_init.cls ≠ "java/lang/invoke/MethodHandle" ∧ y_Tx_init.cls ≠ "java/lang/invoke/VarHandle" ∧ (parseMethodDescriptor y_Tx_init.desc).map (fun d => d.parameters.length) = some 0 := by decide +kernel
def y_Tx_hasRoomAt : MethodName := ⟨R_Tx, "hasRoomAt", "(I)Z"⟩
theorem ar_Tx_hasRoomAt : y_Tx_hasRoomAt.cls ≠ "java/lang/invoke/MethodHandle" ∧ y_Tx_hasRoomAt.cls ≠ "java/lang/invoke/VarHandle" ∧ (parseMethodDescriptor y_Tx_hasRoomAt.desc).map (fun d => d.parameters.length) = some 1 := by decide +kernel
def y_Tx_add : MethodName := ⟨R_Tx, "add", "(ILTreeRevisions$Node;)V"⟩
theorem ar_Tx_add : y_Tx_add.cls ≠ "java/lang/invoke/MethodHandle" ∧ y_Tx_add.cls ≠ "java/lang/invoke/VarHandle" ∧ (parseMethodDescriptor y_Tx_add.desc).map (fun d => d.parameters.length) = some 2 := by decide +kernel
def y_Tx_overwrite : MethodName := ⟨R_Tx, "overwrite", "(ILTreeRevisions$Text;)V"⟩
theorem ar_Tx_overwrite : y_Tx_overwrite.cls ≠ "java/lang/invoke/MethodHandle" ∧ y_Tx_overwrite.cls ≠ "java/lang/invoke/VarHandle" ∧ (parseMethodDescriptor y_Tx_overwrite.desc).map (fun d => d.parameters.length) = some 2 := by decide +kernel
def y_Tx_touch : MethodName := ⟨R_Tx, "touch", "(I)V"⟩
theorem ar_Tx_touch : y_Tx_touch.cls ≠ "java/lang/invoke/MethodHandle" ∧ y_Tx_touch.cls ≠ "java/lang/invoke/VarHandle" ∧ (parseMethodDescriptor y_Tx_touch.desc).map (fun d => d.parameters.length) = some 1 := by decide +kernel
def y_Tr_init : MethodName := ⟨R_Tr, "<init>", "()V"⟩
theorem ar_Tr_init : y_Tr_init.cls ≠ "java/lang/invoke/MethodHandle" ∧ y_Tr_init.cls ≠ "java/lang/invoke/VarHandle" ∧ (parseMethodDescriptor y_Tr_init.desc).map (fun d => d.parameters.length) = some 0 := by decide +kernel
def y_Tr_at : MethodName := ⟨R_Tr, "at", "(I)LTreeRevisions$Node;"⟩
theorem ar_Tr_at : y_Tr_at.cls ≠ "java/lang/invoke/MethodHandle" ∧ y_Tr_at.cls ≠ "java/lang/invoke/VarHandle" ∧ (parseMethodDescriptor y_Tr_at.desc).map (fun d => d.parameters.length) = some 1 := by decide +kernel
def y_Tr_put : MethodName := ⟨R_Tr, "put", "(ILTreeRevisions$Node;)V"⟩
theorem ar_Tr_put : y_Tr_put.cls ≠ "java/lang/invoke/MethodHandle" ∧ y_Tr_put.cls ≠ "java/lang/invoke/VarHandle" ∧ (parseMethodDescriptor y_Tr_put.desc).map (fun d => d.parameters.length) = some 2 := by decide +kernel
def y_Tr_clear : MethodName := ⟨R_Tr, "clear", "(I)V"⟩
theorem ar_Tr_clear : y_Tr_clear.cls ≠ "java/lang/invoke/MethodHandle" ∧ y_Tr_clear.cls ≠ "java/lang/invoke/VarHandle" ∧ (parseMethodDescriptor y_Tr_clear.desc).map (fun d => d.parameters.length) = some 1 := by decide +kernel
def y_Tr_takeFrom : MethodName := ⟨R_Tr, "takeFrom", "(LTreeRevisions$Tree;I)V"⟩
theorem ar_Tr_takeFrom : y_Tr_takeFrom.cls ≠ "java/lang/invoke/MethodHandle" ∧ y_Tr_takeFrom.cls ≠ "java/lang/invoke/VarHandle" ∧ (parseMethodDescriptor y_Tr_takeFrom.desc).map (fun d => d.parameters.length) = some 2 := by decide +kernel
def y_Tr_graft : MethodName := ⟨R_Tr, "graft", "(LTreeRevisions$Tree;II)V"⟩
theorem ar_Tr_graft : y_Tr_graft.cls ≠ "java/lang/invoke/MethodHandle" ∧ y_Tr_graft.cls ≠ "java/lang/invoke/VarHandle" ∧ (parseMethodDescriptor y_Tr_graft.desc).map (fun d => d.parameters.length) = some 3 := by decide +kernel
def y_Tr_heightOf : MethodName := ⟨R_Tr, "heightOf", "(I)I"⟩
theorem ar_Tr_heightOf : y_Tr_heightOf.cls ≠ "java/lang/invoke/MethodHandle" ∧ y_Tr_heightOf.cls ≠ "java/lang/invoke/VarHandle" ∧ (parseMethodDescriptor y_Tr_heightOf.desc).map (fun d => d.parameters.length) = some 1 := by decide +kernel
def y_Tr_copyAbove : MethodName := ⟨R_Tr, "copyAbove", "(II)I"⟩
theorem ar_Tr_copyAbove : y_Tr_copyAbove.cls ≠ "java/lang/invoke/MethodHandle" ∧ y_Tr_copyAbove.cls ≠ "java/lang/invoke/VarHandle" ∧ (parseMethodDescriptor y_Tr_copyAbove.desc).map (fun d => d.parameters.length) = some 2 := by decide +kernel
def y_O_init : MethodName := ⟨R_O, "<init>", "()V"⟩
theorem ar_O_init : y_O_init.cls ≠ "java/lang/invoke/MethodHandle" ∧ y_O_init.cls ≠ "java/lang/invoke/VarHandle" ∧ (parseMethodDescriptor y_O_init.desc).map (fun d => d.parameters.length) = some 0 := by decide +kernel
def y_AL_init : MethodName := ⟨R_AL, "<init>", "()V"⟩
theorem ar_AL_init : y_AL_init.cls ≠ "java/lang/invoke/MethodHandle" ∧ y_AL_init.cls ≠ "java/lang/invoke/VarHandle" ∧ (parseMethodDescriptor y_AL_init.desc).map (fun d => d.parameters.length) = some 0 := by decide +kernel
def y_ABL_init : MethodName := ⟨R_ABL, "<init>", "()V"⟩
theorem ar_ABL_init : y_ABL_init.cls ≠ "java/lang/invoke/MethodHandle" ∧ y_ABL_init.cls ≠ "java/lang/invoke/VarHandle" ∧ (parseMethodDescriptor y_ABL_init.desc).map (fun d => d.parameters.length) = some 0 := by decide +kernel
def y_ABC_init : MethodName := ⟨R_ABC, "<init>", "()V"⟩
theorem ar_ABC_init : y_ABC_init.cls ≠ "java/lang/invoke/MethodHandle" ∧ y_ABC_init.cls ≠ "java/lang/invoke/VarHandle" ∧ (parseMethodDescriptor y_ABC_init.desc).map (fun d => d.parameters.length) = some 0 := by decide +kernel
def y_Ma_max : MethodName := ⟨R_Ma, "max", "(II)I"⟩
theorem ar_Ma_max : y_Ma_max.cls ≠ "java/lang/invoke/MethodHandle" ∧ y_Ma_max.cls ≠ "java/lang/invoke/VarHandle" ∧ (parseMethodDescriptor y_Ma_max.desc).map (fun d => d.parameters.length) = some 2 := by decide +kernel
def y_AL_size : MethodName := ⟨R_AL, "size", "()I"⟩
theorem ar_AL_size : y_AL_size.cls ≠ "java/lang/invoke/MethodHandle" ∧ y_AL_size.cls ≠ "java/lang/invoke/VarHandle" ∧ (parseMethodDescriptor y_AL_size.desc).map (fun d => d.parameters.length) = some 0 := by decide +kernel
def y_AL_get : MethodName := ⟨R_AL, "get", "(I)Ljava/lang/Object;"⟩
theorem ar_AL_get : y_AL_get.cls ≠ "java/lang/invoke/MethodHandle" ∧ y_AL_get.cls ≠ "java/lang/invoke/VarHandle" ∧ (parseMethodDescriptor y_AL_get.desc).map (fun d => d.parameters.length) = some 1 := by decide +kernel
def y_Ob_checkIndex : MethodName := ⟨R_Ob, "checkIndex", "(II)I"⟩
theorem ar_Ob_checkIndex : y_Ob_checkIndex.cls ≠ "java/lang/invoke/MethodHandle" ∧ y_Ob_checkIndex.cls ≠ "java/lang/invoke/VarHandle" ∧ (parseMethodDescriptor y_Ob_checkIndex.desc).map (fun d => d.parameters.length) = some 2 := by decide +kernel
def y_Pc_checkIndex : MethodName := ⟨R_Pc, "checkIndex", "(IILjava/util/function/BiFunction;)I"⟩
theorem ar_Pc_checkIndex : y_Pc_checkIndex.cls ≠ "java/lang/invoke/MethodHandle" ∧ y_Pc_checkIndex.cls ≠ "java/lang/invoke/VarHandle" ∧ (parseMethodDescriptor y_Pc_checkIndex.desc).map (fun d => d.parameters.length) = some 3 := by decide +kernel
def y_AL_elementData : MethodName := ⟨R_AL, "elementData", "(I)Ljava/lang/Object;"⟩
theorem ar_AL_elementData : y_AL_elementData.cls ≠ "java/lang/invoke/MethodHandle" ∧ y_AL_elementData.cls ≠ "java/lang/invoke/VarHandle" ∧ (parseMethodDescriptor y_AL_elementData.desc).map (fun d => d.parameters.length) = some 1 := by decide +kernel
def y_AL_add : MethodName := ⟨R_AL, "add", "(Ljava/lang/Object;)Z"⟩
theorem ar_AL_add : y_AL_add.cls ≠ "java/lang/invoke/MethodHandle" ∧ y_AL_add.cls ≠ "java/lang/invoke/VarHandle" ∧ (parseMethodDescriptor y_AL_add.desc).map (fun d => d.parameters.length) = some 1 := by decide +kernel
def y_AL_add2 : MethodName := ⟨R_AL, "add", "(Ljava/lang/Object;[Ljava/lang/Object;I)V"⟩
theorem ar_AL_add2 : y_AL_add2.cls ≠ "java/lang/invoke/MethodHandle" ∧ y_AL_add2.cls ≠ "java/lang/invoke/VarHandle" ∧ (parseMethodDescriptor y_AL_add2.desc).map (fun d => d.parameters.length) = some 3 := by decide +kernel
def y_AL_grow : MethodName := ⟨R_AL, "grow", "()[Ljava/lang/Object;"⟩
theorem ar_AL_grow : y_AL_grow.cls ≠ "java/lang/invoke/MethodHandle" ∧ y_AL_grow.cls ≠ "java/lang/invoke/VarHandle" ∧ (parseMethodDescriptor y_AL_grow.desc).map (fun d => d.parameters.length) = some 0 := by decide +kernel
def y_AL_grow2 : MethodName := ⟨R_AL, "grow", "(I)[Ljava/lang/Object;"⟩
theorem ar_AL_grow2 : y_AL_grow2.cls ≠ "java/lang/invoke/MethodHandle" ∧ y_AL_grow2.cls ≠ "java/lang/invoke/VarHandle" ∧ (parseMethodDescriptor y_AL_grow2.desc).map (fun d => d.parameters.length) = some 1 := by decide +kernel
def y_AS_newLength : MethodName := ⟨R_AS, "newLength", "(III)I"⟩
theorem ar_AS_newLength : y_AS_newLength.cls ≠ "java/lang/invoke/MethodHandle" ∧ y_AS_newLength.cls ≠ "java/lang/invoke/VarHandle" ∧ (parseMethodDescriptor y_AS_newLength.desc).map (fun d => d.parameters.length) = some 3 := by decide +kernel
def y_AS_hugeLength : MethodName := ⟨R_AS, "hugeLength", "(II)I"⟩
theorem ar_AS_hugeLength : y_AS_hugeLength.cls ≠ "java/lang/invoke/MethodHandle" ∧ y_AS_hugeLength.cls ≠ "java/lang/invoke/VarHandle" ∧ (parseMethodDescriptor y_AS_hugeLength.desc).map (fun d => d.parameters.length) = some 2 := by decide +kernel
def y_Ar_copyOf : MethodName := ⟨R_Ar, "copyOf", "([Ljava/lang/Object;I)[Ljava/lang/Object;"⟩
theorem ar_Ar_copyOf : y_Ar_copyOf.cls ≠ "java/lang/invoke/MethodHandle" ∧ y_Ar_copyOf.cls ≠ "java/lang/invoke/VarHandle" ∧ (parseMethodDescriptor y_Ar_copyOf.desc).map (fun d => d.parameters.length) = some 2 := by decide +kernel
def y_Ar_copyOf2 : MethodName := ⟨R_Ar, "copyOf", "([Ljava/lang/Object;ILjava/lang/Class;)[Ljava/lang/Object;"⟩
theorem ar_Ar_copyOf2 : y_Ar_copyOf2.cls ≠ "java/lang/invoke/MethodHandle" ∧ y_Ar_copyOf2.cls ≠ "java/lang/invoke/VarHandle" ∧ (parseMethodDescriptor y_Ar_copyOf2.desc).map (fun d => d.parameters.length) = some 3 := by decide +kernel
def y_Ma_min : MethodName := ⟨R_Ma, "min", "(II)I"⟩
theorem ar_Ma_min : y_Ma_min.cls ≠ "java/lang/invoke/MethodHandle" ∧ y_Ma_min.cls ≠ "java/lang/invoke/VarHandle" ∧ (parseMethodDescriptor y_Ma_min.desc).map (fun d => d.parameters.length) = some 2 := by decide +kernel
end
section
/-! The world as a map: address to cell. A contract speaks of one map M before and one map M' behind; what M doesn't name is unchanged. -/
section MP
abbrev mp_M : Type := Nat → Option va_E
def mp_up (M : mp_M) (a : Nat) (e : va_E) : mp_M := fun j => if j = a then some e else M j
theorem mp_up_s {M : mp_M} {a : Nat} {e : va_E} : mp_up M a e a = some e := by simp [mp_up]
theorem mp_up_n {M : mp_M} {a b : Nat} {e : va_E} (h : b ≠ a) : mp_up M a e b = M b := by simp [mp_up, h]
def mp_ok (D : va_G) (cl : List vw_C) (M : mp_M) (H : Heap) : Prop := ∀ a e, M a = some e → va_at D cl (a, e) H
def mp_en (M : mp_M) (n : Nat) : va_W := (List.range n).filterMap (fun a => (M a).map (fun e => (a, e)))
theorem mp_mem {M : mp_M} {n a : Nat} {e : va_E} : (a, e) ∈ mp_en M n ↔ a < n ∧ M a = some e := by
  simp only [mp_en, List.mem_filterMap, List.mem_range, Option.map_eq_some_iff, Prod.mk.injEq]
  constructor
  · rintro ⟨b, hb, e', h1, rfl, rfl⟩
    exact ⟨hb, h1⟩
  · rintro ⟨h1, h2⟩
    exact ⟨a, h1, e, h2, rfl, rfl⟩
variable {D : va_G} {cl : List vw_C} {M : mp_M} {H H1 H0 : Heap} {A : Nat → Prop} {locs : List Loc}
theorem mp_lt {a : Nat} {e : va_E} (h : mp_ok D cl M H) (ha : M a = some e) : a < H.size := (h a e ha).lt
theorem mp_ltn {a : Nat} (h : mp_ok D cl M H) (ha : M a ≠ none) : a < H.size := by
  cases hm : M a with
  | none => exact absurd hm ha
  | some e => exact mp_lt h hm
theorem mp_fresh (h : mp_ok D cl M H) {a : Nat} (ha : H.size ≤ a) : M a = none := by
  cases hm : M a with
  | none => rfl
  | some e => exact absurd (mp_lt h hm) (by omega)
theorem mp_P (h : mp_ok D cl M H) (n : Nat) : va_P D cl (mp_en M n) H := fun k q hk => by
  obtain ⟨a, e⟩ := q
  exact h a e (mp_mem.mp (List.mem_of_getElem? hk)).2
theorem mp_pw (M : mp_M) (n : Nat) : (mp_en M n).Pairwise (fun p q => p.1 < q.1) := by
  unfold mp_en
  rw [List.pairwise_filterMap]
  refine List.Pairwise.imp ?_ List.pairwise_lt_range
  intro a b hab x hx y hy
  obtain ⟨e1, -, rfl⟩ := Option.map_eq_some_iff.mp hx
  obtain ⟨e2, -, rfl⟩ := Option.map_eq_some_iff.mp hy
  exact hab
theorem mp_D (hI : ∀ a, M a ≠ none → A a) (n : Nat) : va_D A (mp_en M n) := by
  have hpw := List.pairwise_iff_getElem.mp (mp_pw M n)
  refine ⟨fun i j x y hi hj hxy => ?_, fun k q hk => ?_⟩
  · obtain ⟨li, ei⟩ := List.getElem?_eq_some_iff.mp hi
    obtain ⟨lj, ej⟩ := List.getElem?_eq_some_iff.mp hj
    rcases Nat.lt_trichotomy i j with h | h | h
    · have := hpw i j li lj h
      rw [ei, ej] at this
      omega
    · exact h
    · have := hpw j i lj li h
      rw [ei, ej] at this
      omega
  · obtain ⟨a, e⟩ := q
    have := (mp_mem.mp (List.mem_of_getElem? hk)).2
    exact hI a (by rw [this]; exact fun z => by cases z)
theorem mp_idx {n a : Nat} {e : va_E} (hn : a < n) (h : M a = some e) : ∃ p : Nat, (mp_en M n)[p]? = some (a, e) := List.getElem?_of_mem (mp_mem.mpr ⟨hn, h⟩)
theorem mp_one {a : Nat} {e : va_E} (h : mp_ok D cl M H) (ha : M a = some e) : va_P D cl [(a, e)] H := by
  intro k q hk
  cases k with
  | zero => cases hk; exact h a e ha
  | succ k => simp at hk
theorem mp_set {n p a : Nat} {e0 e : va_E} (hd : ∀ b, M b ≠ none → b < n) (hp : (mp_en M n)[p]? = some (a, e0)) (h : va_P D cl ((mp_en M n).set p (a, e)) H1) : mp_ok D cl (mp_up M a e) H1 := by
  have hl := (List.getElem?_eq_some_iff.mp hp).1
  intro b e1 hb
  by_cases hba : b = a
  · subst hba
    rw [mp_up_s] at hb
    cases hb
    exact h p (b, e) (List.getElem?_set_self hl)
  · rw [mp_up_n hba] at hb
    obtain ⟨k, hk⟩ := mp_idx (hd b (by rw [hb]; exact fun z => by cases z)) hb
    have hkp : p ≠ k := by
      intro z
      subst z
      rw [hp] at hk
      cases hk
      exact hba rfl
    exact h k (b, e1) (by rw [List.getElem?_set_ne hkp]; exact hk)
/-- the world within a walk: the map holds, its cells are of A, since H0 nothing outside A has changed -/
def mw (D : va_G) (cl : List vw_C) (A : Nat → Prop) (H0 : Heap) (M : mp_M) (H : Heap) (locs : List Loc) : Prop := mp_ok D cl M H ∧ (∀ a, M a ≠ none → A a) ∧ va_S A H0 H locs
theorem mw_set {p a : Nat} {e0 e : va_E} {locs1 : List Loc} (hw : mw D cl A H0 M H locs) (hp : (mp_en M H.size)[p]? = some (a, e0)) (h : va_P D cl ((mp_en M H.size).set p (a, e)) H1) (hS : va_S A H0 H1 locs1) : mw D cl A H0 (mp_up M a e) H1 locs1 := by
  refine ⟨mp_set (fun b hb => mp_ltn hw.1 hb) hp h, fun b hb => ?_, hS⟩
  by_cases hba : b = a
  · subst hba
    have := (mp_mem.mp (List.mem_of_getElem? hp)).2
    exact hw.2.1 b (by rw [this]; exact fun z => by cases z)
  · rw [mp_up_n hba] at hb
    exact hw.2.1 b hb
/-- a new cell, the next -/
theorem mw_push {e : va_E} (hw : mw D cl A H0 M H locs) (hA : ∀ q, H0.size ≤ q → A q) (he : va_at D cl (H.size, e) H1) (hz : H1.size = H.size + 1) (hk : ∀ q, q < H.size → H1[q]? = H[q]?) : mw D cl A H0 (mp_up M H.size e) H1 locs := by
  obtain ⟨h1, h2, h3, h4, h5⟩ := hw
  refine ⟨fun b e1 hb => ?_, fun b hb => ?_, by omega, fun q h6 h7 => ?_, h5⟩
  · by_cases hba : b = H.size
    · subst hba
      rw [mp_up_s] at hb
      cases hb
      exact he
    · rw [mp_up_n hba] at hb
      exact (h1 b e1 hb).kept (hk b (mp_lt h1 hb))
  · by_cases hba : b = H.size
    · subst hba
      exact hA _ h3
    · rw [mp_up_n hba] at hb
      exact h2 b hb
  · rw [hk q (by omega)]
    exact h4 q h6 h7
/-- what a method may change: its map's cells, and those that it makes -/
def mfr (M : mp_M) (sz : Nat) : Nat → Prop := fun q => M q ≠ none ∨ sz ≤ q
theorem mfr_in (hw : mw D cl A H0 M H locs) (hA : ∀ q, H0.size ≤ q → A q) : ∀ q, mfr M H.size q → A q := by
  intro q h
  rcases h with h | h
  · exact hw.2.1 q h
  · exact hA q (Nat.le_trans hw.2.2.1 h)
theorem mw_rf (h : mp_ok D cl M H) : mw D cl (mfr M H.size) H M H [] := ⟨h, fun _ h => Or.inl h, va_S.rf⟩
end MP
/-! locals as a list of known values -/
section LH
def lh_l (vs : List (Option Value)) : List (Nat × Value) := (List.range vs.length).filterMap (fun i => (vs[i]?.join).map (fun v => (i, v)))
def lh (ls : Array Slot) (vs : List (Option Value)) : Prop := ls.size = vs.length ∧ lv_wf ls ∧ ∀ (i : Nat) (v : Value), vs[i]? = some (some v) → ls[i]? = some (.val v)
theorem lh_mem {vs : List (Option Value)} {i : Nat} {v : Value} : (i, v) ∈ lh_l vs ↔ vs[i]? = some (some v) := by
  simp only [lh_l, List.mem_filterMap, List.mem_range, Option.map_eq_some_iff, Prod.mk.injEq]
  constructor
  · rintro ⟨j, hj, w, h1, rfl, rfl⟩
    cases h : vs[j]? with
    | none => rw [h] at h1; cases h1
    | some o => rw [h] at h1; cases o with
      | none => cases h1
      | some x => cases h1; rfl
  · intro h
    exact ⟨i, (List.getElem?_eq_some_iff.mp h).1, v, by rw [h]; rfl, rfl, rfl⟩
theorem lh_has {ls : Array Slot} {vs : List (Option Value)} (h : lh ls vs) : lv_has ls vs.length (lh_l vs) := ⟨h.1, h.2.1, fun q hq => h.2.2 q.1 q.2 (lh_mem.mp hq)⟩
theorem lh_at {ls : Array Slot} {vs : List (Option Value)} (h : lh ls vs) {i : Nat} {v : Value} (hv : vs[i]? = some (some v)) : ls[i]? = some (.val v) := h.2.2 i v hv
/-- the value in front of place i is no long -/
def lh_ok (vs : List (Option Value)) (i : Nat) : Prop := ∀ (j : Nat) (w : Value), j + 1 = i → vs[j]? = some (some w) → ¬ w.category = 2
theorem lh_put1 {ls' : Array Slot} {vs : List (Option Value)} {i : Nat} {v : Value} (hi : i < vs.length) (hp : lh_ok vs i) (h : lv_has ls' vs.length ((i, v) :: (lh_l vs).filter (fun q => !(q.1 == i) && !(q.1 + 1 == i && q.2.category == 2)))) : lh ls' (vs.set i (some v)) := by
  refine ⟨by rw [h.1, List.length_set], h.2.1, fun j w hj => ?_⟩
  by_cases hji : j = i
  · subst hji
    rw [List.getElem?_set_self hi] at hj
    cases hj
    exact h.2.2 (j, v) List.mem_cons_self
  · rw [List.getElem?_set_ne (fun z => hji z.symm)] at hj
    refine h.2.2 (j, w) (List.mem_cons_of_mem _ (List.mem_filter.mpr ⟨lh_mem.mpr hj, ?_⟩))
    simp only [Bool.and_eq_true, Bool.not_eq_true', beq_eq_false_iff_ne, ne_eq, Bool.and_eq_false_iff]
    refine ⟨hji, ?_⟩
    by_cases h1 : j + 1 = i
    · exact Or.inr (hp j w h1 hj)
    · exact Or.inl h1
theorem lh_put2 {ls' : Array Slot} {vs : List (Option Value)} {i : Nat} {v : Value} (hi : i + 1 < vs.length) (hp : lh_ok vs i) (h : lv_has ls' vs.length ((i, v) :: (lh_l vs).filter (fun q => !(q.1 == i) && (!(q.1 == i + 1) && !(q.1 + 1 == i && q.2.category == 2))))) : lh ls' ((vs.set (i + 1) none).set i (some v)) := by
  refine ⟨by rw [h.1, List.length_set, List.length_set], h.2.1, fun j w hj => ?_⟩
  by_cases hji : j = i
  · subst hji
    rw [List.getElem?_set_self (by rw [List.length_set]; omega)] at hj
    cases hj
    exact h.2.2 (j, v) List.mem_cons_self
  · rw [List.getElem?_set_ne (fun z => hji z.symm)] at hj
    by_cases hj1 : j = i + 1
    · subst hj1
      rw [List.getElem?_set_self hi] at hj
      cases hj
    · rw [List.getElem?_set_ne (fun z => hj1 z.symm)] at hj
      refine h.2.2 (j, w) (List.mem_cons_of_mem _ (List.mem_filter.mpr ⟨lh_mem.mpr hj, ?_⟩))
      simp only [Bool.and_eq_true, Bool.not_eq_true', beq_eq_false_iff_ne, ne_eq, Bool.and_eq_false_iff]
      refine ⟨hji, hj1, ?_⟩
      by_cases h1 : j + 1 = i
      · exact Or.inr (hp j w h1 hj)
      · exact Or.inl h1
def lh_e (as : List Value) : List (Option Value) := as.flatMap fun v => if v.category = 2 then [some v, none] else [some v]
theorem lh_len (as : List Value) : (lh_e as).length = (lg_sl as).length := by
  induction as with
  | nil => rfl
  | cons v t ih =>
    simp only [lh_e, lg_sl, List.flatMap_cons, List.length_append] at ih ⊢
    rw [ih]
    by_cases h : v.category = 2
    · simp [h]
    · simp [h]
theorem lh_args : ∀ (as : List Value) (k i : Nat) (v : Value), (lh_e as)[i]? = some (some v) → (k + i, v) ∈ lv_args k as
  | [], k, i, v, h => by simp [lh_e] at h
  | a :: t, k, i, v, h => by
    simp only [lh_e, List.flatMap_cons] at h
    unfold lv_args
    by_cases hc : a.category = 2
    · rw [if_pos hc] at h ⊢
      match i, h with
      | 0, h => simp at h; subst h; exact List.mem_cons_self
      | 1, h => simp at h
      | j + 2, h =>
        have h' : (lh_e t)[j]? = some (some v) := by simpa [lh_e] using h
        have := lh_args t (k + 2) j v h'
        rw [show k + (j + 2) = k + 2 + j by omega]
        exact List.mem_cons_of_mem _ this
    · rw [if_neg hc] at h ⊢
      match i, h with
      | 0, h => simp at h; subst h; exact List.mem_cons_self
      | j + 1, h =>
        have h' : (lh_e t)[j]? = some (some v) := by simpa [lh_e] using h
        have := lh_args t (k + 1) j v h'
        rw [show k + (j + 1) = k + 1 + j by omega]
        exact List.mem_cons_of_mem _ this
theorem lh_entry (as : List Value) {n : Nat} (h : (lg_sl as).length ≤ n) : lh ((lg_sl as ++ List.replicate (n - (lg_sl as).length) Slot.unset).toArray) (lh_e as ++ List.replicate (n - (lg_sl as).length) none) := by
  have h0 := lv_entry as h
  refine ⟨?_, h0.2.1, fun i v hv => ?_⟩
  · rw [h0.1, List.length_append, lh_len, List.length_replicate]; omega
  · by_cases hi : i < (lh_e as).length
    · rw [List.getElem?_append_left hi] at hv
      have := lh_args as 0 i v hv
      rw [Nat.zero_add] at this
      exact h0.2.2 _ this
    · rw [List.getElem?_append_right (by omega)] at hv
      have := List.eq_of_mem_replicate (List.mem_of_getElem? hv)
      cases this
/-- a value is forgotten -/
theorem lh_drop {ls : Array Slot} {vs : List (Option Value)} (i : Nat) (h : lh ls vs) : lh ls (vs.set i none) := by
  refine ⟨by rw [h.1, List.length_set], h.2.1, fun j w hj => ?_⟩
  by_cases hji : j = i
  · subst hji
    by_cases hl : j < vs.length
    · rw [List.getElem?_set_self hl] at hj
      cases hj
    · rw [List.getElem?_eq_none (by rw [List.length_set]; omega)] at hj
      cases hj
  · rw [List.getElem?_set_ne (fun z => hji z.symm)] at hj
    exact h.2.2 j w hj
theorem va_rf_c (o : Option Nat) : (va_rf o).category = 1 := by cases o <;> rfl
end LH
end
section
/-! rows of one instruction, over known locals and naturals -/
section XR
variable {p : Program} {l : Launch} {e : Env} {R : Room} {s : State} {m : MethodId} {args : Array Value} {below : List Frame} {meth : Method} {c : Code} {H : Heap} {locs : List Loc} {cells slots : Nat} {Q : State → Prop}
variable {cc : ByteArray} {pc : Nat} {ls : Array Slot} {rest : List Value} {vs : List (Option Value)} {off : Int} {tgt : Nat}
def lk (o : Option (Option Value)) : Prop := ∀ w, o = some (some w) → ¬ w.category = 2
theorem lk_n : lk (some none) := fun w h => by cases h
theorem lk_i {x : Int32} : lk (some (some (.int x))) := fun w h => by cases h; exact fun z => absurd (show (1 : Nat) = 2 from z) (by decide)
theorem lk_r {a : Nat} : lk (some (some (.ref a))) := fun w h => by cases h; exact fun z => absurd (show (1 : Nat) = 2 from z) (by decide)
theorem lk_q {o : Option Nat} : lk (some (some (va_rf o))) := fun w h => by cases h; rw [va_rf_c]; decide
theorem lk_0 : lk (some (some .null)) := fun w h => by cases h; decide
theorem lh_k {i : Nat} {o : Option (Option Value)} (h : vs[i]? = o) (ho : lk o) : lh_ok vs (i + 1) := by
  intro j w hj hw
  obtain rfl : j = i := by omega
  exact ho w (h.symm.trans hw)
theorem lh_k0 : lh_ok vs 0 := fun j w hj _ => by omega
theorem x_iload_n (hx : p.tables.exec = Jvm.exec) (hb : c.code = cc) {k : Fin 4} {x : Int32} (hdg : decode cc pc = .ok (.iload_n k, 1)) (hl : lh ls vs) (hv : vs[(k : Nat)]? = some (some (.int x)))
    (kk : W p l e R s m args below meth c H locs cells slots Q (F0 m (pc + 1) ls (.int x :: rest))) : W p l e R s m args below meth c H locs cells slots Q (F0 m pc ls rest) := lv_iload_n hx hb hdg rfl (lh_at hl hv) kk
theorem x_iload (hx : p.tables.exec = Jvm.exec) (hb : c.code = cc) {i : Nat} {x : Int32} (hdg : decode cc pc = .ok (.iload i, 2)) (hl : lh ls vs) (hv : vs[i]? = some (some (.int x)))
    (kk : W p l e R s m args below meth c H locs cells slots Q (F0 m (pc + 2) ls (.int x :: rest))) : W p l e R s m args below meth c H locs cells slots Q (F0 m pc ls rest) := lv_iload hx hb hdg (lh_at hl hv) kk
theorem x_lload_n (hx : p.tables.exec = Jvm.exec) (hb : c.code = cc) {k : Fin 4} {x : Int64} (hdg : decode cc pc = .ok (.lload_n k, 1)) (hl : lh ls vs) (hv : vs[(k : Nat)]? = some (some (.long x)))
    (kk : W p l e R s m args below meth c H locs cells slots Q (F0 m (pc + 1) ls (.long x :: rest))) : W p l e R s m args below meth c H locs cells slots Q (F0 m pc ls rest) := lv_lload_n hx hb hdg rfl (lh_at hl hv) kk
theorem x_lload (hx : p.tables.exec = Jvm.exec) (hb : c.code = cc) {i : Nat} {x : Int64} (hdg : decode cc pc = .ok (.lload i, 2)) (hl : lh ls vs) (hv : vs[i]? = some (some (.long x)))
    (kk : W p l e R s m args below meth c H locs cells slots Q (F0 m (pc + 2) ls (.long x :: rest))) : W p l e R s m args below meth c H locs cells slots Q (F0 m pc ls rest) := lv_lload hx hb hdg (lh_at hl hv) kk
theorem x_aload_n (hx : p.tables.exec = Jvm.exec) (hb : c.code = cc) {k : Fin 4} {x : Nat} (hdg : decode cc pc = .ok (.aload_n k, 1)) (hl : lh ls vs) (hv : vs[(k : Nat)]? = some (some (.ref x)))
    (kk : W p l e R s m args below meth c H locs cells slots Q (F0 m (pc + 1) ls (.ref x :: rest))) : W p l e R s m args below meth c H locs cells slots Q (F0 m pc ls rest) := lv_aload_n hx hb hdg rfl (lh_at hl hv) kk
theorem x_aload (hx : p.tables.exec = Jvm.exec) (hb : c.code = cc) {i : Nat} {x : Nat} (hdg : decode cc pc = .ok (.aload i, 2)) (hl : lh ls vs) (hv : vs[i]? = some (some (.ref x)))
    (kk : W p l e R s m args below meth c H locs cells slots Q (F0 m (pc + 2) ls (.ref x :: rest))) : W p l e R s m args below meth c H locs cells slots Q (F0 m pc ls rest) := lv_aload hx hb hdg (lh_at hl hv) kk
theorem x_aload_nQ (hx : p.tables.exec = Jvm.exec) (hb : c.code = cc) {k : Fin 4} {x : Option Nat} (hdg : decode cc pc = .ok (.aload_n k, 1)) (hl : lh ls vs) (hv : vs[(k : Nat)]? = some (some (va_rf x)))
    (kk : W p l e R s m args below meth c H locs cells slots Q (F0 m (pc + 1) ls (va_rf x :: rest))) : W p l e R s m args below meth c H locs cells slots Q (F0 m pc ls rest) := by
  cases x with
  | none => exact lv_aload_nN hx hb hdg rfl (lh_at hl hv) kk
  | some a => exact lv_aload_n hx hb hdg rfl (lh_at hl hv) kk
theorem x_aloadQ (hx : p.tables.exec = Jvm.exec) (hb : c.code = cc) {i : Nat} {x : Option Nat} (hdg : decode cc pc = .ok (.aload i, 2)) (hl : lh ls vs) (hv : vs[i]? = some (some (va_rf x)))
    (kk : W p l e R s m args below meth c H locs cells slots Q (F0 m (pc + 2) ls (va_rf x :: rest))) : W p l e R s m args below meth c H locs cells slots Q (F0 m pc ls rest) := by
  cases x with
  | none => exact lv_aloadN hx hb hdg (lh_at hl hv) kk
  | some a => exact lv_aload hx hb hdg (lh_at hl hv) kk
theorem x_istore_n (hx : p.tables.exec = Jvm.exec) (hb : c.code = cc) {k : Fin 4} {x : Int32} (hdg : decode cc pc = .ok (.istore_n k, 1)) (hl : lh ls vs) (hi : (k : Nat) < vs.length) (ho : lh_ok vs k)
    (kk : ∀ ls' : Array Slot, lh ls' (vs.set k (some (.int x))) → W p l e R s m args below meth c H locs cells slots Q (F0 m (pc + 1) ls' rest)) : W p l e R s m args below meth c H locs cells slots Q (F0 m pc ls (.int x :: rest)) := lv_istore_n hx hb hdg rfl (lh_has hl) hi rfl (fun ls' h => kk ls' (lh_put1 hi ho h))
theorem x_istore (hx : p.tables.exec = Jvm.exec) (hb : c.code = cc) {i : Nat} {x : Int32} (hdg : decode cc pc = .ok (.istore i, 2)) (hl : lh ls vs) (hi : i < vs.length) (ho : lh_ok vs i)
    (kk : ∀ ls' : Array Slot, lh ls' (vs.set i (some (.int x))) → W p l e R s m args below meth c H locs cells slots Q (F0 m (pc + 2) ls' rest)) : W p l e R s m args below meth c H locs cells slots Q (F0 m pc ls (.int x :: rest)) := lv_istore hx hb hdg (lh_has hl) hi rfl (fun ls' h => kk ls' (lh_put1 hi ho h))
theorem x_lstore (hx : p.tables.exec = Jvm.exec) (hb : c.code = cc) {i : Nat} {x : Int64} (hdg : decode cc pc = .ok (.lstore i, 2)) (hl : lh ls vs) (hi : i + 1 < vs.length) (ho : lh_ok vs i)
    (kk : ∀ ls' : Array Slot, lh ls' ((vs.set (i + 1) none).set i (some (.long x))) → W p l e R s m args below meth c H locs cells slots Q (F0 m (pc + 2) ls' rest)) : W p l e R s m args below meth c H locs cells slots Q (F0 m pc ls (.long x :: rest)) := lv_lstore hx hb hdg (lh_has hl) hi rfl (fun ls' h => kk ls' (lh_put2 hi ho h))
theorem x_astore_n (hx : p.tables.exec = Jvm.exec) (hb : c.code = cc) {k : Fin 4} {x : Nat} (hdg : decode cc pc = .ok (.astore_n k, 1)) (hl : lh ls vs) (hi : (k : Nat) < vs.length) (ho : lh_ok vs k)
    (kk : ∀ ls' : Array Slot, lh ls' (vs.set k (some (.ref x))) → W p l e R s m args below meth c H locs cells slots Q (F0 m (pc + 1) ls' rest)) : W p l e R s m args below meth c H locs cells slots Q (F0 m pc ls (.ref x :: rest)) := lv_astore_n hx hb hdg rfl (lh_has hl) hi rfl (fun ls' h => kk ls' (lh_put1 hi ho h))
theorem x_astore (hx : p.tables.exec = Jvm.exec) (hb : c.code = cc) {i : Nat} {x : Nat} (hdg : decode cc pc = .ok (.astore i, 2)) (hl : lh ls vs) (hi : i < vs.length) (ho : lh_ok vs i)
    (kk : ∀ ls' : Array Slot, lh ls' (vs.set i (some (.ref x))) → W p l e R s m args below meth c H locs cells slots Q (F0 m (pc + 2) ls' rest)) : W p l e R s m args below meth c H locs cells slots Q (F0 m pc ls (.ref x :: rest)) := lv_astore hx hb hdg (lh_has hl) hi rfl (fun ls' h => kk ls' (lh_put1 hi ho h))
theorem x_astore_nQ (hx : p.tables.exec = Jvm.exec) (hb : c.code = cc) {k : Fin 4} {x : Option Nat} (hdg : decode cc pc = .ok (.astore_n k, 1)) (hl : lh ls vs) (hi : (k : Nat) < vs.length) (ho : lh_ok vs k)
    (kk : ∀ ls' : Array Slot, lh ls' (vs.set k (some (va_rf x))) → W p l e R s m args below meth c H locs cells slots Q (F0 m (pc + 1) ls' rest)) : W p l e R s m args below meth c H locs cells slots Q (F0 m pc ls (va_rf x :: rest)) := by
  cases x with
  | none => exact lv_astore_nN hx hb hdg rfl (lh_has hl) hi rfl (fun ls' h => kk ls' (lh_put1 hi ho h))
  | some a => exact lv_astore_n hx hb hdg rfl (lh_has hl) hi rfl (fun ls' h => kk ls' (lh_put1 hi ho h))
theorem x_astoreQ (hx : p.tables.exec = Jvm.exec) (hb : c.code = cc) {i : Nat} {x : Option Nat} (hdg : decode cc pc = .ok (.astore i, 2)) (hl : lh ls vs) (hi : i < vs.length) (ho : lh_ok vs i)
    (kk : ∀ ls' : Array Slot, lh ls' (vs.set i (some (va_rf x))) → W p l e R s m args below meth c H locs cells slots Q (F0 m (pc + 2) ls' rest)) : W p l e R s m args below meth c H locs cells slots Q (F0 m pc ls (va_rf x :: rest)) := by
  cases x with
  | none => exact lv_astoreN hx hb hdg (lh_has hl) hi rfl (fun ls' h => kk ls' (lh_put1 hi ho h))
  | some a => exact lv_astore hx hb hdg (lh_has hl) hi rfl (fun ls' h => kk ls' (lh_put1 hi ho h))
theorem x_iinc (hx : p.tables.exec = Jvm.exec) (hb : c.code = cc) {i : Nat} {n : Int} {x v : Int32} (hdg : decode cc pc = .ok (.iinc i n, 3)) (hl : lh ls vs) (hv0 : vs[i]? = some (some (.int x))) (hv : x + Int32.ofInt n = v) (ho : lh_ok vs i)
    (kk : ∀ ls' : Array Slot, lh ls' (vs.set i (some (.int v))) → W p l e R s m args below meth c H locs cells slots Q (F0 m (pc + 3) ls' rest)) : W p l e R s m args below meth c H locs cells slots Q (F0 m pc ls rest) := by
  have hi : i < vs.length := (List.getElem?_eq_some_iff.mp hv0).1
  obtain ⟨k, hk⟩ := List.getElem?_of_mem (lh_mem.mpr hv0)
  exact lv_iinc hx hb hdg (lh_has hl) hk hv hi rfl (fun ls' h => kk ls' (lh_put1 hi ho h))
theorem x_iincN (hx : p.tables.exec = Jvm.exec) (hb : c.code = cc) {i : Nat} {k : Nat} (hdg : decode cc pc = .ok (.iinc i 1, 3)) (hl : lh ls vs) (hv0 : vs[i]? = some (some (.int (nI k)))) (ho : lh_ok vs i)
    (kk : ∀ ls' : Array Slot, lh ls' (vs.set i (some (.int (nI (k + 1))))) → W p l e R s m args below meth c H locs cells slots Q (F0 m (pc + 3) ls' rest)) : W p l e R s m args below meth c H locs cells slots Q (F0 m pc ls rest) :=
  x_iinc hx hb hdg hl hv0 (by rw [← nI_1]; rfl) ho kk
theorem x_iadd (hx : p.tables.exec = Jvm.exec) (hb : c.code = cc) {a b : Nat} (hdg : decode cc pc = .ok (.iadd, 1))
    (kk : W p l e R s m args below meth c H locs cells slots Q (F0 m (pc + 1) ls (.int (nI (a + b)) :: rest))) : W p l e R s m args below meth c H locs cells slots Q (F0 m pc ls (.int (nI b) :: .int (nI a) :: rest)) := lv_iadd hx hb hdg (by rw [nI_add]; exact kk)
theorem x_isub (hx : p.tables.exec = Jvm.exec) (hb : c.code = cc) {a b : Nat} (hdg : decode cc pc = .ok (.isub, 1)) (h : b ≤ a)
    (kk : W p l e R s m args below meth c H locs cells slots Q (F0 m (pc + 1) ls (.int (nI (a - b)) :: rest))) : W p l e R s m args below meth c H locs cells slots Q (F0 m pc ls (.int (nI b) :: .int (nI a) :: rest)) := lv_isub hx hb hdg (by rw [pk_sub h]; exact kk)
theorem x_imul (hx : p.tables.exec = Jvm.exec) (hb : c.code = cc) {a b : Nat} (hdg : decode cc pc = .ok (.imul, 1))
    (kk : W p l e R s m args below meth c H locs cells slots Q (F0 m (pc + 1) ls (.int (nI (a * b)) :: rest))) : W p l e R s m args below meth c H locs cells slots Q (F0 m pc ls (.int (nI b) :: .int (nI a) :: rest)) := lv_imul hx hb hdg (by rw [pk_mul]; exact kk)
theorem x_idiv (hx : p.tables.exec = Jvm.exec) (hb : c.code = cc) {a b : Nat} (hdg : decode cc pc = .ok (.idiv, 1)) (ha : a < 2 ^ 31) (h0 : 0 < b) (h1 : b < 2 ^ 31)
    (kk : W p l e R s m args below meth c H locs cells slots Q (F0 m (pc + 1) ls (.int (nI (a / b)) :: rest))) : W p l e R s m args below meth c H locs cells slots Q (F0 m pc ls (.int (nI b) :: .int (nI a) :: rest)) := lv_idiv hx hb hdg (nI_ne0 h0 h1) (by rw [pk_div ha h0 h1]; exact kk)
theorem x_irem (hx : p.tables.exec = Jvm.exec) (hb : c.code = cc) {a b : Nat} (hdg : decode cc pc = .ok (.irem, 1)) (ha : a < 2 ^ 31) (h0 : 0 < b) (h1 : b < 2 ^ 31)
    (kk : W p l e R s m args below meth c H locs cells slots Q (F0 m (pc + 1) ls (.int (nI (a % b)) :: rest))) : W p l e R s m args below meth c H locs cells slots Q (F0 m pc ls (.int (nI b) :: .int (nI a) :: rest)) := lv_irem hx hb hdg (nI_ne0 h0 h1) (by rw [pk_rem ha h0 h1]; exact kk)
theorem x_icmp_eq (hx : p.tables.exec = Jvm.exec) (hb : c.code = cc) {a b : Nat} (hdg : decode cc pc = .ok (.if_icmp .eq off, 3)) (ht : (pc : Int) + off = (tgt : Int)) (ha : a < 2 ^ 31) (hc : b < 2 ^ 31)
    (kt : a = b → W p l e R s m args below meth c H locs cells slots Q (F0 m tgt ls rest)) (kf : a ≠ b → W p l e R s m args below meth c H locs cells slots Q (F0 m (pc + 3) ls rest)) : W p l e R s m args below meth c H locs cells slots Q (F0 m pc ls (.int (nI b) :: .int (nI a) :: rest)) := lv_icmp_eq hx hb hdg ht (fun h => kt ((nI_eq ha hc).mp h)) (fun h => kf (fun z => h ((nI_eq ha hc).mpr z)))
theorem x_icmp_ne (hx : p.tables.exec = Jvm.exec) (hb : c.code = cc) {a b : Nat} (hdg : decode cc pc = .ok (.if_icmp .ne off, 3)) (ht : (pc : Int) + off = (tgt : Int)) (ha : a < 2 ^ 31) (hc : b < 2 ^ 31)
    (kt : a ≠ b → W p l e R s m args below meth c H locs cells slots Q (F0 m tgt ls rest)) (kf : a = b → W p l e R s m args below meth c H locs cells slots Q (F0 m (pc + 3) ls rest)) : W p l e R s m args below meth c H locs cells slots Q (F0 m pc ls (.int (nI b) :: .int (nI a) :: rest)) := lv_icmp_ne hx hb hdg ht (fun h => kt (fun z => h ((nI_eq ha hc).mpr z))) (fun h => kf ((nI_eq ha hc).mp h))
theorem x_icmp_lt (hx : p.tables.exec = Jvm.exec) (hb : c.code = cc) {a b : Nat} (hdg : decode cc pc = .ok (.if_icmp .lt off, 3)) (ht : (pc : Int) + off = (tgt : Int)) (ha : a < 2 ^ 31) (hc : b < 2 ^ 31)
    (kt : a < b → W p l e R s m args below meth c H locs cells slots Q (F0 m tgt ls rest)) (kf : b ≤ a → W p l e R s m args below meth c H locs cells slots Q (F0 m (pc + 3) ls rest)) : W p l e R s m args below meth c H locs cells slots Q (F0 m pc ls (.int (nI b) :: .int (nI a) :: rest)) := lv_icmp_lt hx hb hdg ht (fun h => kt ((nI_ltI ha hc).mp h)) (fun h => kf (Nat.not_lt.mp (fun z => h ((nI_ltI ha hc).mpr z))))
theorem x_icmp_ge (hx : p.tables.exec = Jvm.exec) (hb : c.code = cc) {a b : Nat} (hdg : decode cc pc = .ok (.if_icmp .ge off, 3)) (ht : (pc : Int) + off = (tgt : Int)) (ha : a < 2 ^ 31) (hc : b < 2 ^ 31)
    (kt : b ≤ a → W p l e R s m args below meth c H locs cells slots Q (F0 m tgt ls rest)) (kf : a < b → W p l e R s m args below meth c H locs cells slots Q (F0 m (pc + 3) ls rest)) : W p l e R s m args below meth c H locs cells slots Q (F0 m pc ls (.int (nI b) :: .int (nI a) :: rest)) := lv_icmp_ge hx hb hdg ht (fun h => kt ((nI_leI hc ha).mp h)) (fun h => kf (Nat.not_le.mp (fun z => h ((nI_leI hc ha).mpr z))))
theorem x_icmp_gt (hx : p.tables.exec = Jvm.exec) (hb : c.code = cc) {a b : Nat} (hdg : decode cc pc = .ok (.if_icmp .gt off, 3)) (ht : (pc : Int) + off = (tgt : Int)) (ha : a < 2 ^ 31) (hc : b < 2 ^ 31)
    (kt : b < a → W p l e R s m args below meth c H locs cells slots Q (F0 m tgt ls rest)) (kf : a ≤ b → W p l e R s m args below meth c H locs cells slots Q (F0 m (pc + 3) ls rest)) : W p l e R s m args below meth c H locs cells slots Q (F0 m pc ls (.int (nI b) :: .int (nI a) :: rest)) := lv_icmp_gt hx hb hdg ht (fun h => kt ((nI_ltI hc ha).mp h)) (fun h => kf (Nat.not_lt.mp (fun z => h ((nI_ltI hc ha).mpr z))))
theorem x_icmp_le (hx : p.tables.exec = Jvm.exec) (hb : c.code = cc) {a b : Nat} (hdg : decode cc pc = .ok (.if_icmp .le off, 3)) (ht : (pc : Int) + off = (tgt : Int)) (ha : a < 2 ^ 31) (hc : b < 2 ^ 31)
    (kt : a ≤ b → W p l e R s m args below meth c H locs cells slots Q (F0 m tgt ls rest)) (kf : b < a → W p l e R s m args below meth c H locs cells slots Q (F0 m (pc + 3) ls rest)) : W p l e R s m args below meth c H locs cells slots Q (F0 m pc ls (.int (nI b) :: .int (nI a) :: rest)) := lv_icmp_le hx hb hdg ht (fun h => kt ((nI_leI ha hc).mp h)) (fun h => kf (Nat.not_le.mp (fun z => h ((nI_leI ha hc).mpr z))))
theorem nI_z {a : Nat} (ha : a < 2 ^ 31) : nI a = 0 ↔ a = 0 := by rw [← nI_0]; exact nI_eq ha (by decide)
theorem nI_p {a : Nat} (ha : a < 2 ^ 31) : 0 < nI a ↔ 0 < a := by rw [← nI_0]; exact nI_ltI (by decide) ha
theorem nI_q {a : Nat} (ha : a < 2 ^ 31) : nI a ≤ 0 ↔ a = 0 := by rw [← nI_0, nI_leI ha (by decide)]; omega
theorem x_if_eq (hx : p.tables.exec = Jvm.exec) (hb : c.code = cc) {a : Nat} (hdg : decode cc pc = .ok (.ifCond .eq off, 3)) (ht : (pc : Int) + off = (tgt : Int)) (ha : a < 2 ^ 31)
    (kt : a = 0 → W p l e R s m args below meth c H locs cells slots Q (F0 m tgt ls rest)) (kf : a ≠ 0 → W p l e R s m args below meth c H locs cells slots Q (F0 m (pc + 3) ls rest)) : W p l e R s m args below meth c H locs cells slots Q (F0 m pc ls (.int (nI a) :: rest)) := lv_if_eq hx hb hdg ht (fun h => kt ((nI_z ha).mp h)) (fun h => kf (fun z => h ((nI_z ha).mpr z)))
theorem x_if_ne (hx : p.tables.exec = Jvm.exec) (hb : c.code = cc) {a : Nat} (hdg : decode cc pc = .ok (.ifCond .ne off, 3)) (ht : (pc : Int) + off = (tgt : Int)) (ha : a < 2 ^ 31)
    (kt : a ≠ 0 → W p l e R s m args below meth c H locs cells slots Q (F0 m tgt ls rest)) (kf : a = 0 → W p l e R s m args below meth c H locs cells slots Q (F0 m (pc + 3) ls rest)) : W p l e R s m args below meth c H locs cells slots Q (F0 m pc ls (.int (nI a) :: rest)) := lv_if_ne hx hb hdg ht (fun h => kt (fun z => h ((nI_z ha).mpr z))) (fun h => kf ((nI_z ha).mp h))
theorem x_if_gt (hx : p.tables.exec = Jvm.exec) (hb : c.code = cc) {a : Nat} (hdg : decode cc pc = .ok (.ifCond .gt off, 3)) (ht : (pc : Int) + off = (tgt : Int)) (ha : a < 2 ^ 31)
    (kt : 0 < a → W p l e R s m args below meth c H locs cells slots Q (F0 m tgt ls rest)) (kf : a = 0 → W p l e R s m args below meth c H locs cells slots Q (F0 m (pc + 3) ls rest)) : W p l e R s m args below meth c H locs cells slots Q (F0 m pc ls (.int (nI a) :: rest)) := lv_if_gt hx hb hdg ht (fun h => kt ((nI_p ha).mp h)) (fun h => kf (Nat.eq_zero_of_not_pos (fun z => h ((nI_p ha).mpr z))))
theorem x_if_le (hx : p.tables.exec = Jvm.exec) (hb : c.code = cc) {a : Nat} (hdg : decode cc pc = .ok (.ifCond .le off, 3)) (ht : (pc : Int) + off = (tgt : Int)) (ha : a < 2 ^ 31)
    (kt : a = 0 → W p l e R s m args below meth c H locs cells slots Q (F0 m tgt ls rest)) (kf : 0 < a → W p l e R s m args below meth c H locs cells slots Q (F0 m (pc + 3) ls rest)) : W p l e R s m args below meth c H locs cells slots Q (F0 m pc ls (.int (nI a) :: rest)) := lv_if_le hx hb hdg ht (fun h => kt ((nI_q ha).mp h)) (fun h => kf (Nat.pos_of_ne_zero (fun z => h ((nI_q ha).mpr z))))
theorem x_if_lt (hx : p.tables.exec = Jvm.exec) (hb : c.code = cc) {a : Nat} (hdg : decode cc pc = .ok (.ifCond .lt off, 3)) (ht : (pc : Int) + off = (tgt : Int)) (ha : a < 2 ^ 31)
    (kf : W p l e R s m args below meth c H locs cells slots Q (F0 m (pc + 3) ls rest)) : W p l e R s m args below meth c H locs cells slots Q (F0 m pc ls (.int (nI a) :: rest)) := lv_if_lt hx hb hdg ht (fun h => absurd h (nI_pos ha)) (fun _ => kf)
theorem x_if_ge (hx : p.tables.exec = Jvm.exec) (hb : c.code = cc) {a : Nat} (hdg : decode cc pc = .ok (.ifCond .ge off, 3)) (ht : (pc : Int) + off = (tgt : Int)) (ha : a < 2 ^ 31)
    (kt : W p l e R s m args below meth c H locs cells slots Q (F0 m tgt ls rest)) : W p l e R s m args below meth c H locs cells slots Q (F0 m pc ls (.int (nI a) :: rest)) := lv_if_ge hx hb hdg ht (fun _ => kt) (fun h => absurd (nI_pos' ha) h)
theorem x_ifnullQ (hx : p.tables.exec = Jvm.exec) (hb : c.code = cc) {o : Option Nat} (hdg : decode cc pc = .ok (.ifnull off, 3)) (ht : (pc : Int) + off = (tgt : Int))
    (kt : o = none → W p l e R s m args below meth c H locs cells slots Q (F0 m tgt ls rest)) (kf : ∀ a, o = some a → W p l e R s m args below meth c H locs cells slots Q (F0 m (pc + 3) ls rest)) : W p l e R s m args below meth c H locs cells slots Q (F0 m pc ls (va_rf o :: rest)) := by
  cases o with
  | none => exact lv_ifnullN hx hb hdg ht (kt rfl)
  | some a => exact lv_ifnull hx hb hdg (kf a rfl)
theorem x_ifnonnullQ (hx : p.tables.exec = Jvm.exec) (hb : c.code = cc) {o : Option Nat} (hdg : decode cc pc = .ok (.ifnonnull off, 3)) (ht : (pc : Int) + off = (tgt : Int))
    (kt : ∀ a, o = some a → W p l e R s m args below meth c H locs cells slots Q (F0 m tgt ls rest)) (kf : o = none → W p l e R s m args below meth c H locs cells slots Q (F0 m (pc + 3) ls rest)) : W p l e R s m args below meth c H locs cells slots Q (F0 m pc ls (va_rf o :: rest)) := by
  cases o with
  | none => exact lv_ifnonnullN hx hb hdg (kf rfl)
  | some a => exact lv_ifnonnull hx hb hdg ht (kt a rfl)
end XR
end
section
/-! cells: the kit's rows over the map -/
section MC
variable {p : Program} {l : Launch} {e : Env} {R : Room} {s : State} {m : MethodId} {args : Array Value} {below : List Frame} {meth : Method} {c : Code} {H : Heap} {locs : List Loc} {cells slots : Nat} {Q : State → Prop}
variable {cc : ByteArray} {pc : Nat} {ls : Array Slot} {rest : List Value} {D : va_G} {cl : List vw_C} {A : Nat → Prop} {a : Nat} {tys : List (ClassId × FieldType)} {M : mp_M} {H0 : Heap}
/-- a new cell -/
theorem mw_new {H1 : Heap} {q : Nat} {e1 : va_E} (hw : mw D cl A H0 M H locs) (hP : va_P D cl (mp_en M H.size ++ [(q, e1)]) H1) (hD : va_D A (mp_en M H.size ++ [(q, e1)])) (hS : va_S A H0 H1 locs) : M q = none ∧ mw D cl A H0 (mp_up M q e1) H1 locs := by
  have hlast : (mp_en M H.size ++ [(q, e1)])[(mp_en M H.size).length]? = some (q, e1) := by
    rw [List.getElem?_append_right (Nat.le_refl _), Nat.sub_self]; rfl
  refine ⟨?_, fun b e2 hb => ?_, fun b hb => ?_, hS⟩
  · cases hm : M q with
    | none => rfl
    | some e0 =>
      exfalso
      obtain ⟨k, hk⟩ := mp_idx (mp_lt hw.1 hm) hm
      have hl := (List.getElem?_eq_some_iff.mp hk).1
      have h1 : (mp_en M H.size ++ [(q, e1)])[k]? = some (q, e0) := by rw [List.getElem?_append_left hl]; exact hk
      have := hD.1 _ _ _ _ h1 hlast rfl
      omega
  · by_cases hba : b = q
    · subst hba
      rw [mp_up_s] at hb
      cases hb
      exact hP _ _ hlast
    · rw [mp_up_n hba] at hb
      obtain ⟨k, hk⟩ := mp_idx (mp_lt hw.1 hb) hb
      have hl := (List.getElem?_eq_some_iff.mp hk).1
      exact hP k (b, e2) (by rw [List.getElem?_append_left hl]; exact hk)
  · by_cases hba : b = q
    · subst hba
      exact hD.2 _ _ hlast
    · rw [mp_up_n hba] at hb
      exact hw.2.1 b hb
/-- what is known of a class: its place among the classes, its words, its fields' types, that their names differ -/
def CI (Ts : List Cond) (cl : List vw_C) (ci : Nat) (C : String) (T : u_T) (N : Nat) (ty : Nat → FieldType) : Prop := cl[ci]? = some (C, T, N) ∧ (∀ w ∈ u_ws C T N, w ∈ Ts) ∧ (∀ k, k < N → parseFieldDescriptor (T k).2.2.1 = some (ty k)) ∧ (∀ a, a < N → ∀ b, b < N → a ≠ b → (T a).2.1 ≠ (T b).2.1)
theorem ra_inj {U : State} {c1 c2 : ClassId} {ty : FieldType} (h1 : va_RA U c1 ty) (h2 : va_RA U c2 ty) : c1 = c2 := by
  cases ty with
  | object C =>
    obtain ⟨_, _, -, -, -, g1⟩ := h1
    obtain ⟨_, _, -, -, -, g2⟩ := h2
    exact Option.some.inj (g1.symm.trans g2)
  | _ => exact Option.some.inj (Eq.trans (Eq.symm h1) h2)
theorem nar_q {C : String} {o : Option Nat} : narrow (.object C) (va_rf o) = va_rf o := by cases o <;> rfl
theorem fit_q {C : String} {o : Option Nat} : fits (.object C) (va_rf o) = true := by cases o <;> rfl
theorem m_get (hx : p.tables.exec = Jvm.exec) (hb : c.code = cc) {Ts : List Cond} {ci : Nat} {C : String} {T : u_T} {N : Nat} {ty : Nat → FieldType} {own : String} {index : Nat} (hts : ∀ w ∈ Ts, w.before args s = true) (hown : s.vm.findClass own = some m.cls) (hK : va_K D cl tys s) (hw : mw D cl A H0 M H locs) (hci : CI Ts cl ci C T N ty) {fs : List Value} (he : M a = some (.inr (ci, fs))) (k : Nat) (hk : k < N) (hlink : Cond.fieldLink own index (T k).1 (T k).2.1 (T k).2.2.1 ∈ Ts) {v : Value} (hv : fs[k]? = some v) (hdg : decode cc pc = .ok (.getfield index, 3))
    (kk : W p l e R s m args below meth c H locs cells slots Q (F0 m (pc + 3) ls (v :: rest))) : W p l e R s m args below meth c H locs cells slots Q (F0 m pc ls (.ref a :: rest)) :=
  va_get hx hb hts hci.2.1 hown hK (mp_one hw.1 he) 0 rfl hci.1 k hk (hts _ hlink) (fun _ h => h) hv hdg kk
theorem m_getU (hx : p.tables.exec = Jvm.exec) (hb : c.code = cc) {Ts : List Cond} {ci : Nat} {C : String} {T : u_T} {N : Nat} {ty : Nat → FieldType} {own ref : String} {index : Nat} (hts : ∀ w ∈ Ts, w.before args s = true) (hown : s.vm.findClass own = some m.cls) (hK : va_K D cl tys s) (hw : mw D cl A H0 M H locs) (hci : CI Ts cl ci C T N ty) {fs : List Value} (he : M a = some (.inr (ci, fs))) (k : Nat) (hk : k < N) (hlink : Cond.fieldLink own index ref (T k).2.1 (T k).2.2.1 ∈ Ts) (hsame : Cond.sameField ref (T k).1 (T k).2.1 (T k).2.2.1 ∈ Ts) {v : Value} (hv : fs[k]? = some v) (hdg : decode cc pc = .ok (.getfield index, 3))
    (kk : W p l e R s m args below meth c H locs cells slots Q (F0 m (pc + 3) ls (v :: rest))) : W p l e R s m args below meth c H locs cells slots Q (F0 m pc ls (.ref a :: rest)) :=
  va_get hx hb hts hci.2.1 hown hK (mp_one hw.1 he) 0 rfl hci.1 k hk (hts _ hlink) (fun x h => u_same (hts _ hsame) x h) hv hdg kk
theorem m_put (hx : p.tables.exec = Jvm.exec) (hb : c.code = cc) {Ts : List Cond} {ci : Nat} {C : String} {T : u_T} {N : Nat} {ty : Nat → FieldType} {own : String} {index : Nat} (hts : ∀ w ∈ Ts, w.before args s = true) (hown : s.vm.findClass own = some m.cls) (hK : va_K D cl tys s) (hw : mw D cl A H0 M H locs) (hci : CI Ts cl ci C T N ty) {fs : List Value} (he : M a = some (.inr (ci, fs))) (k : Nat) (hk : k < N) (hlink : Cond.fieldLink own index (T k).1 (T k).2.1 (T k).2.2.1 ∈ Ts) (hfin : (T k).2.2.2 = false) {v : Value} (hn : narrow (ty k) v = v) (hfit : fits (ty k) v = true) (hl : k < fs.length) (hdg : decode cc pc = .ok (.putfield index, 3))
    (kk : ∀ (H1 : Heap) (locs1 : List Loc), mw D cl A H0 (mp_up M a (.inr (ci, fs.set k v))) H1 locs1 → W p l e R s m args below meth c H1 locs1 cells slots Q (F0 m (pc + 3) ls rest)) : W p l e R s m args below meth c H locs cells slots Q (F0 m pc ls (v :: .ref a :: rest)) := by
  obtain ⟨q, hq⟩ := mp_idx (mp_lt hw.1 he) he
  exact va_put hx hb hts hci.2.1 ty hci.2.2.1 hci.2.2.2 hown hK (mp_P hw.1 _) (mp_D hw.2.1 _) hw.2.2 q hq hci.1 k hk (hts _ hlink) (fun _ h => h) hfin (hci.2.2.1 k hk) hn hfit hl hdg (fun H1 locs1 hP hD hS => kk H1 locs1 (mw_set hw hq hP hS))
theorem m_putU (hx : p.tables.exec = Jvm.exec) (hb : c.code = cc) {Ts : List Cond} {ci : Nat} {C : String} {T : u_T} {N : Nat} {ty : Nat → FieldType} {own ref : String} {index : Nat} (hts : ∀ w ∈ Ts, w.before args s = true) (hown : s.vm.findClass own = some m.cls) (hK : va_K D cl tys s) (hw : mw D cl A H0 M H locs) (hci : CI Ts cl ci C T N ty) {fs : List Value} (he : M a = some (.inr (ci, fs))) (k : Nat) (hk : k < N) (hlink : Cond.fieldLink own index ref (T k).2.1 (T k).2.2.1 ∈ Ts) (hsame : Cond.sameField ref (T k).1 (T k).2.1 (T k).2.2.1 ∈ Ts) (hfin : (T k).2.2.2 = false) {v : Value} (hn : narrow (ty k) v = v) (hfit : fits (ty k) v = true) (hl : k < fs.length) (hdg : decode cc pc = .ok (.putfield index, 3))
    (kk : ∀ (H1 : Heap) (locs1 : List Loc), mw D cl A H0 (mp_up M a (.inr (ci, fs.set k v))) H1 locs1 → W p l e R s m args below meth c H1 locs1 cells slots Q (F0 m (pc + 3) ls rest)) : W p l e R s m args below meth c H locs cells slots Q (F0 m pc ls (v :: .ref a :: rest)) := by
  obtain ⟨q, hq⟩ := mp_idx (mp_lt hw.1 he) he
  exact va_put hx hb hts hci.2.1 ty hci.2.2.1 hci.2.2.2 hown hK (mp_P hw.1 _) (mp_D hw.2.1 _) hw.2.2 q hq hci.1 k hk (hts _ hlink) (fun x h => u_same (hts _ hsame) x h) hfin (hci.2.2.1 k hk) hn hfit hl hdg (fun H1 locs1 hP hD hS => kk H1 locs1 (mw_set hw hq hP hS))
theorem m_putF (hx : p.tables.exec = Jvm.exec) (hb : c.code = cc) {Ts : List Cond} {ci : Nat} {C : String} {T : u_T} {N : Nat} {ty : Nat → FieldType} {own : String} {index : Nat} (hts : ∀ w ∈ Ts, w.before args s = true) (hown : s.vm.findClass own = some m.cls) (hK : va_K D cl tys s) (hw : mw D cl A H0 M H locs) (hci : CI Ts cl ci C T N ty) {fs : List Value} (he : M a = some (.inr (ci, fs))) (k : Nat) (hk : k < N) (hlink : Cond.fieldLink own index (T k).1 (T k).2.1 (T k).2.2.1 ∈ Ts) (hfin : (T k).2.2.2 = true) (hnm : meth.name = "<init>") (hdecl : (T k).1 = own) {v : Value} (hn : narrow (ty k) v = v) (hfit : fits (ty k) v = true) (hl : k < fs.length) (hdg : decode cc pc = .ok (.putfield index, 3))
    (kk : ∀ (H1 : Heap) (locs1 : List Loc), mw D cl A H0 (mp_up M a (.inr (ci, fs.set k v))) H1 locs1 → W p l e R s m args below meth c H1 locs1 cells slots Q (F0 m (pc + 3) ls rest)) : W p l e R s m args below meth c H locs cells slots Q (F0 m pc ls (v :: .ref a :: rest)) := by
  obtain ⟨q, hq⟩ := mp_idx (mp_lt hw.1 he) he
  exact va_putF hx hb hts hci.2.1 ty hci.2.2.1 hci.2.2.2 hown hK (mp_P hw.1 _) (mp_D hw.2.1 _) hw.2.2 q hq hci.1 k hk (hts _ hlink) (fun _ h => h) hfin hnm hdecl (hci.2.2.1 k hk) hn hfit hl hdg (fun H1 locs1 hP hD hS => kk H1 locs1 (mw_set hw hq hP hS))
theorem m_new (hx : p.tables.exec = Jvm.exec) (hb : c.code = cc) {Ts : List Cond} {ci : Nat} {C : String} {T : u_T} {N : Nat} {ty : Nat → FieldType} {own : String} {index : Nat} (hts : ∀ w ∈ Ts, w.before args s = true) (hown : s.vm.findClass own = some m.cls) (hK : va_K D cl tys s) (hw : mw D cl A H0 M H locs) (hA : ∀ q, H0.size ≤ q → A q) (hci : CI Ts cl ci C T N ty) (hcl : Cond.classLink own index C ∈ Ts) (hinst : Cond.instantiable C N ∈ Ts) (hini : Cond.initialized C ∈ Ts) {fs : List Value} (hfs : ∀ j, j < N → defaultValue (ty j) = vp_V fs j) (hc : cells + 1 ≤ R.cells) (hs : slots + N ≤ R.slots) (hdg : decode cc pc = .ok (.new index, 3))
    (kk : ∀ (q : Nat) (H1 : Heap), M q = none → mw D cl A H0 (mp_up M q (.inr (ci, fs))) H1 locs → W p l e R s m args below meth c H1 locs (cells + 1) (slots + N) Q (F0 m (pc + 3) ls (.ref q :: rest))) : W p l e R s m args below meth c H locs cells slots Q (F0 m pc ls rest) :=
  va_new hx hb hts hci.2.1 ty hci.2.2.1 hown (hts _ hcl) (hts _ hinst) (hts _ hini) hK (mp_P hw.1 H.size) (mp_D hw.2.1 _) hw.2.2 hA hci.1 hfs hc hs hdg (fun q H1 hP hD hS => kk q H1 (mw_new hw hP hD hS).1 (mw_new hw hP hD hS).2)
theorem m_newa (hx : p.tables.exec = Jvm.exec) (hb : c.code = cc) {atype : ArrayType} {Ts : List Cond} (hts : ∀ w ∈ Ts, w.before args s = true) (harr : Cond.arrayClass (newarray.typeOf atype) ∈ Ts) {ty : FieldType} (hty : newarray.typeOf atype = ty) (hK : va_K D cl tys s) (hw : mw D cl A H0 M H locs) (hA : ∀ q, H0.size ≤ q → A q) (t0 : Nat) {cA : ClassId} (ht : tys[t0]? = some (cA, ty)) {n N' : Nat} {a0 : vp_A} (ha : ∀ cA : ClassId, vp_cell cA a0 = arrV cA n (fun _ => defaultValue ty)) (hn : n < 2 ^ 31) (hbytes : n * componentBytes ty ≤ 536870912) (hc : cells + 1 ≤ R.cells) (hs : slots + n ≤ R.slots) (hdg : decode cc pc = .ok (.newarray atype, 2))
    (kk : ∀ (q : Nat) (H1 : Heap), M q = none → mw D cl A H0 (mp_up M q (.inl (cA, a0))) H1 locs → W p l e R s m args below meth c H1 locs (cells + 1) (slots + n) Q (F0 m (pc + 2) ls (.ref q :: rest))) : W p l e R s m args below meth c H locs cells slots Q (F0 m pc ls (.int (nI n) :: rest)) := by
  refine va_newa hx hb (hts _ harr) hty hK (mp_P hw.1 H.size) (mp_D hw.2.1 _) hw.2.2 hA ha (nI_pos hn) (nI_clamp hn) hbytes hc hs hdg (fun q cA' H1 hK' hP hD hS => ?_)
  have h1 := (hK'.2 tys.length (cA', ty) (by rw [List.getElem?_append_right (Nat.le_refl _), Nat.sub_self]; rfl)).2
  have e := ra_inj h1 (hK.2 t0 _ ht).2
  subst e
  exact kk q H1 (mw_new hw hP hD hS).1 (mw_new hw hP hD hS).2
theorem m_newq (hx : p.tables.exec = Jvm.exec) (hb : c.code = cc) {own C : String} {index : Nat} {Ts : List Cond} (hts : ∀ w ∈ Ts, w.before args s = true) (hown : s.vm.findClass own = some m.cls) (hcl : Cond.classLink own index C ∈ Ts) (hover : va_AO C s) (hK : va_K D cl tys s) (hw : mw D cl A H0 M H locs) (hA : ∀ q, H0.size ≤ q → A q) (t0 : Nat) {cA : ClassId} (ht : tys[t0]? = some (cA, .object C)) {n : Nat} (hn : n < 2 ^ 27) (hc : cells + 1 ≤ R.cells) (hs : slots + n ≤ R.slots) (hdg : decode cc pc = .ok (.anewarray index, 3))
    (kk : ∀ (q : Nat) (H1 : Heap), M q = none → mw D cl A H0 (mp_up M q (.inl (cA, n, .inr (.inr (.inr (.inr (fun _ => none))))))) H1 locs → W p l e R s m args below meth c H1 locs (cells + 1) (slots + n) Q (F0 m (pc + 3) ls (.ref q :: rest))) : W p l e R s m args below meth c H locs cells slots Q (F0 m pc ls (.int (nI n) :: rest)) := by
  refine va_newq hx hb hown (hts _ hcl) hover hK (mp_P hw.1 H.size) (mp_D hw.2.1 _) hw.2.2 hA (nI_pos (by omega)) (nI_clamp (by omega)) (by omega) hc hs hdg (fun q cA' H1 hK' hP hD hS => ?_)
  have h1 := (hK'.2 tys.length (cA', .object C) (by rw [List.getElem?_append_right (Nat.le_refl _), Nat.sub_self]; rfl)).2
  have e := ra_inj h1 (hK.2 t0 _ ht).2
  subst e
  exact kk q H1 (mw_new hw hP hD hS).1 (mw_new hw hP hD hS).2
theorem m_sald (hx : p.tables.exec = Jvm.exec) (hb : c.code = cc) (hK : va_K D cl tys s) (hw : mw D cl A H0 M H locs) (t0 : Nat) {cA : ClassId} {n : Nat} {f : Nat → Int32} (he : M a = some (.inl (cA, n, .inl f))) (ht : tys[t0]? = some (cA, .short)) {i : Nat} (hi : i < n) (hn : n < 2 ^ 31) {v : Int32} (hv : f i = v) (hdg : decode cc pc = .ok (.saload, 1))
    (kk : W p l e R s m args below meth c H locs cells slots Q (F0 m (pc + 1) ls (.int v :: rest))) : W p l e R s m args below meth c H locs cells slots Q (F0 m pc ls (.int (nI i) :: .ref a :: rest)) :=
  va_sald hx hb hK (mp_one hw.1 he) 0 t0 rfl ht (vp_in_nI hi hn) hdg (by rw [nI_clamp (by omega), hv]; exact kk)
theorem m_bald (hx : p.tables.exec = Jvm.exec) (hb : c.code = cc) (hK : va_K D cl tys s) (hw : mw D cl A H0 M H locs) (t0 : Nat) {cA : ClassId} {n : Nat} {f : Nat → Int32} (he : M a = some (.inl (cA, n, .inl f))) (ht : tys[t0]? = some (cA, .byte)) {i : Nat} (hi : i < n) (hn : n < 2 ^ 31) {v : Int32} (hv : f i = v) (hdg : decode cc pc = .ok (.baload, 1))
    (kk : W p l e R s m args below meth c H locs cells slots Q (F0 m (pc + 1) ls (.int v :: rest))) : W p l e R s m args below meth c H locs cells slots Q (F0 m pc ls (.int (nI i) :: .ref a :: rest)) :=
  va_bald hx hb hK (mp_one hw.1 he) 0 t0 rfl ht (vp_in_nI hi hn) hdg (by rw [nI_clamp (by omega), hv]; exact kk)
theorem m_zald (hx : p.tables.exec = Jvm.exec) (hb : c.code = cc) (hK : va_K D cl tys s) (hw : mw D cl A H0 M H locs) (t0 : Nat) {cA : ClassId} {n : Nat} {f : Nat → Int32} (he : M a = some (.inl (cA, n, .inl f))) (ht : tys[t0]? = some (cA, .boolean)) {i : Nat} (hi : i < n) (hn : n < 2 ^ 31) {v : Int32} (hv : f i = v) (hdg : decode cc pc = .ok (.baload, 1))
    (kk : W p l e R s m args below meth c H locs cells slots Q (F0 m (pc + 1) ls (.int v :: rest))) : W p l e R s m args below meth c H locs cells slots Q (F0 m pc ls (.int (nI i) :: .ref a :: rest)) :=
  va_zald hx hb hK (mp_one hw.1 he) 0 t0 rfl ht (vp_in_nI hi hn) hdg (by rw [nI_clamp (by omega), hv]; exact kk)
theorem m_iald (hx : p.tables.exec = Jvm.exec) (hb : c.code = cc) (hK : va_K D cl tys s) (hw : mw D cl A H0 M H locs) (t0 : Nat) {cA : ClassId} {n : Nat} {f : Nat → Int32} (he : M a = some (.inl (cA, n, .inl f))) (ht : tys[t0]? = some (cA, .int)) {i : Nat} (hi : i < n) (hn : n < 2 ^ 31) {v : Int32} (hv : f i = v) (hdg : decode cc pc = .ok (.iaload, 1))
    (kk : W p l e R s m args below meth c H locs cells slots Q (F0 m (pc + 1) ls (.int v :: rest))) : W p l e R s m args below meth c H locs cells slots Q (F0 m pc ls (.int (nI i) :: .ref a :: rest)) :=
  va_iald hx hb hK (mp_one hw.1 he) 0 t0 rfl ht (vp_in_nI hi hn) hdg (by rw [nI_clamp (by omega), hv]; exact kk)
theorem m_lald (hx : p.tables.exec = Jvm.exec) (hb : c.code = cc) (hK : va_K D cl tys s) (hw : mw D cl A H0 M H locs) (t0 : Nat) {cA : ClassId} {n : Nat} {f : Nat → Int64} (he : M a = some (.inl (cA, n, .inr (.inl f)))) (ht : tys[t0]? = some (cA, .long)) {i : Nat} (hi : i < n) (hn : n < 2 ^ 31) {v : Int64} (hv : f i = v) (hdg : decode cc pc = .ok (.laload, 1))
    (kk : W p l e R s m args below meth c H locs cells slots Q (F0 m (pc + 1) ls (.long v :: rest))) : W p l e R s m args below meth c H locs cells slots Q (F0 m pc ls (.int (nI i) :: .ref a :: rest)) :=
  va_lald hx hb hK (mp_one hw.1 he) 0 t0 rfl ht (vp_in_nI hi hn) hdg (by rw [nI_clamp (by omega), hv]; exact kk)
theorem m_aald (hx : p.tables.exec = Jvm.exec) (hb : c.code = cc) (hK : va_K D cl tys s) (hw : mw D cl A H0 M H locs) (t0 : Nat) {cA : ClassId} {C : String} {n : Nat} {f : Nat → Option Nat} (he : M a = some (.inl (cA, n, .inr (.inr (.inr (.inr f)))))) (ht : tys[t0]? = some (cA, .object C)) {i : Nat} (hi : i < n) (hn : n < 2 ^ 31) {v : Option Nat} (hv : f i = v) (hdg : decode cc pc = .ok (.aaload, 1))
    (kk : W p l e R s m args below meth c H locs cells slots Q (F0 m (pc + 1) ls (va_rf v :: rest))) : W p l e R s m args below meth c H locs cells slots Q (F0 m pc ls (.int (nI i) :: .ref a :: rest)) :=
  va_aldq hx hb hK (mp_one hw.1 he) 0 t0 rfl ht (vp_in_nI hi hn) hdg (by rw [nI_clamp (by omega), hv]; exact kk)
theorem m_sast (hx : p.tables.exec = Jvm.exec) (hb : c.code = cc) (hK : va_K D cl tys s) (hw : mw D cl A H0 M H locs) (t0 : Nat) {cA : ClassId} {n : Nat} {f f' : Nat → Int32} (he : M a = some (.inl (cA, n, .inl f))) (ht : tys[t0]? = some (cA, .short)) {i : Nat} {x : Int32} (hi : i < n) (hn : n < 2 ^ 31) (hf : upd f i (vp_nar .short x) = f') (hdg : decode cc pc = .ok (.sastore, 1))
    (kk : ∀ (H1 : Heap) (locs1 : List Loc), mw D cl A H0 (mp_up M a (.inl (cA, n, .inl f'))) H1 locs1 → W p l e R s m args below meth c H1 locs1 cells slots Q (F0 m (pc + 1) ls rest)) : W p l e R s m args below meth c H locs cells slots Q (F0 m pc ls (.int x :: .int (nI i) :: .ref a :: rest)) := by
  obtain ⟨q, hq⟩ := mp_idx (mp_lt hw.1 he) he
  refine va_sast hx hb hK (mp_P hw.1 _) (mp_D hw.2.1 _) hw.2.2 q t0 hq ht (vp_in_nI hi hn) hdg (fun H1 locs1 hP hD hS => ?_)
  rw [nI_clamp (by omega), hf] at hP
  exact kk H1 locs1 (mw_set hw hq hP hS)
theorem m_bast (hx : p.tables.exec = Jvm.exec) (hb : c.code = cc) (hK : va_K D cl tys s) (hw : mw D cl A H0 M H locs) (t0 : Nat) {cA : ClassId} {n : Nat} {f f' : Nat → Int32} (he : M a = some (.inl (cA, n, .inl f))) (ht : tys[t0]? = some (cA, .byte)) {i : Nat} {x : Int32} (hi : i < n) (hn : n < 2 ^ 31) (hf : upd f i (vp_nar .byte x) = f') (hdg : decode cc pc = .ok (.bastore, 1))
    (kk : ∀ (H1 : Heap) (locs1 : List Loc), mw D cl A H0 (mp_up M a (.inl (cA, n, .inl f'))) H1 locs1 → W p l e R s m args below meth c H1 locs1 cells slots Q (F0 m (pc + 1) ls rest)) : W p l e R s m args below meth c H locs cells slots Q (F0 m pc ls (.int x :: .int (nI i) :: .ref a :: rest)) := by
  obtain ⟨q, hq⟩ := mp_idx (mp_lt hw.1 he) he
  refine va_bast hx hb hK (mp_P hw.1 _) (mp_D hw.2.1 _) hw.2.2 q t0 hq ht (vp_in_nI hi hn) hdg (fun H1 locs1 hP hD hS => ?_)
  rw [nI_clamp (by omega), hf] at hP
  exact kk H1 locs1 (mw_set hw hq hP hS)
theorem m_zast (hx : p.tables.exec = Jvm.exec) (hb : c.code = cc) (hK : va_K D cl tys s) (hw : mw D cl A H0 M H locs) (t0 : Nat) {cA : ClassId} {n : Nat} {f f' : Nat → Int32} (he : M a = some (.inl (cA, n, .inl f))) (ht : tys[t0]? = some (cA, .boolean)) {i : Nat} {x : Int32} (hi : i < n) (hn : n < 2 ^ 31) (hf : upd f i (vp_nar .boolean x) = f') (hdg : decode cc pc = .ok (.bastore, 1))
    (kk : ∀ (H1 : Heap) (locs1 : List Loc), mw D cl A H0 (mp_up M a (.inl (cA, n, .inl f'))) H1 locs1 → W p l e R s m args below meth c H1 locs1 cells slots Q (F0 m (pc + 1) ls rest)) : W p l e R s m args below meth c H locs cells slots Q (F0 m pc ls (.int x :: .int (nI i) :: .ref a :: rest)) := by
  obtain ⟨q, hq⟩ := mp_idx (mp_lt hw.1 he) he
  refine va_zast hx hb hK (mp_P hw.1 _) (mp_D hw.2.1 _) hw.2.2 q t0 hq ht (vp_in_nI hi hn) hdg (fun H1 locs1 hP hD hS => ?_)
  rw [nI_clamp (by omega), hf] at hP
  exact kk H1 locs1 (mw_set hw hq hP hS)
theorem m_iast (hx : p.tables.exec = Jvm.exec) (hb : c.code = cc) (hK : va_K D cl tys s) (hw : mw D cl A H0 M H locs) (t0 : Nat) {cA : ClassId} {n : Nat} {f f' : Nat → Int32} (he : M a = some (.inl (cA, n, .inl f))) (ht : tys[t0]? = some (cA, .int)) {i : Nat} {x : Int32} (hi : i < n) (hn : n < 2 ^ 31) (hf : upd f i x = f') (hdg : decode cc pc = .ok (.iastore, 1))
    (kk : ∀ (H1 : Heap) (locs1 : List Loc), mw D cl A H0 (mp_up M a (.inl (cA, n, .inl f'))) H1 locs1 → W p l e R s m args below meth c H1 locs1 cells slots Q (F0 m (pc + 1) ls rest)) : W p l e R s m args below meth c H locs cells slots Q (F0 m pc ls (.int x :: .int (nI i) :: .ref a :: rest)) := by
  obtain ⟨q, hq⟩ := mp_idx (mp_lt hw.1 he) he
  refine va_iast hx hb hK (mp_P hw.1 _) (mp_D hw.2.1 _) hw.2.2 q t0 hq ht (vp_in_nI hi hn) hdg (fun H1 locs1 hP hD hS => ?_)
  rw [nI_clamp (by omega), hf] at hP
  exact kk H1 locs1 (mw_set hw hq hP hS)
theorem m_last (hx : p.tables.exec = Jvm.exec) (hb : c.code = cc) (hK : va_K D cl tys s) (hw : mw D cl A H0 M H locs) (t0 : Nat) {cA : ClassId} {n : Nat} {f f' : Nat → Int64} (he : M a = some (.inl (cA, n, .inr (.inl f)))) (ht : tys[t0]? = some (cA, .long)) {i : Nat} {x : Int64} (hi : i < n) (hn : n < 2 ^ 31) (hf : vp_updL f i x = f') (hdg : decode cc pc = .ok (.lastore, 1))
    (kk : ∀ (H1 : Heap) (locs1 : List Loc), mw D cl A H0 (mp_up M a (.inl (cA, n, .inr (.inl f')))) H1 locs1 → W p l e R s m args below meth c H1 locs1 cells slots Q (F0 m (pc + 1) ls rest)) : W p l e R s m args below meth c H locs cells slots Q (F0 m pc ls (.long x :: .int (nI i) :: .ref a :: rest)) := by
  obtain ⟨q, hq⟩ := mp_idx (mp_lt hw.1 he) he
  refine va_last hx hb hK (mp_P hw.1 _) (mp_D hw.2.1 _) hw.2.2 q t0 hq ht (vp_in_nI hi hn) hdg (fun H1 locs1 hP hD hS => ?_)
  rw [nI_clamp (by omega), hf] at hP
  exact kk H1 locs1 (mw_set hw hq hP hS)
theorem m_aast (hx : p.tables.exec = Jvm.exec) (hb : c.code = cc) (hK : va_K D cl tys s) (hw : mw D cl A H0 M H locs) (t0 ci : Nat) {cA : ClassId} {r : vw_C} {n v : Nat} {fv : List Value} {f f' : Nat → Option Nat} (he : M a = some (.inl (cA, n, .inr (.inr (.inr (.inr f)))))) (ht : tys[t0]? = some (cA, .object r.1)) (hv : M v = some (.inr (ci, fv))) (hc : cl[ci]? = some r) {i : Nat} (hi : i < n) (hn : n < 2 ^ 31) (hf : va_up f i (some v) = f') (hdg : decode cc pc = .ok (.aastore, 1))
    (kk : ∀ (H1 : Heap) (locs1 : List Loc), mw D cl A H0 (mp_up M a (.inl (cA, n, .inr (.inr (.inr (.inr f')))))) H1 locs1 → W p l e R s m args below meth c H1 locs1 cells slots Q (F0 m (pc + 1) ls rest)) : W p l e R s m args below meth c H locs cells slots Q (F0 m pc ls (.ref v :: .int (nI i) :: .ref a :: rest)) := by
  obtain ⟨q, hq⟩ := mp_idx (mp_lt hw.1 he) he
  obtain ⟨q2, hq2⟩ := mp_idx (mp_lt hw.1 hv) hv
  refine va_astq hx hb hK (mp_P hw.1 _) (mp_D hw.2.1 _) hw.2.2 q t0 q2 ci hq ht hq2 hc (vp_in_nI hi hn) hdg (fun H1 locs1 hP hD hS => ?_)
  rw [nI_clamp (by omega), hf] at hP
  exact kk H1 locs1 (mw_set hw hq hP hS)
theorem m_aastN (hx : p.tables.exec = Jvm.exec) (hb : c.code = cc) (hK : va_K D cl tys s) (hw : mw D cl A H0 M H locs) (t0 : Nat) {cA : ClassId} {C : String} {n : Nat} {f f' : Nat → Option Nat} (he : M a = some (.inl (cA, n, .inr (.inr (.inr (.inr f)))))) (ht : tys[t0]? = some (cA, .object C)) {i : Nat} (hi : i < n) (hn : n < 2 ^ 31) (hf : va_up f i none = f') (hdg : decode cc pc = .ok (.aastore, 1))
    (kk : ∀ (H1 : Heap) (locs1 : List Loc), mw D cl A H0 (mp_up M a (.inl (cA, n, .inr (.inr (.inr (.inr f')))))) H1 locs1 → W p l e R s m args below meth c H1 locs1 cells slots Q (F0 m (pc + 1) ls rest)) : W p l e R s m args below meth c H locs cells slots Q (F0 m pc ls (.null :: .int (nI i) :: .ref a :: rest)) := by
  obtain ⟨q, hq⟩ := mp_idx (mp_lt hw.1 he) he
  refine va_astqN hx hb hK (mp_P hw.1 _) (mp_D hw.2.1 _) hw.2.2 q t0 hq ht (vp_in_nI hi hn) hdg (fun H1 locs1 hP hD hS => ?_)
  rw [nI_clamp (by omega), hf] at hP
  exact kk H1 locs1 (mw_set hw hq hP hS)
theorem m_aastQ (hx : p.tables.exec = Jvm.exec) (hb : c.code = cc) (hK : va_K D cl tys s) (hw : mw D cl A H0 M H locs) (t0 ci : Nat) {cA : ClassId} {r : vw_C} {n : Nat} {v : Option Nat} {f f' : Nat → Option Nat} (he : M a = some (.inl (cA, n, .inr (.inr (.inr (.inr f)))))) (ht : tys[t0]? = some (cA, .object r.1)) (hv : ∀ b, v = some b → ∃ fv, M b = some (.inr (ci, fv))) (hc : cl[ci]? = some r) {i : Nat} (hi : i < n) (hn : n < 2 ^ 31) (hf : va_up f i v = f') (hdg : decode cc pc = .ok (.aastore, 1))
    (kk : ∀ (H1 : Heap) (locs1 : List Loc), mw D cl A H0 (mp_up M a (.inl (cA, n, .inr (.inr (.inr (.inr f')))))) H1 locs1 → W p l e R s m args below meth c H1 locs1 cells slots Q (F0 m (pc + 1) ls rest)) : W p l e R s m args below meth c H locs cells slots Q (F0 m pc ls (va_rf v :: .int (nI i) :: .ref a :: rest)) := by
  cases v with
  | none => exact m_aastN hx hb hK hw t0 he ht hi hn hf hdg kk
  | some b =>
    obtain ⟨fv, hb2⟩ := hv b rfl
    exact m_aast hx hb hK hw t0 ci he ht hb2 hc hi hn hf hdg kk
theorem m_recv {ci : Nat} {q : vw_C} {fs : List Value} (hK : va_K D cl tys s) (hw : mw D cl A H0 M H locs) (hc : cl[ci]? = some q) (he : M a = some (.inr (ci, fs))) : ∃ cell : Cell, H[a]? = some cell ∧ cell.vm.isStatics = false ∧ s.vm.findClass q.1 = some cell.cls := va_recv hK (mp_one hw.1 he) hc (q0 := 0) rfl
end MC
end
section
theorem ci_T : CI WALL vwCl 0 R_T T_T 6 ty_T := by
  refine ⟨rfl, fun w hw => ?_, by decide +kernel, by decide +kernel⟩
  obtain ⟨k, hk, rfl⟩ := List.mem_map.mp hw
  have hk := List.mem_range.mp hk
  match k, hk with
  | 0, _ => exact wm1 166 rfl rfl
  | 1, _ => exact wm1 168 rfl rfl
  | 2, _ => exact wm1 170 rfl rfl
  | 3, _ => exact wm1 172 rfl rfl
  | 4, _ => exact wm1 174 rfl rfl
  | 5, _ => exact wm1 176 rfl rfl
theorem ci_Tr : CI WALL vwCl 1 R_Tr T_Tr 1 ty_Tr := by
  refine ⟨rfl, fun w hw => ?_, by decide +kernel, by decide +kernel⟩
  obtain ⟨k, hk, rfl⟩ := List.mem_map.mp hw
  have hk := List.mem_range.mp hk
  match k, hk with
  | 0, _ => exact wm1 80 rfl rfl
theorem ci_Tx : CI WALL vwCl 2 R_Tx T_Tx 3 ty_Tx := by
  refine ⟨rfl, fun w hw => ?_, by decide +kernel, by decide +kernel⟩
  obtain ⟨k, hk, rfl⟩ := List.mem_map.mp hw
  have hk := List.mem_range.mp hk
  match k, hk with
  | 0, _ => exact wm1 96 rfl rfl
  | 1, _ => exact wm1 98 rfl rfl
  | 2, _ => exact wm1 100 rfl rfl
theorem ci_N : CI WALL vwCl 3 R_N T_N 10 ty_N := by
  refine ⟨rfl, fun w hw => ?_, by decide +kernel, by decide +kernel⟩
  obtain ⟨k, hk, rfl⟩ := List.mem_map.mp hw
  have hk := List.mem_range.mp hk
  match k, hk with
  | 0, _ => exact wm1 135 rfl rfl
  | 1, _ => exact wm1 137 rfl rfl
  | 2, _ => exact wm1 139 rfl rfl
  | 3, _ => exact wm1 141 rfl rfl
  | 4, _ => exact wm1 143 rfl rfl
  | 5, _ => exact wm1 145 rfl rfl
  | 6, _ => exact wm1 147 rfl rfl
  | 7, _ => exact wm1 149 rfl rfl
  | 8, _ => exact wm1 151 rfl rfl
  | 9, _ => exact wm1 153 rfl rfl
theorem ci_Te : CI WALL vwCl 4 R_Te T_Te 2 ty_Te := by
  refine ⟨rfl, fun w hw => ?_, by decide +kernel, by decide +kernel⟩
  obtain ⟨k, hk, rfl⟩ := List.mem_map.mp hw
  have hk := List.mem_range.mp hk
  match k, hk with
  | 0, _ => exact wm1 67 rfl rfl
  | 1, _ => exact wm1 69 rfl rfl
theorem ci_Rp : CI WALL vwCl 5 R_Rp T_Rp 4 ty_Rp := by
  refine ⟨rfl, fun w hw => ?_, by decide +kernel, by decide +kernel⟩
  obtain ⟨k, hk, rfl⟩ := List.mem_map.mp hw
  have hk := List.mem_range.mp hk
  match k, hk with
  | 0, _ => exact wm2 175 rfl rfl
  | 1, _ => exact wm2 177 rfl rfl
  | 2, _ => exact wm2 179 rfl rfl
  | 3, _ => exact wm2 181 rfl rfl
theorem ci_Me : CI WALL vwCl 6 R_Me T_Me 3 ty_Me := by
  refine ⟨rfl, fun w hw => ?_, by decide +kernel, by decide +kernel⟩
  obtain ⟨k, hk, rfl⟩ := List.mem_map.mp hw
  have hk := List.mem_range.mp hk
  match k, hk with
  | 0, _ => exact wm2 63 rfl rfl
  | 1, _ => exact wm2 65 rfl rfl
  | 2, _ => exact wm2 67 rfl rfl
theorem ci_AL : CI WALL vwCl 7 R_AL T_AL 3 ty_AL := by
  refine ⟨rfl, fun w hw => ?_, by decide +kernel, by decide +kernel⟩
  obtain ⟨k, hk, rfl⟩ := List.mem_map.mp hw
  have hk := List.mem_range.mp hk
  match k, hk with
  | 0, _ => exact wm1 54 rfl rfl
  | 1, _ => exact wm1 50 rfl rfl
  | 2, _ => exact wm1 52 rfl rfl
theorem ci_M : CI WALL vwCl 8 R_M T_M 21 ty_M := by
  refine ⟨rfl, fun w hw => ?_, by decide +kernel, by decide +kernel⟩
  obtain ⟨k, hk, rfl⟩ := List.mem_map.mp hw
  have hk := List.mem_range.mp hk
  match k, hk with
  | 0, _ => exact wm3 93 rfl rfl
  | 1, _ => exact wm3 95 rfl rfl
  | 2, _ => exact wm3 97 rfl rfl
  | 3, _ => exact wm3 99 rfl rfl
  | 4, _ => exact wm3 101 rfl rfl
  | 5, _ => exact wm3 103 rfl rfl
  | 6, _ => exact wm3 105 rfl rfl
  | 7, _ => exact wm3 107 rfl rfl
  | 8, _ => exact wm3 109 rfl rfl
  | 9, _ => exact wm3 111 rfl rfl
  | 10, _ => exact wm3 113 rfl rfl
  | 11, _ => exact wm3 115 rfl rfl
  | 12, _ => exact wm3 117 rfl rfl
  | 13, _ => exact wm3 119 rfl rfl
  | 14, _ => exact wm3 121 rfl rfl
  | 15, _ => exact wm3 123 rfl rfl
  | 16, _ => exact wm3 125 rfl rfl
  | 17, _ => exact wm3 127 rfl rfl
  | 18, _ => exact wm3 129 rfl rfl
  | 19, _ => exact wm3 131 rfl rfl
  | 20, _ => exact wm3 133 rfl rfl
  | j + 21, hk => exact absurd hk (by omega)
/-! what a state's tables give everywhere -/
section ENV
abbrev Ev : Type := va_G × (Nat → ClassId) × Nat
def tysE (E : Ev) : List (ClassId × FieldType) := [(E.2.1 0, .object "TreeRevisions$Node"), (E.2.1 1, .object "TreeRevisions$Tree"), (E.2.1 2, .object "TreeRevisions$Transaction"), (E.2.1 3, .object "java/lang/Object"), (E.2.1 4, .short), (E.2.1 5, .byte), (E.2.1 6, .boolean), (E.2.1 7, .int), (E.2.1 8, .long)]
def NW (U : State) : Prop := va_Nw (.methodLinkNest R_T 44 y_Tr_init R_T) U ∧ va_Nw (.methodLinkNest R_T 45 y_Tx_init R_T) U ∧ va_Nw (.methodLinkNest R_Tx 11 y_Tr_init R_T) U ∧ va_Nw (.methodLinkNest R_Tx 40 y_T_kindOf R_T) U ∧ va_Nw (.methodLinkNest R_T 141 y_Me_conflictAt R_T) U ∧ va_Nw (.methodLinkNest R_Me 62 y_T_kindOf R_T) U ∧ va_Nw (.methodLinkNest R_T 144 y_Me_mergeAt R_T) U
def AOs (U : State) : Prop := va_AO "TreeRevisions$Tree" U ∧ va_AO "TreeRevisions$Transaction" U ∧ va_AO "TreeRevisions$Node" U ∧ va_AO "java/lang/Object" U
def CSs (U : State) : Prop := va_Nw (.castable "TreeRevisions$Representation" "TreeRevisions$Representation") U ∧ va_Nw (.castable "TreeRevisions$Representation" "java/lang/Object") U
def EN (E : Ev) (A : Nat → Prop) (U : State) (H : Heap) : Prop := va_K E.1 vwCl (tysE E) U ∧ (NW U ∧ AOs U ∧ CSs U) ∧ va_Z "java/util/ArrayList" "DEFAULTCAPACITY_EMPTY_ELEMENTDATA" "[Ljava/lang/Object;" (.ref E.2.2) A U H ∧ va_T (.object "java/lang/Object") E.2.2 0 (fun _ => .null) A U H
theorem EN.warm {E : Ev} {A : Nat → Prop} {s U : State} {H : Heap} (hW : s.WarmedH U.vm) (h : EN E A s H) : EN E A U H := by
  obtain ⟨h1, ⟨⟨n0, n1, n2, n3, n4, n5, n6⟩, ⟨a0, a1, a2, a3⟩, ⟨c0, c1⟩⟩, h3, h4⟩ := h
  exact ⟨va_K.moved hW.alike h1, ⟨⟨va_Nw.warmM hW n0, va_Nw.warmM hW n1, va_Nw.warmM hW n2, va_Nw.warmM hW n3, va_Nw.warmM hW n4, va_Nw.warmM hW n5, va_Nw.warmM hW n6⟩, ⟨va_AO.moved hW.alike a0, va_AO.moved hW.alike a1, va_AO.moved hW.alike a2, va_AO.moved hW.alike a3⟩, ⟨va_Nw.warmC hW c0, va_Nw.warmC hW c1⟩⟩, va_Z.moved hW.alike h3, va_T.moved hW.alike h4⟩
theorem EN.vm {E : Ev} {A : Nat → Prop} {u U : State} {H : Heap} (hv : u.vm = U.vm) (h : EN E A u H) : EN E A U H := by
  have al : u.vm.Alike U.vm := hv ▸ Vm.Alike.refl u.vm
  obtain ⟨h1, ⟨⟨n0, n1, n2, n3, n4, n5, n6⟩, ⟨a0, a1, a2, a3⟩, ⟨c0, c1⟩⟩, h3, h4⟩ := h
  exact ⟨va_K.moved al h1, ⟨⟨va_Nw.same rfl hv n0, va_Nw.same rfl hv n1, va_Nw.same rfl hv n2, va_Nw.same rfl hv n3, va_Nw.same rfl hv n4, va_Nw.same rfl hv n5, va_Nw.same rfl hv n6⟩, ⟨va_AO.moved al a0, va_AO.moved al a1, va_AO.moved al a2, va_AO.moved al a3⟩, ⟨va_Nw.same rfl hv c0, va_Nw.same rfl hv c1⟩⟩, va_Z.moved al h3, va_T.moved al h4⟩
theorem EN.kept {E : Ev} {A A' : Nat → Prop} {U : State} {H0 H : Heap} {locs : List Loc} (h : EN E A U H0) (hS : va_S A H0 H locs) (hA : ∀ q, A' q → A q) : EN E A' U H :=
  ⟨h.1, h.2.1, (va_Z.kept h.2.2.1 (fun a h1 h2 => hS.2.1 a h1 h2)).narrow hA, (va_T.kept h.2.2.2 (fun a h1 h2 => hS.2.1 a h1 h2)).narrow hA⟩
end ENV
end
section
/-! contracts over the map: start, end, calls -/
section CT
def mPc (E : Ev) (as : List Value) (M : mp_M) (sz : Nat) : Array Value → State → Prop := va_Pc as (fun U => U.heap.size = sz ∧ mp_ok E.1 vwCl M U.heap ∧ EN E (mfr M sz) U U.heap)
def mB (E : Ev) (A : Nat → Prop) (M' : mp_M) (t : State) : Prop := mp_ok E.1 vwCl M' t.heap ∧ ∀ a, M' a ≠ none → A a
def FX (E : Ev) (p : Program) (s : State) (m : MethodId) (meth : Method) (c : Code) (cd : ByteArray) (nl : Nat) (rt : Option FieldType) (own : String) (args : Array Value) (nm : String) (A : Nat → Prop) : Prop :=
  CallFix p m c cd nl s args WALL own ∧ EN E A s s.heap ∧ (∀ q, s.heap.size ≤ q → A q) ∧ meth.sig.returnType = rt ∧ meth.locks = false ∧ meth.name = nm
abbrev MCv (l : Launch) (E : Ev) (y : MethodName) (cd : ByteArray) (nl : Nat) (rt : Option FieldType) (fr lo mc ms : Nat) (as : List Value) (M : mp_M) (sz : Nat) (P : mp_M → Prop) : Prop := Met l y (.code y cd nl rt :: WALL) { frames := fr, cells := mc, slots := ms, locals := lo } (mPc E as M sz) (va_Qv P (mB E (mfr M sz)) (mfr M sz)) mc ms (mfr M sz)
abbrev MCi (l : Launch) (E : Ev) (y : MethodName) (cd : ByteArray) (nl : Nat) (rt : Option FieldType) (fr lo mc ms : Nat) (as : List Value) (M : mp_M) (sz : Nat) (P : Int32 → mp_M → Prop) : Prop := Met l y (.code y cd nl rt :: WALL) { frames := fr, cells := mc, slots := ms, locals := lo } (mPc E as M sz) (va_Qi P (mB E (mfr M sz)) (mfr M sz)) mc ms (mfr M sz)
abbrev MCl (l : Launch) (E : Ev) (y : MethodName) (cd : ByteArray) (nl : Nat) (rt : Option FieldType) (fr lo mc ms : Nat) (as : List Value) (M : mp_M) (sz : Nat) (P : Int64 → mp_M → Prop) : Prop := Met l y (.code y cd nl rt :: WALL) { frames := fr, cells := mc, slots := ms, locals := lo } (mPc E as M sz) (va_Ql P (mB E (mfr M sz)) (mfr M sz)) mc ms (mfr M sz)
abbrev MCq (l : Launch) (E : Ev) (y : MethodName) (cd : ByteArray) (nl : Nat) (rt : Option FieldType) (fr lo mc ms : Nat) (as : List Value) (M : mp_M) (sz : Nat) (P : Option Nat → mp_M → Prop) : Prop := Met l y (.code y cd nl rt :: WALL) { frames := fr, cells := mc, slots := ms, locals := lo } (mPc E as M sz) (va_Qq P (mB E (mfr M sz)) (mfr M sz)) mc ms (mfr M sz)
theorem mc_of {l : Launch} {E : Ev} {y : MethodName} {cd : ByteArray} {nl : Nat} {rt : Option FieldType} {fr lo mc ms : Nat} {as : List Value} {M : mp_M} {sz : Nat} {Qc : Array Value → State → Outcome → State → Prop} {free : Addr → Prop} (own : String) (ho : y.cls = own) (vs : List (Option Value)) (hy : plainName y.cls = true) (hlen : (lg_sl as).length ≤ nl) (hvs : lh_e as ++ List.replicate (nl - (lg_sl as).length) none = vs)
    (body : ∀ (p : Program) (e : Env) (R : Room) (s : State) (m : MethodId) (ag : Array Value) (below : List Frame) (meth : Method) (c : Code) (ls : Array Slot) (Q : State → Prop) (A : Nat → Prop), FX E p s m meth c cd nl rt own ag y.name A → A = mfr M sz → Q = MQ below Qc ag s mc ms free → (fr ≤ R.frames ∧ lo ≤ R.locals ∧ mc ≤ R.cells ∧ ms ≤ R.slots) → sz = s.heap.size → mw E.1 vwCl A s.heap M s.heap [] → lh ls vs →
      W p l e R s m ag below meth c s.heap [] 0 0 Q (F0 m 0 ls [])) : Met l y (.code y cd nl rt :: WALL) { frames := fr, cells := mc, slots := ms, locals := lo } (mPc E as M sz) Qc mc ms free := by
  refine Met.ofW (cc := cd) (maxL := nl) (ret := rt) hy rfl ?_
  intro p e s m args below meth c s₁ B hml hv
  obtain ⟨rfl, hsz, hP, hE⟩ := hv
  have hts := atoms_spec (ws := .code y cd nl rt :: WALL) B.pre
  have hown : s.vm.findClass own = some m.cls := by rw [← ho]; exact findClass_of_methodNamed B.named
  have hl := lh_entry as hlen
  rw [hvs] at hl
  rw [lg_entry_eq]
  generalize (lg_sl as ++ List.replicate (nl - (lg_sl as).length) Slot.unset).toArray = ls at hl ⊢
  refine body p e _ s m _ below meth c ls _ _ ⟨⟨B.exec, B.bytes, hml, hown, fun w h => hts w (List.mem_cons_of_mem _ h)⟩, hE, fun q h => Or.inr (by rw [← hsz]; exact h), B.returns, B.notSynchronized, (name_of_methodNamed B.named B.method).1⟩ rfl rfl ⟨Nat.le_refl _, Nat.le_refl _, Nat.le_refl _, Nat.le_refl _⟩ hsz.symm ?_ hl
  have h := mw_rf hP
  rw [hsz] at h
  exact h
variable {p : Program} {l : Launch} {e : Env} {R : Room} {s : State} {m : MethodId} {args : Array Value} {below : List Frame} {meth : Method} {c : Code} {H : Heap} {locs : List Loc} {cells slots : Nat} {Q : State → Prop}
variable {cc : ByteArray} {pc : Nat} {ls : Array Slot} {rest st0 : List Value} {E : Ev} {A A1 : Nat → Prop} {M : mp_M} {H0 : Heap} {a : Array Value}
theorem x_retv {P : mp_M → Prop} {mc ms : Nat} (hQ : Q = MQ below (va_Qv P (mB E A) A) args s mc ms A) (hx : p.tables.exec = Jvm.exec) (hb : c.code = cc) (hr : meth.sig.returnType = none) (hlk : meth.locks = false) (hw : mw E.1 vwCl A s.heap M H locs) (hc : cells ≤ mc) (hs : slots ≤ ms) (hdg : decode cc pc = .ok (.return_, 1)) (hP : P M) : W p l e R s m args below meth c H locs cells slots Q (F0 m pc ls []) := by
  subst hQ
  exact W.widen hc hs (W.vret hx hb hr (fun t ht hW => ⟨⟨M, rfl, hP, by rw [ht]; exact hw.1, hw.2.1⟩, hw.2.2.F ht⟩) hw.2.2.2.2 hdg hlk)
theorem x_reti {P : Int32 → mp_M → Prop} {mc ms : Nat} {ty : FieldType} {v : Int32} (hQ : Q = MQ below (va_Qi P (mB E A) A) args s mc ms A) (hx : p.tables.exec = Jvm.exec) (hb : c.code = cc) (hr : meth.sig.returnType = some ty) (hlk : meth.locks = false) (hn : narrow ty (.int v) = .int v) (hw : mw E.1 vwCl A s.heap M H locs) (hc : cells ≤ mc) (hs : slots ≤ ms) (hdg : decode cc pc = .ok (.ireturn, 1)) (hP : P v M) : W p l e R s m args below meth c H locs cells slots Q (F0 m pc ls [.int v]) := by
  subst hQ
  exact W.widen hc hs (W.zret hx hb hr hn (fun t ht hW => ⟨⟨v, M, rfl, hP, by rw [ht]; exact hw.1, hw.2.1⟩, hw.2.2.F ht⟩) hw.2.2.2.2 hdg hlk)
theorem x_retl {P : Int64 → mp_M → Prop} {mc ms : Nat} {v : Int64} (hQ : Q = MQ below (va_Ql P (mB E A) A) args s mc ms A) (hx : p.tables.exec = Jvm.exec) (hb : c.code = cc) (hr : meth.sig.returnType = some .long) (hlk : meth.locks = false) (hw : mw E.1 vwCl A s.heap M H locs) (hc : cells ≤ mc) (hs : slots ≤ ms) (hdg : decode cc pc = .ok (.lreturn, 1)) (hP : P v M) : W p l e R s m args below meth c H locs cells slots Q (F0 m pc ls [.long v]) := by
  subst hQ
  exact W.widen hc hs (W.lret hx hb hr (fun t ht hW => ⟨⟨v, M, rfl, hP, by rw [ht]; exact hw.1, hw.2.1⟩, hw.2.2.F ht⟩) hw.2.2.2.2 hdg hlk)
theorem x_retq {P : Option Nat → mp_M → Prop} {mc ms : Nat} {C : String} {v : Option Nat} (hQ : Q = MQ below (va_Qq P (mB E A) A) args s mc ms A) (hx : p.tables.exec = Jvm.exec) (hb : c.code = cc) (hr : meth.sig.returnType = some (.object C)) (hlk : meth.locks = false) (hw : mw E.1 vwCl A s.heap M H locs) (hc : cells ≤ mc) (hs : slots ≤ ms) (hdg : decode cc pc = .ok (.areturn, 1)) (hP : P v M) : W p l e R s m args below meth c H locs cells slots Q (F0 m pc ls [va_rf v]) := by
  subst hQ
  exact W.widen hc hs (W.aret hx hb hr (Or.inl ⟨C, rfl⟩) (va_rf_or v) (fun t ht hW => ⟨⟨v, M, rfl, hP, by rw [ht]; exact hw.1, hw.2.1⟩, hw.2.2.F ht⟩) hw.2.2.2.2 hdg hlk)
theorem x_retr {P : Option Nat → mp_M → Prop} {mc ms : Nat} {C : String} {v : Nat} (hQ : Q = MQ below (va_Qq P (mB E A) A) args s mc ms A) (hx : p.tables.exec = Jvm.exec) (hb : c.code = cc) (hr : meth.sig.returnType = some (.object C)) (hlk : meth.locks = false) (hw : mw E.1 vwCl A s.heap M H locs) (hc : cells ≤ mc) (hs : slots ≤ ms) (hdg : decode cc pc = .ok (.areturn, 1)) (hP : P (some v) M) : W p l e R s m args below meth c H locs cells slots Q (F0 m pc ls [.ref v]) := by
  subst hQ
  exact x_retq (v := some v) rfl hx hb hr hlk hw hc hs hdg hP
section
variable {mc ms : Nat}
theorem m_callv {P : mp_M → Prop} (hr : va_Run p l e R s m args below meth c H locs cells slots mc ms (F0 m pc ls st0) rest (va_Qv P (mB E A1) A1 a) A1) (hw : mw E.1 vwCl A H0 M H locs) (hA1 : ∀ q, A1 q → A q)
    (kk : ∀ (M' : mp_M) (H1 : Heap) (locs1 : List Loc), P M' → mw E.1 vwCl A H0 M' H1 locs1 → W p l e R s m args below meth c H1 locs1 (cells + mc) (slots + ms) Q (F0 m (pc + 3) ls rest)) : W p l e R s m args below meth c H locs cells slots Q (F0 m pc ls st0) :=
  va_callv hr hw.2.2 (fun q _ h => hA1 q h) hA1 (fun u t H1 locs1 ht hvm hp hB hz hk hS => kk u H1 locs1 hp ⟨by rw [← ht]; exact hB.1, fun a ha => hA1 a (hB.2 a ha), hS⟩)
theorem m_calli {P : Int32 → mp_M → Prop} (hr : va_Run p l e R s m args below meth c H locs cells slots mc ms (F0 m pc ls st0) rest (va_Qi P (mB E A1) A1 a) A1) (hw : mw E.1 vwCl A H0 M H locs) (hA1 : ∀ q, A1 q → A q)
    (kk : ∀ (r : Int32) (M' : mp_M) (H1 : Heap) (locs1 : List Loc), P r M' → mw E.1 vwCl A H0 M' H1 locs1 → W p l e R s m args below meth c H1 locs1 (cells + mc) (slots + ms) Q (F0 m (pc + 3) ls (.int r :: rest))) : W p l e R s m args below meth c H locs cells slots Q (F0 m pc ls st0) :=
  va_calli hr hw.2.2 (fun q _ h => hA1 q h) hA1 (fun r u t H1 locs1 ht hvm hp hB hz hk hS => kk r u H1 locs1 hp ⟨by rw [← ht]; exact hB.1, fun a ha => hA1 a (hB.2 a ha), hS⟩)
theorem m_calll {P : Int64 → mp_M → Prop} (hr : va_Run p l e R s m args below meth c H locs cells slots mc ms (F0 m pc ls st0) rest (va_Ql P (mB E A1) A1 a) A1) (hw : mw E.1 vwCl A H0 M H locs) (hA1 : ∀ q, A1 q → A q)
    (kk : ∀ (r : Int64) (M' : mp_M) (H1 : Heap) (locs1 : List Loc), P r M' → mw E.1 vwCl A H0 M' H1 locs1 → W p l e R s m args below meth c H1 locs1 (cells + mc) (slots + ms) Q (F0 m (pc + 3) ls (.long r :: rest))) : W p l e R s m args below meth c H locs cells slots Q (F0 m pc ls st0) :=
  va_calll hr hw.2.2 (fun q _ h => hA1 q h) hA1 (fun r u t H1 locs1 ht hvm hp hB hz hk hS => kk r u H1 locs1 hp ⟨by rw [← ht]; exact hB.1, fun a ha => hA1 a (hB.2 a ha), hS⟩)
theorem m_callq {P : Option Nat → mp_M → Prop} (hr : va_Run p l e R s m args below meth c H locs cells slots mc ms (F0 m pc ls st0) rest (va_Qq P (mB E A1) A1 a) A1) (hw : mw E.1 vwCl A H0 M H locs) (hA1 : ∀ q, A1 q → A q)
    (kk : ∀ (r : Option Nat) (M' : mp_M) (H1 : Heap) (locs1 : List Loc), P r M' → mw E.1 vwCl A H0 M' H1 locs1 → W p l e R s m args below meth c H1 locs1 (cells + mc) (slots + ms) Q (F0 m (pc + 3) ls (va_rf r :: rest))) : W p l e R s m args below meth c H locs cells slots Q (F0 m pc ls st0) :=
  va_callq hr hw.2.2 (fun q _ h => hA1 q h) hA1 (fun r u t H1 locs1 ht hvm hp hB hz hk hS => kk r u H1 locs1 hp ⟨by rw [← ht]; exact hB.1, fun a ha => hA1 a (hB.2 a ha), hS⟩)
end
theorem m_blind {as : List Value} {sz : Nat} : FrameBlind (mPc E as M sz) := by
  intro a U g mk q
  obtain ⟨h1, h2, h3, h4⟩ := q
  exact ⟨h1, h2, h3, EN.vm (u := U) (U := U.calling g mk a) rfl h4⟩
theorem m_pre {As : List Value} (hE : EN E A s s.heap) (hA : ∀ q, s.heap.size ≤ q → A q) (hw : mw E.1 vwCl A s.heap M H locs) : PreS s H (mPc E As M H.size) As :=
  ⟨m_blind, fun U hU hW => ⟨rfl, by rw [hU], by rw [hU]; exact hw.1, by rw [hU]; exact EN.warm hW (EN.kept hE hw.2.2 (mfr_in hw hA))⟩⟩
theorem good_in {y : MethodName} {cd : ByteArray} {nl : Nat} {rt : Option FieldType} (h4 : Cond.code y cd nl rt ∈ WALL) : GoodIn WALL (.code y cd nl rt :: WALL) := by
  intro w h
  rcases List.mem_cons.mp h with rfl | h
  · exact ⟨h4, Or.inl rfl⟩
  · exact ⟨h, good_of_word (WALL_good w h)⟩
section
variable {y : MethodName} {cd : ByteArray} {nl nL mc ms n index : Nat} {rt : Option FieldType} {rm : Room} {Qc : Array Value → State → Outcome → State → Prop} {free : Addr → Prop} {own : String} {As : List Value} {b ci : Nat}
theorem k_S (F : CallFix p m c cc nL s args WALL own) (hE : EN E A s s.heap) (hA : ∀ q, s.heap.size ≤ q → A q) (hw : mw E.1 vwCl A s.heap M H locs) (hM : Met l y (.code y cd nl rt :: WALL) rm (mPc E As M H.size) Qc mc ms free) (h1 : Cond.methodLink own index y ∈ WALL) (h2 : Cond.static y ∈ WALL) (h3 : Cond.initialized y.cls ∈ WALL) (h4 : Cond.code y cd nl rt ∈ WALL) (hrc : rm.cells = mc) (hrs : rm.slots = ms)
    (hd : y.cls ≠ "java/lang/invoke/MethodHandle" ∧ y.cls ≠ "java/lang/invoke/VarHandle" ∧ (parseMethodDescriptor y.desc).map (fun d => d.parameters.length) = some n) (hR : rm.frames + 1 ≤ R.frames ∧ 8 + (nl + 11) + rm.locals ≤ R.locals) (hn : As.length = n) (hsize : ls.size = nL) (hst : st0 = As.reverse ++ rest) (hW : (rest.map fun v => v.category).sum ≤ 8) (hdg : decode cc pc = .ok (.invokestatic index, 3)) (hf : cells + mc ≤ R.cells ∧ slots + ms ≤ R.slots) :
    va_Run p l e R s m args below meth c H locs cells slots mc ms (F0 m pc ls st0) rest (Qc As.toArray) free := by
  have ht := F.2.2.2.2
  exact va_runS F hM ⟨callB_of n ht (good_in h4) rfl hrc hrs (ht _ h3) (ht _ h1) hd hR, ht _ h2⟩ (m_pre hE hA hw) rfl hn hsize hst (lv_room hW) hdg hf
theorem k_V (F : CallFix p m c cc nL s args WALL own) (hE : EN E A s s.heap) (hA : ∀ q, s.heap.size ≤ q → A q) (hw : mw E.1 vwCl A s.heap M H locs) (hM : Met l y (.code y cd nl rt :: WALL) rm (mPc E (.ref b :: As) M H.size) Qc mc ms free) {q : vw_C} {fs : List Value} (hc : vwCl[ci]? = some q) (hq : q.1 = y.cls) (he : M b = some (.inr (ci, fs))) (h1 : Cond.methodLink own index y ∈ WALL) (h2 : Cond.instanceMethod y ∈ WALL) (h5 : Cond.selects y.cls y y ∈ WALL) (h3 : Cond.initialized y.cls ∈ WALL) (h4 : Cond.code y cd nl rt ∈ WALL) (hrc : rm.cells = mc) (hrs : rm.slots = ms)
    (hd : y.cls ≠ "java/lang/invoke/MethodHandle" ∧ y.cls ≠ "java/lang/invoke/VarHandle" ∧ (parseMethodDescriptor y.desc).map (fun d => d.parameters.length) = some n) (hR : rm.frames + 1 ≤ R.frames ∧ 8 + (nl + 11) + rm.locals ≤ R.locals) (hn : As.length = n) (hsize : ls.size = nL) (hst : st0 = As.reverse ++ .ref b :: rest) (hW : (rest.map fun v => v.category).sum ≤ 8) (hdg : decode cc pc = .ok (.invokevirtual index, 3)) (hf : cells + mc ≤ R.cells ∧ slots + ms ≤ R.slots) :
    va_Run p l e R s m args below meth c H locs cells slots mc ms (F0 m pc ls st0) rest (Qc (.ref b :: As).toArray) free := by
  have ht := F.2.2.2.2
  have hp := m_pre (As := .ref b :: As) hE hA hw
  exact va_runV (C := y.cls) F hM ⟨callB_of n ht (good_in h4) rfl hrc hrs (ht _ h3) (ht _ h1) hd hR, ht _ h2, ht _ h5⟩ ⟨hp.1, by rw [← hq]; exact m_recv hE.1 hw hc he, hp.2⟩ rfl hn hsize hst (lv_room hW) hdg hf
theorem k_I (F : CallFix p m c cc nL s args WALL own) (hE : EN E A s s.heap) (hA : ∀ q, s.heap.size ≤ q → A q) (hw : mw E.1 vwCl A s.heap M H locs) (hM : Met l y (.code y cd nl none :: WALL) rm (mPc E (.ref b :: As) M H.size) Qc mc ms free) (h1 : Cond.methodLink own index y ∈ WALL) (h2 : Cond.instanceMethod y ∈ WALL) (h3 : Cond.initialized y.cls ∈ WALL) (h4 : Cond.code y cd nl none ∈ WALL) (h6 : y.name = "<init>") (hrc : rm.cells = mc) (hrs : rm.slots = ms)
    (hd : y.cls ≠ "java/lang/invoke/MethodHandle" ∧ y.cls ≠ "java/lang/invoke/VarHandle" ∧ (parseMethodDescriptor y.desc).map (fun d => d.parameters.length) = some n) (hR : rm.frames + 1 ≤ R.frames ∧ 8 + (nl + 11) + rm.locals ≤ R.locals) (hn : As.length = n) (hsize : ls.size = nL) (hst : st0 = As.reverse ++ .ref b :: rest) (hW : (rest.map fun v => v.category).sum ≤ 8) (hdg : decode cc pc = .ok (.invokespecial index, 3)) (hf : cells + mc ≤ R.cells ∧ slots + ms ≤ R.slots) :
    va_Run p l e R s m args below meth c H locs cells slots mc ms (F0 m pc ls st0) rest (Qc (.ref b :: As).toArray) free := by
  have ht := F.2.2.2.2
  exact va_runI F hM ⟨callB_of n ht (good_in h4) rfl hrc hrs (ht _ h3) (ht _ h1) hd hR, h6, ht _ h2⟩ (m_pre hE hA hw) rfl hn hsize hst (lv_room hW) hdg hf
end
end CT
end
section
/-! paths and the state, as numbers -/
section PU
def bz (b : Bool) : Int32 := if b = true then nI 1 else nI 0
/-- weight of a name behind d names -/
def pu (d : Nat) : Nat := if d = 0 then 1 else if d = 1 then 5 else if d = 2 then 25 else 125
/-- how many names -/
def pd (p : Nat) : Nat := if p = 0 then 0 else if p < 5 then 1 else if p < 25 then 2 else 3
/-- a path -/
def pg (p : Nat) : Prop := p < 125 ∧ (0 < p % 5 ∨ p = 0) ∧ (0 < p / 5 % 5 ∨ p < 5)
def pgb (p : Nat) : Bool := decide (p < 125) && (decide (0 < p % 5) || decide (p = 0)) && (decide (0 < p / 5 % 5) || decide (p < 5))
theorem pgb_t {p : Nat} : pgb p = true ↔ pg p := by simp [pgb, pg, and_assoc]
/-- the path above -/
def pp (p : Nat) : Nat := p % pu (pd p - 1)
def pun (w p : Nat) : Bool := w % pu (pd p) == p
/-- where w goes when f goes to g -/
def pm (w f g : Nat) : Nat := g + w / pu (pd f) * pu (pd g)
/-- an int as a path: 125 where it is none -/
def ix (x : Int32) : Nat := if 0 ≤ x ∧ x ≤ nI 124 then x.toNatClampNeg else 125
theorem ix_n {k : Nat} (h : k < 125) : ix (nI k) = k := by
  unfold ix
  rw [if_pos ⟨nI_pos' (by omega), nI_le (by omega) (by decide)⟩, nI_clamp (by omega)]
theorem ix_lt {x : Int32} (h : x < 0) : ix x = 125 := by
  unfold ix
  rw [if_neg]
  rintro ⟨a, -⟩
  rw [Int32.lt_iff_toInt_lt] at h
  rw [Int32.le_iff_toInt_le] at a
  omega
theorem ix_gt {x : Int32} (h : ¬ x ≤ nI 124) : ix x = 125 := by
  unfold ix
  rw [if_neg (fun z => h z.2)]
theorem ix_le (x : Int32) : ix x ≤ 125 := by
  unfold ix
  by_cases h : 0 ≤ x ∧ x ≤ nI 124
  · rw [if_pos h]
    obtain ⟨k, hk, rfl⟩ := nI_of2 (M := nI 124) (n := 124) (by decide) (fun z => by
      have h1 := h.1
      rw [Int32.lt_iff_toInt_lt] at z
      rw [Int32.le_iff_toInt_le] at h1
      omega) h.2
    rw [nI_clamp (by omega)]
    omega
  · rw [if_neg h]
    exact Nat.le_refl _
theorem pg_125 : ¬ pg 125 := by unfold pg; omega
theorem pu_lt (d : Nat) : 0 < pu d ∧ pu d ≤ 125 := by
  unfold pu
  split
  · omega
  · split
    · omega
    · split <;> omega
theorem pd_le (p : Nat) : pd p ≤ 3 := by
  unfold pd
  split
  · omega
  · split
    · omega
    · split <;> omega
theorem bz_t {b : Bool} (h : b = true) : nI 1 = bz b := by rw [h]; rfl
theorem bz_f {b : Bool} (h : ¬ b = true) : nI 0 = bz b := by cases b with
  | true => exact absurd rfl h
  | false => rfl
theorem pd_pos {p : Nat} (h : 0 < p) : 1 ≤ pd p := by
  unfold pd
  rw [if_neg (by omega)]
  split
  · omega
  · split <;> omega
theorem nI_of3 {x M : Int32} {n : Nat} (hM : M.toInt = n) (h : ¬ x < 0) (h5 : x < M) : ∃ j : Nat, j < n ∧ x = nI j := by
  obtain ⟨j, hj, rfl⟩ := nI_of h
  rw [Int32.lt_iff_toInt_lt, nI_toInt hj, hM] at h5
  exact ⟨j, by omega, rfl⟩
theorem ix_ge {x : Int32} (h : ¬ x < nI 125) : ix x = 125 := by
  apply ix_gt
  intro z
  apply h
  have h1 : (nI 124).toInt = 124 := by decide
  have h2 : (nI 125).toInt = 125 := by decide
  rw [Int32.le_iff_toInt_le, h1] at z
  rw [Int32.lt_iff_toInt_lt, h2]
  omega
theorem pun_pd {w n : Nat} (hw : w < 125) (hn : n < 125) (h : pun w n = true) : pd n ≤ pd w := by
  have h : w % pu (pd n) = n := beq_iff_eq.mp h
  unfold pd pu at *
  (repeat' split at h) <;> (repeat' split) <;> omega
end PU
end
section
/-! booleans, narrowings -/
section XB
variable {p : Program} {l : Launch} {e : Env} {R : Room} {s : State} {m : MethodId} {args : Array Value} {below : List Frame} {meth : Method} {c : Code} {H : Heap} {locs : List Loc} {cells slots : Nat} {Q : State → Prop}
variable {cc : ByteArray} {pc : Nat} {ls : Array Slot} {rest : List Value} {off : Int} {tgt : Nat}
theorem bz_0 {b : Bool} : bz b = 0 ↔ b = false := by cases b <;> decide
theorem bz_1 {b : Bool} : ¬ bz b = 0 ↔ b = true := by cases b <;> decide
theorem bz_nI (b : Bool) : bz b = nI (if b = true then 1 else 0) := by cases b <;> rfl
theorem nar_bz {b : Bool} : narrow .boolean (.int (bz b)) = .int (bz b) := by cases b <;> rfl
theorem nar_z {k : Nat} (h : k ≤ 1) : vp_nar .boolean (nI k) = nI k := by
  rcases (show k = 0 ∨ k = 1 by omega) with rfl | rfl <;> decide
theorem x_if_eqB (hx : p.tables.exec = Jvm.exec) (hb : c.code = cc) {b : Bool} (hdg : decode cc pc = .ok (.ifCond .eq off, 3)) (ht : (pc : Int) + off = (tgt : Int))
    (kt : b = false → W p l e R s m args below meth c H locs cells slots Q (F0 m tgt ls rest)) (kf : b = true → W p l e R s m args below meth c H locs cells slots Q (F0 m (pc + 3) ls rest)) : W p l e R s m args below meth c H locs cells slots Q (F0 m pc ls (.int (bz b) :: rest)) := lv_if_eq hx hb hdg ht (fun h => kt (bz_0.mp h)) (fun h => kf (bz_1.mp h))
theorem x_if_neB (hx : p.tables.exec = Jvm.exec) (hb : c.code = cc) {b : Bool} (hdg : decode cc pc = .ok (.ifCond .ne off, 3)) (ht : (pc : Int) + off = (tgt : Int))
    (kt : b = true → W p l e R s m args below meth c H locs cells slots Q (F0 m tgt ls rest)) (kf : b = false → W p l e R s m args below meth c H locs cells slots Q (F0 m (pc + 3) ls rest)) : W p l e R s m args below meth c H locs cells slots Q (F0 m pc ls (.int (bz b) :: rest)) := lv_if_ne hx hb hdg ht (fun h => kt (bz_1.mp h)) (fun h => kf (bz_0.mp h))
theorem n16 {k : Nat} (h : k < 32768) : (nI k).toInt16.toInt32 = nI k := by
  apply Int32.toInt_inj.mp
  rw [Int16.toInt_toInt32, Int32.toInt_toInt16, nI_toInt (by omega)]
  rw [Int.bmod_eq_of_le (by omega) (by omega)]
theorem n8 {k : Nat} (h : k < 128) : (nI k).toInt8.toInt32 = nI k := by
  apply Int32.toInt_inj.mp
  rw [Int8.toInt_toInt32, Int32.toInt_toInt8, nI_toInt (by omega)]
  rw [Int.bmod_eq_of_le (by omega) (by omega)]
theorem nar_s {k : Nat} (h : k < 32768) : vp_nar .short (nI k) = nI k := by rw [vp_nar_short, n16 h]
theorem nar_b {k : Nat} (h : k < 128) : vp_nar .byte (nI k) = nI k := by rw [vp_nar_byte, n8 h]
theorem x_i2s (hx : p.tables.exec = Jvm.exec) (hb : c.code = cc) {k : Nat} (hdg : decode cc pc = .ok (.i2s, 1)) (h : k < 32768)
    (kk : W p l e R s m args below meth c H locs cells slots Q (F0 m (pc + 1) ls (.int (nI k) :: rest))) : W p l e R s m args below meth c H locs cells slots Q (F0 m pc ls (.int (nI k) :: rest)) := lv_i2s hx hb hdg (n16 h) kk
theorem x_i2b (hx : p.tables.exec = Jvm.exec) (hb : c.code = cc) {k : Nat} (hdg : decode cc pc = .ok (.i2b, 1)) (h : k < 128)
    (kk : W p l e R s m args below meth c H locs cells slots Q (F0 m (pc + 1) ls (.int (nI k) :: rest))) : W p l e R s m args below meth c H locs cells slots Q (F0 m pc ls (.int (nI k) :: rest)) := lv_i2b hx hb hdg (n8 h) kk
end XB
end
section
/-! the state: twenty-one rows of numbers (the reference's fields in their order); a scalar stands at place 0 of its row
0 tree, 1 youngest, 2 open, 3 base, 4 nodes, 5 lines, 6 kind, 7 size, 8 wrote, 9 text, 10 line, 11 count, 12 birth, 13 before, 14 source, 15 shows, 16 stores, 17 storeText, 18 storeSize, 19 storeBase, 20 storeChain
a birth is a byte: 255 - t is that of a node of transaction t -/
section ST
abbrev SS : Type := Nat → Nat → Nat
def upf (σ : SS) (f : Nat) (g : Nat → Nat) : SS := fun i => if i = f then g else σ i
def sp (σ : SS) (f k v : Nat) : SS := upf σ f (va_up (σ f) k v)
theorem sp_s {σ : SS} {f k v : Nat} : sp σ f k v f k = v := by simp [sp, upf, va_up]
theorem sp_n {σ : SS} {f k v j : Nat} (h : j ≠ k) : sp σ f k v f j = σ f j := by simp [sp, upf, va_up, h]
theorem sp_o {σ : SS} {f k v g : Nat} (h : g ≠ f) : sp σ f k v g = σ g := by simp [sp, upf, h]
theorem sp_at {σ : SS} {f k v g j : Nat} : sp σ f k v g j = if g = f ∧ j = k then v else σ g j := by
  by_cases h : g = f
  · subst h
    by_cases h2 : j = k
    · subst h2; simp [sp_s]
    · simp [sp_n h2, h2]
  · simp [sp_o h, h]
def bI (b : Nat) : Int32 := (nI b).toInt8.toInt32
/-- what is at path p of table k -/
def rat (σ : SS) (k p : Nat) : Nat := if pgb p = true then σ 0 (125 * k + p) else 0
/-- a new node of transaction t, of kind w, without one before it -/
def nod0 (σ : SS) (t w : Nat) : SS :=
  sp (sp (sp (sp (sp (sp (sp (sp (sp σ 4 0 (σ 4 0 + 1)) 6 (σ 4 0 + 1) w) 12 (σ 4 0 + 1) (255 - t)) 13 (σ 4 0 + 1) 0) 11 (σ 4 0 + 1) 0) 7 (σ 4 0 + 1) 0) 9 (σ 4 0 + 1) 0) 15 (σ 4 0 + 1) 0) 10 (σ 4 0 + 1) 0
/-- a new node of transaction t, of kind w, behind node old -/
def nod1 (σ : SS) (t w old : Nat) : SS :=
  sp (sp (sp (sp (sp (sp (sp (sp (sp σ 4 0 (σ 4 0 + 1)) 6 (σ 4 0 + 1) w) 12 (σ 4 0 + 1) (255 - t)) 13 (σ 4 0 + 1) old) 11 (σ 4 0 + 1) (σ 11 old + 1)) 7 (σ 4 0 + 1) (σ 7 old)) 9 (σ 4 0 + 1) (σ 9 old)) 15 (σ 4 0 + 1) (σ 15 old)) 10 (σ 4 0 + 1) (σ 10 old)
def plc (σ : SS) (t p n : Nat) : SS := sp σ 0 (2000 + 125 * t + p) n
/-- the node at path q becomes one of transaction t -/
def tst (σ : SS) (t q : Nat) : SS := if σ 12 (rat σ (16 + t) q) < 128 then plc (nod1 σ t (σ 6 (rat σ (16 + t) q)) (rat σ (16 + t) q)) t q (σ 4 0 + 1) else σ
def tch : Nat → SS → Nat → Nat → SS
  | 0, σ, t, q => tst σ t q
  | n + 1, σ, t, q => tch n (tst σ t q) t (pp q)
theorem bI_t {t : Nat} (h : t < 3) : (-1 - nI t).toInt8.toInt32 = bI (255 - t) := by
  rcases (show t = 0 ∨ t = 1 ∨ t = 2 by omega) with rfl | rfl | rfl <;> decide
theorem bI_tab : ∀ b : Fin 256, (0 ≤ bI b.val ↔ b.val < 128) ∧ (bI b.val < 0 ↔ 128 ≤ b.val) := by decide +kernel
theorem bI_ge {b : Nat} (hb : b < 256) : 0 ≤ bI b ↔ b < 128 := (bI_tab ⟨b, hb⟩).1
theorem bI_lt {b : Nat} (hb : b < 256) : bI b < 0 ↔ 128 ≤ b := (bI_tab ⟨b, hb⟩).2
theorem bI_n {b : Nat} (hb : b < 128) : bI b = nI b := n8 hb
/-- what touching path q asks of the state -/
def tok1 (σ : SS) (t q : Nat) : Prop := q < 125 ∧ 0 < rat σ (16 + t) q ∧ rat σ (16 + t) q < 1300 ∧ σ 12 (rat σ (16 + t) q) < 256 ∧ (σ 12 (rat σ (16 + t) q) < 128 → σ 4 0 + 1 < 1300 ∧ σ 11 (rat σ (16 + t) q) + 1 < 32768 ∧ σ 7 (rat σ (16 + t) q) < 128 ∧ σ 6 (rat σ (16 + t) q) < 128)
def tok : Nat → SS → Nat → Nat → Prop
  | 0, σ, t, q => tok1 σ t q
  | n + 1, σ, t, q => (tok1 σ t q ∧ pd q = n + 1) ∧ tok n (tst σ t q) t (pp q)
end ST
section ST2
/-- an int as a transaction's number: 3 where it is none -/
def tx (x : Int32) : Nat := if 0 ≤ x ∧ x ≤ nI 2 then x.toNatClampNeg else 3
theorem tx_n {k : Nat} (h : k < 3) : tx (nI k) = k := by
  unfold tx
  rw [if_pos ⟨nI_pos' (by omega), nI_le (by omega) (by decide)⟩, nI_clamp (by omega)]
theorem tx_lt {x : Int32} (h : x < 0) : tx x = 3 := by
  unfold tx
  rw [if_neg]
  rintro ⟨a, -⟩
  rw [Int32.lt_iff_toInt_lt] at h
  rw [Int32.le_iff_toInt_le] at a
  omega
theorem tx_gt {x : Int32} (h : nI 2 < x) : tx x = 3 := by
  unfold tx
  rw [if_neg]
  rintro ⟨-, a⟩
  rw [Int32.lt_iff_toInt_lt] at h
  rw [Int32.le_iff_toInt_le] at a
  omega
theorem nI_of2b {x M : Int32} {n : Nat} (hM : M.toInt = n) (h : ¬ x < 0) (h5 : ¬ M < x) : ∃ j : Nat, j ≤ n ∧ x = nI j := by
  refine nI_of2 hM h ?_
  rw [Int32.le_iff_toInt_le]
  rw [Int32.lt_iff_toInt_lt] at h5
  omega
theorem ix_good {x : Int32} (h : pgb (ix x) = true) : ∃ j, j < 125 ∧ x = nI j := by
  have h1 := (pgb_t.mp h).1
  unfold ix at h1
  by_cases hc : 0 ≤ x ∧ x ≤ nI 124
  · obtain ⟨k, hk, rfl⟩ := nI_of2 (M := nI 124) (n := 124) (by decide) (fun z => by
      have h2 := hc.1
      rw [Int32.lt_iff_toInt_lt] at z
      rw [Int32.le_iff_toInt_le] at h2
      omega) hc.2
    exact ⟨k, by omega, rfl⟩
  · rw [if_neg hc] at h1
    omega
/-- is transaction t open -/
def opb (σ : SS) (t : Nat) : Bool := decide (t < 3) && decide (σ 2 t ≠ 0)
theorem opb_3 {σ : SS} : ¬ opb σ 3 = true := by simp [opb]
theorem opb_f {σ : SS} {t : Nat} (h : σ 2 t = 0) : ¬ opb σ t = true := by simp [opb, h]
theorem opb_t {σ : SS} {t : Nat} (ht : t < 3) (h : σ 2 t ≠ 0) : opb σ t = true := by simp [opb, h, ht]
theorem rat_lt {σ : SS} (h : ∀ f j, f ≠ 9 → f ≠ 17 → σ f j < 32768) {k p : Nat} : rat σ k p < 32768 := by
  unfold rat
  split
  · exact h _ _ (by decide) (by decide)
  · omega
/-- i places of table b have come into table a -/
def fil (σ : SS) (a b i : Nat) : SS := upf σ 0 (fun j => if 125 * a ≤ j ∧ j < 125 * a + i then σ 0 (j - 125 * a + 125 * b) else σ 0 j)
theorem fil_0 {σ : SS} {a b : Nat} : fil σ a b 0 = σ := by
  funext f j
  unfold fil upf
  by_cases h : f = 0
  · subst h
    rw [if_pos rfl, if_neg (by omega)]
  · rw [if_neg h]
theorem fil_s {σ : SS} {a b i : Nat} (hi : i < 125) (hab : a ≠ b) : sp (fil σ a b i) 0 (125 * a + i) (fil σ a b i 0 (125 * b + i)) = fil σ a b (i + 1) := by
  funext f j
  rw [sp_at]
  by_cases h : f = 0
  · subst h
    simp only [fil, upf, if_true, true_and]
    by_cases hj : j = 125 * a + i
    · rw [if_pos hj, if_neg (by omega), if_pos (by omega)]
      congr 1
      omega
    · rw [if_neg hj]
      by_cases h2 : 125 * a ≤ j ∧ j < 125 * a + i
      · rw [if_pos h2, if_pos (by omega)]
      · rw [if_neg h2, if_neg (by omega)]
  · rw [if_neg (by omega)]
    simp only [fil, upf, if_neg h]
theorem rB_fil' {σ : SS} {a b i : Nat} (h : ∀ f j, f ≠ 9 → f ≠ 17 → σ f j < 32768) : ∀ f j, f ≠ 9 → f ≠ 17 → fil σ a b i f j < 32768 := by
  intro f j h1 h2
  unfold fil upf
  split
  · show (if 125 * a ≤ j ∧ j < 125 * a + i then σ 0 (j - 125 * a + 125 * b) else σ 0 j) < 32768
    split <;> exact h _ _ (by decide) (by decide)
  · exact h f j h1 h2
theorem opb_of {σ : SS} {x : Int32} (h : opb σ (tx x) = true) : ∃ t, t < 3 ∧ x = nI t ∧ σ 2 t ≠ 0 := by
  unfold opb at h
  simp only [Bool.and_eq_true, decide_eq_true_eq] at h
  obtain ⟨h1, h2⟩ := h
  by_cases hc : 0 ≤ x ∧ x ≤ nI 2
  · obtain ⟨k, hk, rfl⟩ := nI_of2 (M := nI 2) (n := 2) (by decide) (fun z => by
      have h3 := hc.1
      rw [Int32.lt_iff_toInt_lt] at z
      rw [Int32.le_iff_toInt_le] at h3
      omega) hc.2
    rw [tx_n (by omega)] at h2
    exact ⟨k, by omega, rfl, h2⟩
  · unfold tx at h1
    rw [if_neg hc] at h1
    omega
theorem pp_lt (q : Nat) : pp q < 125 := by
  unfold pp
  have h := pu_lt (pd q - 1)
  have := Nat.mod_lt q h.1
  omega
theorem rat_N {σ : SS} {k p : Nat} (h : ∀ j, σ 0 j < 1300) : rat σ k p < 1300 := by
  unfold rat
  split
  · exact h _
  · omega
/-- may a node be put at path q of transaction t -/
def rmb (σ : SS) (t q : Nat) : Bool := opb σ t && pgb q && decide (q ≠ 0) && decide (rat σ (16 + t) q = 0) && decide (0 < rat σ (16 + t) (pp q)) && decide (σ 6 (rat σ (16 + t) (pp q)) = 1)
theorem rmb_1 {σ : SS} {t q : Nat} (h : opb σ t = false) : ¬ rmb σ t q = true := by simp [rmb, h]
theorem rmb_2 {σ : SS} {t q : Nat} (h : pgb q = false) : ¬ rmb σ t q = true := by simp [rmb, h]
theorem rmb_3 {σ : SS} {t q : Nat} (h : q = 0) : ¬ rmb σ t q = true := by simp [rmb, h]
theorem rmb_4 {σ : SS} {t q : Nat} (h : 0 < rat σ (16 + t) q) : ¬ rmb σ t q = true := by
  have : rat σ (16 + t) q ≠ 0 := by omega
  simp [rmb, this]
theorem rmb_5 {σ : SS} {t q : Nat} (h : rat σ (16 + t) (pp q) = 0) : ¬ rmb σ t q = true := by simp [rmb, h]
theorem rmb_6 {σ : SS} {t q : Nat} (h : σ 6 (rat σ (16 + t) (pp q)) ≠ 1) : ¬ rmb σ t q = true := by simp [rmb, h]
theorem rmb_t {σ : SS} {t q : Nat} (ht : t < 3) (h1 : σ 2 t ≠ 0) (h2 : pgb q = true) (h3 : 0 < q) (h4 : rat σ (16 + t) q = 0) (h5 : 0 < rat σ (16 + t) (pp q)) (h6 : σ 6 (rat σ (16 + t) (pp q)) = 1) : rmb σ t q = true := by
  have h3 : q ≠ 0 := by omega
  simp [rmb, opb_t ht h1, h2, h3, h4, h5, h6]
theorem pos_of_pd {q n : Nat} (h : pd q = n + 1) : 0 < q := by
  rcases Nat.eq_zero_or_pos q with z | z
  · subst z
    have : pd 0 = 0 := rfl
    omega
  · exact z
theorem dec_n (n : Nat) : nI (n + 1) + Int32.ofInt (-1) = nI n := pk_m1 n
theorem dec_0 : nI 0 + Int32.ofInt (-1) = -1 := by decide
end ST2
end
section
/-! the reference's cells: ad 0 is the object, ad (f + 1) the array of field f -/
section RF
def rfF (σ : SS) (ad : Nat → Nat) : List Value := [.ref (ad 1), .int (nI (σ 1 0)), .ref (ad 3), .ref (ad 4), .int (nI (σ 4 0)), .int (nI (σ 5 0)), .ref (ad 7), .ref (ad 8), .ref (ad 9), .ref (ad 10), .ref (ad 11), .ref (ad 12), .ref (ad 13), .ref (ad 14), .ref (ad 15), .ref (ad 16), .int (nI (σ 16 0)), .ref (ad 18), .ref (ad 19), .ref (ad 20), .ref (ad 21)]
def rc_0 (E : Ev) (g : Nat → Nat) : va_E := .inl (E.2.1 4, 2375, .inl (fun j => nI (g j)))
def rc_2 (E : Ev) (g : Nat → Nat) : va_E := .inl (E.2.1 6, 3, .inl (fun j => nI (g j)))
def rc_3 (E : Ev) (g : Nat → Nat) : va_E := .inl (E.2.1 7, 3, .inl (fun j => nI (g j)))
def rc_6 (E : Ev) (g : Nat → Nat) : va_E := .inl (E.2.1 5, 1300, .inl (fun j => nI (g j)))
def rc_7 (E : Ev) (g : Nat → Nat) : va_E := .inl (E.2.1 5, 1300, .inl (fun j => nI (g j)))
def rc_8 (E : Ev) (g : Nat → Nat) : va_E := .inl (E.2.1 6, 1300, .inl (fun j => nI (g j)))
def rc_9 (E : Ev) (g : Nat → Nat) : va_E := .inl (E.2.1 8, 1300, .inr (.inl (fun j => lN (g j))))
def rc_10 (E : Ev) (g : Nat → Nat) : va_E := .inl (E.2.1 4, 1300, .inl (fun j => nI (g j)))
def rc_11 (E : Ev) (g : Nat → Nat) : va_E := .inl (E.2.1 4, 1300, .inl (fun j => nI (g j)))
def rc_12 (E : Ev) (g : Nat → Nat) : va_E := .inl (E.2.1 5, 1300, .inl (fun j => bI (g j)))
def rc_13 (E : Ev) (g : Nat → Nat) : va_E := .inl (E.2.1 4, 1300, .inl (fun j => nI (g j)))
def rc_14 (E : Ev) (g : Nat → Nat) : va_E := .inl (E.2.1 4, 1300, .inl (fun j => nI (g j)))
def rc_15 (E : Ev) (g : Nat → Nat) : va_E := .inl (E.2.1 4, 1300, .inl (fun j => nI (g j)))
def rc_17 (E : Ev) (g : Nat → Nat) : va_E := .inl (E.2.1 8, 512, .inr (.inl (fun j => lN (g j))))
def rc_18 (E : Ev) (g : Nat → Nat) : va_E := .inl (E.2.1 5, 512, .inl (fun j => nI (g j)))
def rc_19 (E : Ev) (g : Nat → Nat) : va_E := .inl (E.2.1 4, 512, .inl (fun j => nI (g j)))
def rc_20 (E : Ev) (g : Nat → Nat) : va_E := .inl (E.2.1 5, 512, .inl (fun j => nI (g j)))
def rfE (E : Ev) (σ : SS) (ad : Nat → Nat) : Nat → Option va_E
  | 0 => some (.inr (8, rfF σ ad))
  | 1 => some (rc_0 E (σ 0))
  | 3 => some (rc_2 E (σ 2))
  | 4 => some (rc_3 E (σ 3))
  | 7 => some (rc_6 E (σ 6))
  | 8 => some (rc_7 E (σ 7))
  | 9 => some (rc_8 E (σ 8))
  | 10 => some (rc_9 E (σ 9))
  | 11 => some (rc_10 E (σ 10))
  | 12 => some (rc_11 E (σ 11))
  | 13 => some (rc_12 E (σ 12))
  | 14 => some (rc_13 E (σ 13))
  | 15 => some (rc_14 E (σ 14))
  | 16 => some (rc_15 E (σ 15))
  | 18 => some (rc_17 E (σ 17))
  | 19 => some (rc_18 E (σ 18))
  | 20 => some (rc_19 E (σ 19))
  | 21 => some (rc_20 E (σ 20))
  | _ => none
def rfx (ad : Nat → Nat) (a : Nat) : Option Nat := (List.range 22).find? (fun i => ad i == a)
def rfM (E : Ev) (σ : SS) (ad : Nat → Nat) : mp_M := fun a => (rfx ad a).bind (rfE E σ ad)
def rfI (ad : Nat → Nat) : Prop := ∀ i j, i < 22 → j < 22 → ad i = ad j → i = j
theorem rfx_at {ad : Nat → Nat} (h : rfI ad) {i : Nat} (hi : i < 22) : rfx ad (ad i) = some i := by
  unfold rfx
  cases hf : (List.range 22).find? (fun j => ad j == ad i) with
  | none =>
    have := List.find?_eq_none.mp hf i (List.mem_range.mpr hi)
    simp at this
  | some j =>
    have h1 := List.find?_some hf
    have h2 := List.mem_range.mp (List.mem_of_find?_eq_some hf)
    rw [h j i h2 hi (by simpa using h1)]
theorem rf_at {E : Ev} {σ : SS} {ad : Nat → Nat} (h : rfI ad) (i : Nat) (hi : i < 22) {e : va_E} (he : rfE E σ ad i = some e) : rfM E σ ad (ad i) = some e := by
  unfold rfM
  rw [rfx_at h hi]
  exact he
theorem rf_up {E : Ev} {σ σ' : SS} {ad : Nat → Nat} (h : rfI ad) {i : Nat} (hi : i < 22) {e : va_E} (he : rfE E σ' ad i = some e) (ho : ∀ j, j ≠ i → rfE E σ' ad j = rfE E σ ad j) : mp_up (rfM E σ ad) (ad i) e = rfM E σ' ad := by
  funext a
  by_cases ha : a = ad i
  · subst ha
    rw [mp_up_s]
    exact (rf_at h i hi he).symm
  · rw [mp_up_n ha]
    unfold rfM
    cases hx : rfx ad a with
    | none => rfl
    | some j =>
      have hj : j ≠ i := by
        rintro rfl
        have := List.find?_some hx
        simp at this
        exact ha this.symm
      exact (ho j hj).symm
theorem rfq_1 {E : Ev} {σ σ' : SS} {ad : Nat → Nat} (h : σ' 0 = σ 0) : rfE E σ' ad 1 = rfE E σ ad 1 := congrArg (fun g => some (rc_0 E g)) h
theorem rfq_3 {E : Ev} {σ σ' : SS} {ad : Nat → Nat} (h : σ' 2 = σ 2) : rfE E σ' ad 3 = rfE E σ ad 3 := congrArg (fun g => some (rc_2 E g)) h
theorem rfq_4 {E : Ev} {σ σ' : SS} {ad : Nat → Nat} (h : σ' 3 = σ 3) : rfE E σ' ad 4 = rfE E σ ad 4 := congrArg (fun g => some (rc_3 E g)) h
theorem rfq_7 {E : Ev} {σ σ' : SS} {ad : Nat → Nat} (h : σ' 6 = σ 6) : rfE E σ' ad 7 = rfE E σ ad 7 := congrArg (fun g => some (rc_6 E g)) h
theorem rfq_8 {E : Ev} {σ σ' : SS} {ad : Nat → Nat} (h : σ' 7 = σ 7) : rfE E σ' ad 8 = rfE E σ ad 8 := congrArg (fun g => some (rc_7 E g)) h
theorem rfq_9 {E : Ev} {σ σ' : SS} {ad : Nat → Nat} (h : σ' 8 = σ 8) : rfE E σ' ad 9 = rfE E σ ad 9 := congrArg (fun g => some (rc_8 E g)) h
theorem rfq_10 {E : Ev} {σ σ' : SS} {ad : Nat → Nat} (h : σ' 9 = σ 9) : rfE E σ' ad 10 = rfE E σ ad 10 := congrArg (fun g => some (rc_9 E g)) h
theorem rfq_11 {E : Ev} {σ σ' : SS} {ad : Nat → Nat} (h : σ' 10 = σ 10) : rfE E σ' ad 11 = rfE E σ ad 11 := congrArg (fun g => some (rc_10 E g)) h
theorem rfq_12 {E : Ev} {σ σ' : SS} {ad : Nat → Nat} (h : σ' 11 = σ 11) : rfE E σ' ad 12 = rfE E σ ad 12 := congrArg (fun g => some (rc_11 E g)) h
theorem rfq_13 {E : Ev} {σ σ' : SS} {ad : Nat → Nat} (h : σ' 12 = σ 12) : rfE E σ' ad 13 = rfE E σ ad 13 := congrArg (fun g => some (rc_12 E g)) h
theorem rfq_14 {E : Ev} {σ σ' : SS} {ad : Nat → Nat} (h : σ' 13 = σ 13) : rfE E σ' ad 14 = rfE E σ ad 14 := congrArg (fun g => some (rc_13 E g)) h
theorem rfq_15 {E : Ev} {σ σ' : SS} {ad : Nat → Nat} (h : σ' 14 = σ 14) : rfE E σ' ad 15 = rfE E σ ad 15 := congrArg (fun g => some (rc_14 E g)) h
theorem rfq_16 {E : Ev} {σ σ' : SS} {ad : Nat → Nat} (h : σ' 15 = σ 15) : rfE E σ' ad 16 = rfE E σ ad 16 := congrArg (fun g => some (rc_15 E g)) h
theorem rfq_18 {E : Ev} {σ σ' : SS} {ad : Nat → Nat} (h : σ' 17 = σ 17) : rfE E σ' ad 18 = rfE E σ ad 18 := congrArg (fun g => some (rc_17 E g)) h
theorem rfq_19 {E : Ev} {σ σ' : SS} {ad : Nat → Nat} (h : σ' 18 = σ 18) : rfE E σ' ad 19 = rfE E σ ad 19 := congrArg (fun g => some (rc_18 E g)) h
theorem rfq_20 {E : Ev} {σ σ' : SS} {ad : Nat → Nat} (h : σ' 19 = σ 19) : rfE E σ' ad 20 = rfE E σ ad 20 := congrArg (fun g => some (rc_19 E g)) h
theorem rfq_21 {E : Ev} {σ σ' : SS} {ad : Nat → Nat} (h : σ' 20 = σ 20) : rfE E σ' ad 21 = rfE E σ ad 21 := congrArg (fun g => some (rc_20 E g)) h
theorem rfn_2 {E : Ev} {σ : SS} {ad : Nat → Nat} : rfE E σ ad 2 = none := rfl
theorem rfn_5 {E : Ev} {σ : SS} {ad : Nat → Nat} : rfE E σ ad 5 = none := rfl
theorem rfn_6 {E : Ev} {σ : SS} {ad : Nat → Nat} : rfE E σ ad 6 = none := rfl
theorem rfn_17 {E : Ev} {σ : SS} {ad : Nat → Nat} : rfE E σ ad 17 = none := rfl
theorem rfE_big {E : Ev} {σ : SS} {ad : Nat → Nat} {j : Nat} (h : 22 ≤ j) : rfE E σ ad j = none := by
  obtain ⟨k, rfl⟩ : ∃ k, j = k + 22 := ⟨j - 22, by omega⟩
  rfl
theorem rfE_eq {E : Ev} {σ σ' : SS} {ad : Nat → Nat} (j : Nat) (h : j = 0 → σ' 1 = σ 1 ∧ σ' 4 = σ 4 ∧ σ' 5 = σ 5 ∧ σ' 16 = σ 16) (g : ∀ f, j = f + 1 → σ' f = σ f) : rfE E σ' ad j = rfE E σ ad j := by
  rcases (show j = 0 ∨ j = 1 ∨ j = 2 ∨ j = 3 ∨ j = 4 ∨ j = 5 ∨ j = 6 ∨ j = 7 ∨ j = 8 ∨ j = 9 ∨ j = 10 ∨ j = 11 ∨ j = 12 ∨ j = 13 ∨ j = 14 ∨ j = 15 ∨ j = 16 ∨ j = 17 ∨ j = 18 ∨ j = 19 ∨ j = 20 ∨ j = 21 ∨ 22 ≤ j by omega) with rfl | rfl | rfl | rfl | rfl | rfl | rfl | rfl | rfl | rfl | rfl | rfl | rfl | rfl | rfl | rfl | rfl | rfl | rfl | rfl | rfl | rfl | hj
  · obtain ⟨a, b, c, d⟩ := h rfl
    show some (Sum.inr (8, rfF σ' ad)) = some (Sum.inr (8, rfF σ ad))
    unfold rfF
    rw [a, b, c, d]
  · exact rfq_1 (g 0 rfl)
  · exact (rfn_2).trans (rfn_2).symm
  · exact rfq_3 (g 2 rfl)
  · exact rfq_4 (g 3 rfl)
  · exact (rfn_5).trans (rfn_5).symm
  · exact (rfn_6).trans (rfn_6).symm
  · exact rfq_7 (g 6 rfl)
  · exact rfq_8 (g 7 rfl)
  · exact rfq_9 (g 8 rfl)
  · exact rfq_10 (g 9 rfl)
  · exact rfq_11 (g 10 rfl)
  · exact rfq_12 (g 11 rfl)
  · exact rfq_13 (g 12 rfl)
  · exact rfq_14 (g 13 rfl)
  · exact rfq_15 (g 14 rfl)
  · exact rfq_16 (g 15 rfl)
  · exact (rfn_17).trans (rfn_17).symm
  · exact rfq_18 (g 17 rfl)
  · exact rfq_19 (g 18 rfl)
  · exact rfq_20 (g 19 rfl)
  · exact rfq_21 (g 20 rfl)
  · rw [rfE_big hj, rfE_big hj]
def rB (σ : SS) : Prop := ∀ f j, f ≠ 9 → f ≠ 17 → σ f j < 32768
theorem rB_sp {σ : SS} {f k v : Nat} (h : rB σ) (hv : v < 32768) : rB (sp σ f k v) := by
  intro g j h1 h2
  rw [sp_at]
  split
  · exact hv
  · exact h g j h1 h2
theorem rB_spL {σ : SS} {f k v : Nat} (h : rB σ) (hf : f = 9 ∨ f = 17) : rB (sp σ f k v) := by
  intro g j h1 h2
  rw [sp_at, if_neg (by omega)]
  exact h g j h1 h2
theorem rB_fil {σ : SS} {a b i : Nat} (h : rB σ) : rB (fil σ a b i) := rB_fil' h
theorem up_n {g : Nat → Nat} {k v : Nat} {x : Int32} (hx : x = nI v) : upd (fun j => nI (g j)) k x = fun j => nI (va_up g k v j) := by
  subst hx
  funext j
  simp only [upd, va_up]
  split <;> rfl
theorem up_b {g : Nat → Nat} {k v : Nat} {x : Int32} (hx : x = bI v) : upd (fun j => bI (g j)) k x = fun j => bI (va_up g k v j) := by
  subst hx
  funext j
  simp only [upd, va_up]
  split <;> rfl
theorem up_l {g : Nat → Nat} {k v : Nat} : vp_updL (fun j => lN (g j)) k (lN v) = fun j => lN (va_up g k v j) := by
  funext j
  simp only [vp_updL, va_up]
  split <;> rfl
theorem nar_bI {b : Nat} : vp_nar .byte (bI b) = bI b := pk_vb _
variable {p : Program} {l : Launch} {e : Env} {R : Room} {s : State} {m : MethodId} {args : Array Value} {below : List Frame} {meth : Method} {c : Code} {H : Heap} {locs : List Loc} {cells slots : Nat} {Q : State → Prop}
variable {cc : ByteArray} {pc : Nat} {ls : Array Slot} {rest : List Value} {E : Ev} {A : Nat → Prop} {H0 : Heap} {σ : SS} {ad : Nat → Nat}
theorem rl_0 (hx : p.tables.exec = Jvm.exec) (hb : c.code = cc) (hK : va_K E.1 vwCl (tysE E) s) (hI : rfI ad) (hB : rB σ) (hw : mw E.1 vwCl A H0 (rfM E σ ad) H locs) {i : Nat} (hi : i < 2375) (hdg : decode cc pc = .ok (.saload, 1))
    (kk : σ 0 i < 32768 → W p l e R s m args below meth c H locs cells slots Q (F0 m (pc + 1) ls (.int (nI (σ 0 i)) :: rest))) : W p l e R s m args below meth c H locs cells slots Q (F0 m pc ls (.int (nI i) :: .ref (ad 1) :: rest)) :=
  m_sald hx hb hK hw 4 (rf_at hI 1 (by decide) rfl) rfl hi (by decide) rfl hdg (kk (hB 0 i (by decide) (by decide)))
theorem rs_0 (hx : p.tables.exec = Jvm.exec) (hb : c.code = cc) (hK : va_K E.1 vwCl (tysE E) s) (hI : rfI ad) (hB : rB σ) (hw : mw E.1 vwCl A H0 (rfM E σ ad) H locs) {i v : Nat} (hi : i < 2375) (hv : v < 32768) (hdg : decode cc pc = .ok (.sastore, 1))
    (kk : ∀ (H1 : Heap) (locs1 : List Loc), mw E.1 vwCl A H0 (rfM E (sp σ 0 i v) ad) H1 locs1 → rB (sp σ 0 i v) → W p l e R s m args below meth c H1 locs1 cells slots Q (F0 m (pc + 1) ls rest)) : W p l e R s m args below meth c H locs cells slots Q (F0 m pc ls (.int (nI v) :: .int (nI i) :: .ref (ad 1) :: rest)) := by
  refine m_sast hx hb hK hw 4 (rf_at hI 1 (by decide) rfl) rfl hi (by decide) (up_n (nar_s hv)) hdg (fun H1 locs1 h => kk H1 locs1 ?_ (rB_sp hB (by omega)))
  rw [rf_up (E := E) (σ := σ) (σ' := sp σ 0 i v) (e := .inl (E.2.1 4, 2375, .inl (fun j => nI (va_up (σ 0) i v j)))) hI (by decide) rfl (fun j hj => rfE_eq j (fun _ => ⟨sp_o (by decide), sp_o (by decide), sp_o (by decide), sp_o (by decide)⟩) (fun g hg => sp_o (by omega)))] at h
  exact h
theorem rfE_s1 {E : Ev} {σ : SS} {ad : Nat → Nat} {v : Nat} (j : Nat) (hj : j ≠ 0) : rfE E (sp σ 1 0 v) ad j = rfE E σ ad j := by
  rcases (show j = 0 ∨ j = 1 ∨ j = 2 ∨ j = 3 ∨ j = 4 ∨ j = 5 ∨ j = 6 ∨ j = 7 ∨ j = 8 ∨ j = 9 ∨ j = 10 ∨ j = 11 ∨ j = 12 ∨ j = 13 ∨ j = 14 ∨ j = 15 ∨ j = 16 ∨ j = 17 ∨ j = 18 ∨ j = 19 ∨ j = 20 ∨ j = 21 ∨ 22 ≤ j by omega) with rfl | rfl | rfl | rfl | rfl | rfl | rfl | rfl | rfl | rfl | rfl | rfl | rfl | rfl | rfl | rfl | rfl | rfl | rfl | rfl | rfl | rfl | h
  · exact absurd rfl hj
  · exact rfq_1 (sp_o (by decide))
  · exact (rfn_2).trans (rfn_2).symm
  · exact rfq_3 (sp_o (by decide))
  · exact rfq_4 (sp_o (by decide))
  · exact (rfn_5).trans (rfn_5).symm
  · exact (rfn_6).trans (rfn_6).symm
  · exact rfq_7 (sp_o (by decide))
  · exact rfq_8 (sp_o (by decide))
  · exact rfq_9 (sp_o (by decide))
  · exact rfq_10 (sp_o (by decide))
  · exact rfq_11 (sp_o (by decide))
  · exact rfq_12 (sp_o (by decide))
  · exact rfq_13 (sp_o (by decide))
  · exact rfq_14 (sp_o (by decide))
  · exact rfq_15 (sp_o (by decide))
  · exact rfq_16 (sp_o (by decide))
  · exact (rfn_17).trans (rfn_17).symm
  · exact rfq_18 (sp_o (by decide))
  · exact rfq_19 (sp_o (by decide))
  · exact rfq_20 (sp_o (by decide))
  · exact rfq_21 (sp_o (by decide))
  · rw [rfE_big h, rfE_big h]
theorem rp_1 (hx : p.tables.exec = Jvm.exec) (hb : c.code = cc) {index : Nat} (hts : ∀ w ∈ WALL, w.before args s = true) (hown : s.vm.findClass R_M = some m.cls) (hK : va_K E.1 vwCl (tysE E) s) (hI : rfI ad) (hB : rB σ) (hw : mw E.1 vwCl A H0 (rfM E σ ad) H locs) (hlink : Cond.fieldLink R_M index (T_M 1).1 (T_M 1).2.1 (T_M 1).2.2.1 ∈ WALL) {v : Nat} (hv : v < 32768) (hdg : decode cc pc = .ok (.putfield index, 3))
    (kk : ∀ (H1 : Heap) (locs1 : List Loc), mw E.1 vwCl A H0 (rfM E (sp σ 1 0 v) ad) H1 locs1 → rB (sp σ 1 0 v) → W p l e R s m args below meth c H1 locs1 cells slots Q (F0 m (pc + 3) ls rest)) : W p l e R s m args below meth c H locs cells slots Q (F0 m pc ls (.int (nI v) :: .ref (ad 0) :: rest)) := by
  refine m_put hx hb hts hown hK hw ci_M (rf_at hI 0 (by decide) rfl) 1 (by decide) hlink rfl rfl rfl (Nat.le_of_ble_eq_true rfl) hdg (fun H1 locs1 h => kk H1 locs1 ?_ (rB_sp hB hv))
  rw [rf_up (E := E) (σ := σ) (σ' := sp σ 1 0 v) (e := .inr (8, (rfF σ ad).set 1 (.int (nI v)))) hI (by decide) rfl (fun j hj => rfE_s1 j hj)] at h
  exact h
theorem rl_2 (hx : p.tables.exec = Jvm.exec) (hb : c.code = cc) (hK : va_K E.1 vwCl (tysE E) s) (hI : rfI ad) (hB : rB σ) (hw : mw E.1 vwCl A H0 (rfM E σ ad) H locs) {i : Nat} (hi : i < 3) (hdg : decode cc pc = .ok (.baload, 1))
    (kk : σ 2 i < 32768 → W p l e R s m args below meth c H locs cells slots Q (F0 m (pc + 1) ls (.int (nI (σ 2 i)) :: rest))) : W p l e R s m args below meth c H locs cells slots Q (F0 m pc ls (.int (nI i) :: .ref (ad 3) :: rest)) :=
  m_zald hx hb hK hw 6 (rf_at hI 3 (by decide) rfl) rfl hi (by decide) rfl hdg (kk (hB 2 i (by decide) (by decide)))
theorem rs_2 (hx : p.tables.exec = Jvm.exec) (hb : c.code = cc) (hK : va_K E.1 vwCl (tysE E) s) (hI : rfI ad) (hB : rB σ) (hw : mw E.1 vwCl A H0 (rfM E σ ad) H locs) {i v : Nat} (hi : i < 3) (hv : v ≤ 1) (hdg : decode cc pc = .ok (.bastore, 1))
    (kk : ∀ (H1 : Heap) (locs1 : List Loc), mw E.1 vwCl A H0 (rfM E (sp σ 2 i v) ad) H1 locs1 → rB (sp σ 2 i v) → W p l e R s m args below meth c H1 locs1 cells slots Q (F0 m (pc + 1) ls rest)) : W p l e R s m args below meth c H locs cells slots Q (F0 m pc ls (.int (nI v) :: .int (nI i) :: .ref (ad 3) :: rest)) := by
  refine m_zast hx hb hK hw 6 (rf_at hI 3 (by decide) rfl) rfl hi (by decide) (up_n (nar_z hv)) hdg (fun H1 locs1 h => kk H1 locs1 ?_ (rB_sp hB (by omega)))
  rw [rf_up (E := E) (σ := σ) (σ' := sp σ 2 i v) (e := .inl (E.2.1 6, 3, .inl (fun j => nI (va_up (σ 2) i v j)))) hI (by decide) rfl (fun j hj => rfE_eq j (fun _ => ⟨sp_o (by decide), sp_o (by decide), sp_o (by decide), sp_o (by decide)⟩) (fun g hg => sp_o (by omega)))] at h
  exact h
theorem rl_3 (hx : p.tables.exec = Jvm.exec) (hb : c.code = cc) (hK : va_K E.1 vwCl (tysE E) s) (hI : rfI ad) (hB : rB σ) (hw : mw E.1 vwCl A H0 (rfM E σ ad) H locs) {i : Nat} (hi : i < 3) (hdg : decode cc pc = .ok (.iaload, 1))
    (kk : σ 3 i < 32768 → W p l e R s m args below meth c H locs cells slots Q (F0 m (pc + 1) ls (.int (nI (σ 3 i)) :: rest))) : W p l e R s m args below meth c H locs cells slots Q (F0 m pc ls (.int (nI i) :: .ref (ad 4) :: rest)) :=
  m_iald hx hb hK hw 7 (rf_at hI 4 (by decide) rfl) rfl hi (by decide) rfl hdg (kk (hB 3 i (by decide) (by decide)))
theorem rs_3 (hx : p.tables.exec = Jvm.exec) (hb : c.code = cc) (hK : va_K E.1 vwCl (tysE E) s) (hI : rfI ad) (hB : rB σ) (hw : mw E.1 vwCl A H0 (rfM E σ ad) H locs) {i v : Nat} (hi : i < 3) (hv : v < 32768) (hdg : decode cc pc = .ok (.iastore, 1))
    (kk : ∀ (H1 : Heap) (locs1 : List Loc), mw E.1 vwCl A H0 (rfM E (sp σ 3 i v) ad) H1 locs1 → rB (sp σ 3 i v) → W p l e R s m args below meth c H1 locs1 cells slots Q (F0 m (pc + 1) ls rest)) : W p l e R s m args below meth c H locs cells slots Q (F0 m pc ls (.int (nI v) :: .int (nI i) :: .ref (ad 4) :: rest)) := by
  refine m_iast hx hb hK hw 7 (rf_at hI 4 (by decide) rfl) rfl hi (by decide) (up_n rfl) hdg (fun H1 locs1 h => kk H1 locs1 ?_ (rB_sp hB (by omega)))
  rw [rf_up (E := E) (σ := σ) (σ' := sp σ 3 i v) (e := .inl (E.2.1 7, 3, .inl (fun j => nI (va_up (σ 3) i v j)))) hI (by decide) rfl (fun j hj => rfE_eq j (fun _ => ⟨sp_o (by decide), sp_o (by decide), sp_o (by decide), sp_o (by decide)⟩) (fun g hg => sp_o (by omega)))] at h
  exact h
theorem rfE_s4 {E : Ev} {σ : SS} {ad : Nat → Nat} {v : Nat} (j : Nat) (hj : j ≠ 0) : rfE E (sp σ 4 0 v) ad j = rfE E σ ad j := by
  rcases (show j = 0 ∨ j = 1 ∨ j = 2 ∨ j = 3 ∨ j = 4 ∨ j = 5 ∨ j = 6 ∨ j = 7 ∨ j = 8 ∨ j = 9 ∨ j = 10 ∨ j = 11 ∨ j = 12 ∨ j = 13 ∨ j = 14 ∨ j = 15 ∨ j = 16 ∨ j = 17 ∨ j = 18 ∨ j = 19 ∨ j = 20 ∨ j = 21 ∨ 22 ≤ j by omega) with rfl | rfl | rfl | rfl | rfl | rfl | rfl | rfl | rfl | rfl | rfl | rfl | rfl | rfl | rfl | rfl | rfl | rfl | rfl | rfl | rfl | rfl | h
  · exact absurd rfl hj
  · exact rfq_1 (sp_o (by decide))
  · exact (rfn_2).trans (rfn_2).symm
  · exact rfq_3 (sp_o (by decide))
  · exact rfq_4 (sp_o (by decide))
  · exact (rfn_5).trans (rfn_5).symm
  · exact (rfn_6).trans (rfn_6).symm
  · exact rfq_7 (sp_o (by decide))
  · exact rfq_8 (sp_o (by decide))
  · exact rfq_9 (sp_o (by decide))
  · exact rfq_10 (sp_o (by decide))
  · exact rfq_11 (sp_o (by decide))
  · exact rfq_12 (sp_o (by decide))
  · exact rfq_13 (sp_o (by decide))
  · exact rfq_14 (sp_o (by decide))
  · exact rfq_15 (sp_o (by decide))
  · exact rfq_16 (sp_o (by decide))
  · exact (rfn_17).trans (rfn_17).symm
  · exact rfq_18 (sp_o (by decide))
  · exact rfq_19 (sp_o (by decide))
  · exact rfq_20 (sp_o (by decide))
  · exact rfq_21 (sp_o (by decide))
  · rw [rfE_big h, rfE_big h]
theorem rp_4 (hx : p.tables.exec = Jvm.exec) (hb : c.code = cc) {index : Nat} (hts : ∀ w ∈ WALL, w.before args s = true) (hown : s.vm.findClass R_M = some m.cls) (hK : va_K E.1 vwCl (tysE E) s) (hI : rfI ad) (hB : rB σ) (hw : mw E.1 vwCl A H0 (rfM E σ ad) H locs) (hlink : Cond.fieldLink R_M index (T_M 4).1 (T_M 4).2.1 (T_M 4).2.2.1 ∈ WALL) {v : Nat} (hv : v < 32768) (hdg : decode cc pc = .ok (.putfield index, 3))
    (kk : ∀ (H1 : Heap) (locs1 : List Loc), mw E.1 vwCl A H0 (rfM E (sp σ 4 0 v) ad) H1 locs1 → rB (sp σ 4 0 v) → W p l e R s m args below meth c H1 locs1 cells slots Q (F0 m (pc + 3) ls rest)) : W p l e R s m args below meth c H locs cells slots Q (F0 m pc ls (.int (nI v) :: .ref (ad 0) :: rest)) := by
  refine m_put hx hb hts hown hK hw ci_M (rf_at hI 0 (by decide) rfl) 4 (by decide) hlink rfl rfl rfl (Nat.le_of_ble_eq_true rfl) hdg (fun H1 locs1 h => kk H1 locs1 ?_ (rB_sp hB hv))
  rw [rf_up (E := E) (σ := σ) (σ' := sp σ 4 0 v) (e := .inr (8, (rfF σ ad).set 4 (.int (nI v)))) hI (by decide) rfl (fun j hj => rfE_s4 j hj)] at h
  exact h
theorem rfE_s5 {E : Ev} {σ : SS} {ad : Nat → Nat} {v : Nat} (j : Nat) (hj : j ≠ 0) : rfE E (sp σ 5 0 v) ad j = rfE E σ ad j := by
  rcases (show j = 0 ∨ j = 1 ∨ j = 2 ∨ j = 3 ∨ j = 4 ∨ j = 5 ∨ j = 6 ∨ j = 7 ∨ j = 8 ∨ j = 9 ∨ j = 10 ∨ j = 11 ∨ j = 12 ∨ j = 13 ∨ j = 14 ∨ j = 15 ∨ j = 16 ∨ j = 17 ∨ j = 18 ∨ j = 19 ∨ j = 20 ∨ j = 21 ∨ 22 ≤ j by omega) with rfl | rfl | rfl | rfl | rfl | rfl | rfl | rfl | rfl | rfl | rfl | rfl | rfl | rfl | rfl | rfl | rfl | rfl | rfl | rfl | rfl | rfl | h
  · exact absurd rfl hj
  · exact rfq_1 (sp_o (by decide))
  · exact (rfn_2).trans (rfn_2).symm
  · exact rfq_3 (sp_o (by decide))
  · exact rfq_4 (sp_o (by decide))
  · exact (rfn_5).trans (rfn_5).symm
  · exact (rfn_6).trans (rfn_6).symm
  · exact rfq_7 (sp_o (by decide))
  · exact rfq_8 (sp_o (by decide))
  · exact rfq_9 (sp_o (by decide))
  · exact rfq_10 (sp_o (by decide))
  · exact rfq_11 (sp_o (by decide))
  · exact rfq_12 (sp_o (by decide))
  · exact rfq_13 (sp_o (by decide))
  · exact rfq_14 (sp_o (by decide))
  · exact rfq_15 (sp_o (by decide))
  · exact rfq_16 (sp_o (by decide))
  · exact (rfn_17).trans (rfn_17).symm
  · exact rfq_18 (sp_o (by decide))
  · exact rfq_19 (sp_o (by decide))
  · exact rfq_20 (sp_o (by decide))
  · exact rfq_21 (sp_o (by decide))
  · rw [rfE_big h, rfE_big h]
theorem rp_5 (hx : p.tables.exec = Jvm.exec) (hb : c.code = cc) {index : Nat} (hts : ∀ w ∈ WALL, w.before args s = true) (hown : s.vm.findClass R_M = some m.cls) (hK : va_K E.1 vwCl (tysE E) s) (hI : rfI ad) (hB : rB σ) (hw : mw E.1 vwCl A H0 (rfM E σ ad) H locs) (hlink : Cond.fieldLink R_M index (T_M 5).1 (T_M 5).2.1 (T_M 5).2.2.1 ∈ WALL) {v : Nat} (hv : v < 32768) (hdg : decode cc pc = .ok (.putfield index, 3))
    (kk : ∀ (H1 : Heap) (locs1 : List Loc), mw E.1 vwCl A H0 (rfM E (sp σ 5 0 v) ad) H1 locs1 → rB (sp σ 5 0 v) → W p l e R s m args below meth c H1 locs1 cells slots Q (F0 m (pc + 3) ls rest)) : W p l e R s m args below meth c H locs cells slots Q (F0 m pc ls (.int (nI v) :: .ref (ad 0) :: rest)) := by
  refine m_put hx hb hts hown hK hw ci_M (rf_at hI 0 (by decide) rfl) 5 (by decide) hlink rfl rfl rfl (Nat.le_of_ble_eq_true rfl) hdg (fun H1 locs1 h => kk H1 locs1 ?_ (rB_sp hB hv))
  rw [rf_up (E := E) (σ := σ) (σ' := sp σ 5 0 v) (e := .inr (8, (rfF σ ad).set 5 (.int (nI v)))) hI (by decide) rfl (fun j hj => rfE_s5 j hj)] at h
  exact h
theorem rl_6 (hx : p.tables.exec = Jvm.exec) (hb : c.code = cc) (hK : va_K E.1 vwCl (tysE E) s) (hI : rfI ad) (hB : rB σ) (hw : mw E.1 vwCl A H0 (rfM E σ ad) H locs) {i : Nat} (hi : i < 1300) (hdg : decode cc pc = .ok (.baload, 1))
    (kk : σ 6 i < 32768 → W p l e R s m args below meth c H locs cells slots Q (F0 m (pc + 1) ls (.int (nI (σ 6 i)) :: rest))) : W p l e R s m args below meth c H locs cells slots Q (F0 m pc ls (.int (nI i) :: .ref (ad 7) :: rest)) :=
  m_bald hx hb hK hw 5 (rf_at hI 7 (by decide) rfl) rfl hi (by decide) rfl hdg (kk (hB 6 i (by decide) (by decide)))
theorem rs_6 (hx : p.tables.exec = Jvm.exec) (hb : c.code = cc) (hK : va_K E.1 vwCl (tysE E) s) (hI : rfI ad) (hB : rB σ) (hw : mw E.1 vwCl A H0 (rfM E σ ad) H locs) {i v : Nat} (hi : i < 1300) (hv : v < 128) (hdg : decode cc pc = .ok (.bastore, 1))
    (kk : ∀ (H1 : Heap) (locs1 : List Loc), mw E.1 vwCl A H0 (rfM E (sp σ 6 i v) ad) H1 locs1 → rB (sp σ 6 i v) → W p l e R s m args below meth c H1 locs1 cells slots Q (F0 m (pc + 1) ls rest)) : W p l e R s m args below meth c H locs cells slots Q (F0 m pc ls (.int (nI v) :: .int (nI i) :: .ref (ad 7) :: rest)) := by
  refine m_bast hx hb hK hw 5 (rf_at hI 7 (by decide) rfl) rfl hi (by decide) (up_n (nar_b hv)) hdg (fun H1 locs1 h => kk H1 locs1 ?_ (rB_sp hB (by omega)))
  rw [rf_up (E := E) (σ := σ) (σ' := sp σ 6 i v) (e := .inl (E.2.1 5, 1300, .inl (fun j => nI (va_up (σ 6) i v j)))) hI (by decide) rfl (fun j hj => rfE_eq j (fun _ => ⟨sp_o (by decide), sp_o (by decide), sp_o (by decide), sp_o (by decide)⟩) (fun g hg => sp_o (by omega)))] at h
  exact h
theorem rl_7 (hx : p.tables.exec = Jvm.exec) (hb : c.code = cc) (hK : va_K E.1 vwCl (tysE E) s) (hI : rfI ad) (hB : rB σ) (hw : mw E.1 vwCl A H0 (rfM E σ ad) H locs) {i : Nat} (hi : i < 1300) (hdg : decode cc pc = .ok (.baload, 1))
    (kk : σ 7 i < 32768 → W p l e R s m args below meth c H locs cells slots Q (F0 m (pc + 1) ls (.int (nI (σ 7 i)) :: rest))) : W p l e R s m args below meth c H locs cells slots Q (F0 m pc ls (.int (nI i) :: .ref (ad 8) :: rest)) :=
  m_bald hx hb hK hw 5 (rf_at hI 8 (by decide) rfl) rfl hi (by decide) rfl hdg (kk (hB 7 i (by decide) (by decide)))
theorem rs_7 (hx : p.tables.exec = Jvm.exec) (hb : c.code = cc) (hK : va_K E.1 vwCl (tysE E) s) (hI : rfI ad) (hB : rB σ) (hw : mw E.1 vwCl A H0 (rfM E σ ad) H locs) {i v : Nat} (hi : i < 1300) (hv : v < 128) (hdg : decode cc pc = .ok (.bastore, 1))
    (kk : ∀ (H1 : Heap) (locs1 : List Loc), mw E.1 vwCl A H0 (rfM E (sp σ 7 i v) ad) H1 locs1 → rB (sp σ 7 i v) → W p l e R s m args below meth c H1 locs1 cells slots Q (F0 m (pc + 1) ls rest)) : W p l e R s m args below meth c H locs cells slots Q (F0 m pc ls (.int (nI v) :: .int (nI i) :: .ref (ad 8) :: rest)) := by
  refine m_bast hx hb hK hw 5 (rf_at hI 8 (by decide) rfl) rfl hi (by decide) (up_n (nar_b hv)) hdg (fun H1 locs1 h => kk H1 locs1 ?_ (rB_sp hB (by omega)))
  rw [rf_up (E := E) (σ := σ) (σ' := sp σ 7 i v) (e := .inl (E.2.1 5, 1300, .inl (fun j => nI (va_up (σ 7) i v j)))) hI (by decide) rfl (fun j hj => rfE_eq j (fun _ => ⟨sp_o (by decide), sp_o (by decide), sp_o (by decide), sp_o (by decide)⟩) (fun g hg => sp_o (by omega)))] at h
  exact h
theorem rl_8 (hx : p.tables.exec = Jvm.exec) (hb : c.code = cc) (hK : va_K E.1 vwCl (tysE E) s) (hI : rfI ad) (hB : rB σ) (hw : mw E.1 vwCl A H0 (rfM E σ ad) H locs) {i : Nat} (hi : i < 1300) (hdg : decode cc pc = .ok (.baload, 1))
    (kk : σ 8 i < 32768 → W p l e R s m args below meth c H locs cells slots Q (F0 m (pc + 1) ls (.int (nI (σ 8 i)) :: rest))) : W p l e R s m args below meth c H locs cells slots Q (F0 m pc ls (.int (nI i) :: .ref (ad 9) :: rest)) :=
  m_zald hx hb hK hw 6 (rf_at hI 9 (by decide) rfl) rfl hi (by decide) rfl hdg (kk (hB 8 i (by decide) (by decide)))
theorem rs_8 (hx : p.tables.exec = Jvm.exec) (hb : c.code = cc) (hK : va_K E.1 vwCl (tysE E) s) (hI : rfI ad) (hB : rB σ) (hw : mw E.1 vwCl A H0 (rfM E σ ad) H locs) {i v : Nat} (hi : i < 1300) (hv : v ≤ 1) (hdg : decode cc pc = .ok (.bastore, 1))
    (kk : ∀ (H1 : Heap) (locs1 : List Loc), mw E.1 vwCl A H0 (rfM E (sp σ 8 i v) ad) H1 locs1 → rB (sp σ 8 i v) → W p l e R s m args below meth c H1 locs1 cells slots Q (F0 m (pc + 1) ls rest)) : W p l e R s m args below meth c H locs cells slots Q (F0 m pc ls (.int (nI v) :: .int (nI i) :: .ref (ad 9) :: rest)) := by
  refine m_zast hx hb hK hw 6 (rf_at hI 9 (by decide) rfl) rfl hi (by decide) (up_n (nar_z hv)) hdg (fun H1 locs1 h => kk H1 locs1 ?_ (rB_sp hB (by omega)))
  rw [rf_up (E := E) (σ := σ) (σ' := sp σ 8 i v) (e := .inl (E.2.1 6, 1300, .inl (fun j => nI (va_up (σ 8) i v j)))) hI (by decide) rfl (fun j hj => rfE_eq j (fun _ => ⟨sp_o (by decide), sp_o (by decide), sp_o (by decide), sp_o (by decide)⟩) (fun g hg => sp_o (by omega)))] at h
  exact h
theorem rl_9 (hx : p.tables.exec = Jvm.exec) (hb : c.code = cc) (hK : va_K E.1 vwCl (tysE E) s) (hI : rfI ad) (hw : mw E.1 vwCl A H0 (rfM E σ ad) H locs) {i : Nat} (hi : i < 1300) (hdg : decode cc pc = .ok (.laload, 1))
    (kk : W p l e R s m args below meth c H locs cells slots Q (F0 m (pc + 1) ls (.long (lN (σ 9 i)) :: rest))) : W p l e R s m args below meth c H locs cells slots Q (F0 m pc ls (.int (nI i) :: .ref (ad 10) :: rest)) :=
  m_lald hx hb hK hw 8 (rf_at hI 10 (by decide) rfl) rfl hi (by decide) rfl hdg kk
theorem rs_9 (hx : p.tables.exec = Jvm.exec) (hb : c.code = cc) (hK : va_K E.1 vwCl (tysE E) s) (hI : rfI ad) (hB : rB σ) (hw : mw E.1 vwCl A H0 (rfM E σ ad) H locs) {i v : Nat} (hi : i < 1300) (hdg : decode cc pc = .ok (.lastore, 1))
    (kk : ∀ (H1 : Heap) (locs1 : List Loc), mw E.1 vwCl A H0 (rfM E (sp σ 9 i v) ad) H1 locs1 → rB (sp σ 9 i v) → W p l e R s m args below meth c H1 locs1 cells slots Q (F0 m (pc + 1) ls rest)) : W p l e R s m args below meth c H locs cells slots Q (F0 m pc ls (.long (lN v) :: .int (nI i) :: .ref (ad 10) :: rest)) := by
  refine m_last hx hb hK hw 8 (rf_at hI 10 (by decide) rfl) rfl hi (by decide) up_l hdg (fun H1 locs1 h => kk H1 locs1 ?_ (rB_spL hB (by decide)))
  rw [rf_up (E := E) (σ := σ) (σ' := sp σ 9 i v) (e := .inl (E.2.1 8, 1300, .inr (.inl (fun j => lN (va_up (σ 9) i v j))))) hI (by decide) rfl (fun j hj => rfE_eq j (fun _ => ⟨sp_o (by decide), sp_o (by decide), sp_o (by decide), sp_o (by decide)⟩) (fun g hg => sp_o (by omega)))] at h
  exact h
theorem rl_10 (hx : p.tables.exec = Jvm.exec) (hb : c.code = cc) (hK : va_K E.1 vwCl (tysE E) s) (hI : rfI ad) (hB : rB σ) (hw : mw E.1 vwCl A H0 (rfM E σ ad) H locs) {i : Nat} (hi : i < 1300) (hdg : decode cc pc = .ok (.saload, 1))
    (kk : σ 10 i < 32768 → W p l e R s m args below meth c H locs cells slots Q (F0 m (pc + 1) ls (.int (nI (σ 10 i)) :: rest))) : W p l e R s m args below meth c H locs cells slots Q (F0 m pc ls (.int (nI i) :: .ref (ad 11) :: rest)) :=
  m_sald hx hb hK hw 4 (rf_at hI 11 (by decide) rfl) rfl hi (by decide) rfl hdg (kk (hB 10 i (by decide) (by decide)))
theorem rs_10 (hx : p.tables.exec = Jvm.exec) (hb : c.code = cc) (hK : va_K E.1 vwCl (tysE E) s) (hI : rfI ad) (hB : rB σ) (hw : mw E.1 vwCl A H0 (rfM E σ ad) H locs) {i v : Nat} (hi : i < 1300) (hv : v < 32768) (hdg : decode cc pc = .ok (.sastore, 1))
    (kk : ∀ (H1 : Heap) (locs1 : List Loc), mw E.1 vwCl A H0 (rfM E (sp σ 10 i v) ad) H1 locs1 → rB (sp σ 10 i v) → W p l e R s m args below meth c H1 locs1 cells slots Q (F0 m (pc + 1) ls rest)) : W p l e R s m args below meth c H locs cells slots Q (F0 m pc ls (.int (nI v) :: .int (nI i) :: .ref (ad 11) :: rest)) := by
  refine m_sast hx hb hK hw 4 (rf_at hI 11 (by decide) rfl) rfl hi (by decide) (up_n (nar_s hv)) hdg (fun H1 locs1 h => kk H1 locs1 ?_ (rB_sp hB (by omega)))
  rw [rf_up (E := E) (σ := σ) (σ' := sp σ 10 i v) (e := .inl (E.2.1 4, 1300, .inl (fun j => nI (va_up (σ 10) i v j)))) hI (by decide) rfl (fun j hj => rfE_eq j (fun _ => ⟨sp_o (by decide), sp_o (by decide), sp_o (by decide), sp_o (by decide)⟩) (fun g hg => sp_o (by omega)))] at h
  exact h
theorem rl_11 (hx : p.tables.exec = Jvm.exec) (hb : c.code = cc) (hK : va_K E.1 vwCl (tysE E) s) (hI : rfI ad) (hB : rB σ) (hw : mw E.1 vwCl A H0 (rfM E σ ad) H locs) {i : Nat} (hi : i < 1300) (hdg : decode cc pc = .ok (.saload, 1))
    (kk : σ 11 i < 32768 → W p l e R s m args below meth c H locs cells slots Q (F0 m (pc + 1) ls (.int (nI (σ 11 i)) :: rest))) : W p l e R s m args below meth c H locs cells slots Q (F0 m pc ls (.int (nI i) :: .ref (ad 12) :: rest)) :=
  m_sald hx hb hK hw 4 (rf_at hI 12 (by decide) rfl) rfl hi (by decide) rfl hdg (kk (hB 11 i (by decide) (by decide)))
theorem rs_11 (hx : p.tables.exec = Jvm.exec) (hb : c.code = cc) (hK : va_K E.1 vwCl (tysE E) s) (hI : rfI ad) (hB : rB σ) (hw : mw E.1 vwCl A H0 (rfM E σ ad) H locs) {i v : Nat} (hi : i < 1300) (hv : v < 32768) (hdg : decode cc pc = .ok (.sastore, 1))
    (kk : ∀ (H1 : Heap) (locs1 : List Loc), mw E.1 vwCl A H0 (rfM E (sp σ 11 i v) ad) H1 locs1 → rB (sp σ 11 i v) → W p l e R s m args below meth c H1 locs1 cells slots Q (F0 m (pc + 1) ls rest)) : W p l e R s m args below meth c H locs cells slots Q (F0 m pc ls (.int (nI v) :: .int (nI i) :: .ref (ad 12) :: rest)) := by
  refine m_sast hx hb hK hw 4 (rf_at hI 12 (by decide) rfl) rfl hi (by decide) (up_n (nar_s hv)) hdg (fun H1 locs1 h => kk H1 locs1 ?_ (rB_sp hB (by omega)))
  rw [rf_up (E := E) (σ := σ) (σ' := sp σ 11 i v) (e := .inl (E.2.1 4, 1300, .inl (fun j => nI (va_up (σ 11) i v j)))) hI (by decide) rfl (fun j hj => rfE_eq j (fun _ => ⟨sp_o (by decide), sp_o (by decide), sp_o (by decide), sp_o (by decide)⟩) (fun g hg => sp_o (by omega)))] at h
  exact h
theorem rl_12 (hx : p.tables.exec = Jvm.exec) (hb : c.code = cc) (hK : va_K E.1 vwCl (tysE E) s) (hI : rfI ad) (hB : rB σ) (hw : mw E.1 vwCl A H0 (rfM E σ ad) H locs) {i : Nat} (hi : i < 1300) (hdg : decode cc pc = .ok (.baload, 1))
    (kk : σ 12 i < 32768 → W p l e R s m args below meth c H locs cells slots Q (F0 m (pc + 1) ls (.int (bI (σ 12 i)) :: rest))) : W p l e R s m args below meth c H locs cells slots Q (F0 m pc ls (.int (nI i) :: .ref (ad 13) :: rest)) :=
  m_bald hx hb hK hw 5 (rf_at hI 13 (by decide) rfl) rfl hi (by decide) rfl hdg (kk (hB 12 i (by decide) (by decide)))
theorem rs_12e (σ : SS) (i v : Nat) : (fun j => bI (sp σ 12 i v 12 j)) = fun j => bI (va_up (σ 12) i v j) := by
  have h : sp σ 12 i v 12 = va_up (σ 12) i v := by unfold sp upf; rw [if_pos rfl]
  rw [h]
theorem rs_12f (E : Ev) (σ : SS) (ad : Nat → Nat) (i v : Nat) : rfE E (sp σ 12 i v) ad 13 = some (.inl (E.2.1 5, 1300, .inl (fun j => bI (va_up (σ 12) i v j)))) := by
  show some (Sum.inl (E.2.1 5, 1300, Sum.inl (fun j => bI (sp σ 12 i v 12 j)))) = _
  rw [rs_12e]
theorem rs_12g (E : Ev) (σ : SS) (ad : Nat → Nat) (i v : Nat) (hI : rfI ad) : mp_up (rfM E σ ad) (ad 13) (.inl (E.2.1 5, 1300, .inl (fun j => bI (va_up (σ 12) i v j)))) = rfM E (sp σ 12 i v) ad := rf_up hI (by decide) (rs_12f E σ ad i v) (fun j hj => rfE_eq j (fun _ => ⟨sp_o (by decide), sp_o (by decide), sp_o (by decide), sp_o (by decide)⟩) (fun g hg => sp_o (by omega)))
theorem rs_12 (hx : p.tables.exec = Jvm.exec) (hb : c.code = cc) (hK : va_K E.1 vwCl (tysE E) s) (hI : rfI ad) (hB : rB σ) (hw : mw E.1 vwCl A H0 (rfM E σ ad) H locs) {i v : Nat} (hi : i < 1300) (hv : v < 256) (hdg : decode cc pc = .ok (.bastore, 1))
    (kk : ∀ (H1 : Heap) (locs1 : List Loc), mw E.1 vwCl A H0 (rfM E (sp σ 12 i v) ad) H1 locs1 → rB (sp σ 12 i v) → W p l e R s m args below meth c H1 locs1 cells slots Q (F0 m (pc + 1) ls rest)) : W p l e R s m args below meth c H locs cells slots Q (F0 m pc ls (.int (bI v) :: .int (nI i) :: .ref (ad 13) :: rest)) := by
  have e1 : upd (fun j => bI (σ 12 j)) i (vp_nar .byte (bI v)) = fun j => bI (va_up (σ 12) i v j) := up_b nar_bI
  refine m_bast hx hb hK hw 5 (rf_at hI 13 (by decide) rfl) rfl hi (by decide) e1 hdg (fun H1 locs1 h => kk H1 locs1 ?_ (rB_sp hB (by omega)))
  rw [rs_12g E σ ad i v hI] at h
  exact h
theorem rl_13 (hx : p.tables.exec = Jvm.exec) (hb : c.code = cc) (hK : va_K E.1 vwCl (tysE E) s) (hI : rfI ad) (hB : rB σ) (hw : mw E.1 vwCl A H0 (rfM E σ ad) H locs) {i : Nat} (hi : i < 1300) (hdg : decode cc pc = .ok (.saload, 1))
    (kk : σ 13 i < 32768 → W p l e R s m args below meth c H locs cells slots Q (F0 m (pc + 1) ls (.int (nI (σ 13 i)) :: rest))) : W p l e R s m args below meth c H locs cells slots Q (F0 m pc ls (.int (nI i) :: .ref (ad 14) :: rest)) :=
  m_sald hx hb hK hw 4 (rf_at hI 14 (by decide) rfl) rfl hi (by decide) rfl hdg (kk (hB 13 i (by decide) (by decide)))
theorem rs_13 (hx : p.tables.exec = Jvm.exec) (hb : c.code = cc) (hK : va_K E.1 vwCl (tysE E) s) (hI : rfI ad) (hB : rB σ) (hw : mw E.1 vwCl A H0 (rfM E σ ad) H locs) {i v : Nat} (hi : i < 1300) (hv : v < 32768) (hdg : decode cc pc = .ok (.sastore, 1))
    (kk : ∀ (H1 : Heap) (locs1 : List Loc), mw E.1 vwCl A H0 (rfM E (sp σ 13 i v) ad) H1 locs1 → rB (sp σ 13 i v) → W p l e R s m args below meth c H1 locs1 cells slots Q (F0 m (pc + 1) ls rest)) : W p l e R s m args below meth c H locs cells slots Q (F0 m pc ls (.int (nI v) :: .int (nI i) :: .ref (ad 14) :: rest)) := by
  refine m_sast hx hb hK hw 4 (rf_at hI 14 (by decide) rfl) rfl hi (by decide) (up_n (nar_s hv)) hdg (fun H1 locs1 h => kk H1 locs1 ?_ (rB_sp hB (by omega)))
  rw [rf_up (E := E) (σ := σ) (σ' := sp σ 13 i v) (e := .inl (E.2.1 4, 1300, .inl (fun j => nI (va_up (σ 13) i v j)))) hI (by decide) rfl (fun j hj => rfE_eq j (fun _ => ⟨sp_o (by decide), sp_o (by decide), sp_o (by decide), sp_o (by decide)⟩) (fun g hg => sp_o (by omega)))] at h
  exact h
theorem rl_14 (hx : p.tables.exec = Jvm.exec) (hb : c.code = cc) (hK : va_K E.1 vwCl (tysE E) s) (hI : rfI ad) (hB : rB σ) (hw : mw E.1 vwCl A H0 (rfM E σ ad) H locs) {i : Nat} (hi : i < 1300) (hdg : decode cc pc = .ok (.saload, 1))
    (kk : σ 14 i < 32768 → W p l e R s m args below meth c H locs cells slots Q (F0 m (pc + 1) ls (.int (nI (σ 14 i)) :: rest))) : W p l e R s m args below meth c H locs cells slots Q (F0 m pc ls (.int (nI i) :: .ref (ad 15) :: rest)) :=
  m_sald hx hb hK hw 4 (rf_at hI 15 (by decide) rfl) rfl hi (by decide) rfl hdg (kk (hB 14 i (by decide) (by decide)))
theorem rs_14 (hx : p.tables.exec = Jvm.exec) (hb : c.code = cc) (hK : va_K E.1 vwCl (tysE E) s) (hI : rfI ad) (hB : rB σ) (hw : mw E.1 vwCl A H0 (rfM E σ ad) H locs) {i v : Nat} (hi : i < 1300) (hv : v < 32768) (hdg : decode cc pc = .ok (.sastore, 1))
    (kk : ∀ (H1 : Heap) (locs1 : List Loc), mw E.1 vwCl A H0 (rfM E (sp σ 14 i v) ad) H1 locs1 → rB (sp σ 14 i v) → W p l e R s m args below meth c H1 locs1 cells slots Q (F0 m (pc + 1) ls rest)) : W p l e R s m args below meth c H locs cells slots Q (F0 m pc ls (.int (nI v) :: .int (nI i) :: .ref (ad 15) :: rest)) := by
  refine m_sast hx hb hK hw 4 (rf_at hI 15 (by decide) rfl) rfl hi (by decide) (up_n (nar_s hv)) hdg (fun H1 locs1 h => kk H1 locs1 ?_ (rB_sp hB (by omega)))
  rw [rf_up (E := E) (σ := σ) (σ' := sp σ 14 i v) (e := .inl (E.2.1 4, 1300, .inl (fun j => nI (va_up (σ 14) i v j)))) hI (by decide) rfl (fun j hj => rfE_eq j (fun _ => ⟨sp_o (by decide), sp_o (by decide), sp_o (by decide), sp_o (by decide)⟩) (fun g hg => sp_o (by omega)))] at h
  exact h
theorem rl_15 (hx : p.tables.exec = Jvm.exec) (hb : c.code = cc) (hK : va_K E.1 vwCl (tysE E) s) (hI : rfI ad) (hB : rB σ) (hw : mw E.1 vwCl A H0 (rfM E σ ad) H locs) {i : Nat} (hi : i < 1300) (hdg : decode cc pc = .ok (.saload, 1))
    (kk : σ 15 i < 32768 → W p l e R s m args below meth c H locs cells slots Q (F0 m (pc + 1) ls (.int (nI (σ 15 i)) :: rest))) : W p l e R s m args below meth c H locs cells slots Q (F0 m pc ls (.int (nI i) :: .ref (ad 16) :: rest)) :=
  m_sald hx hb hK hw 4 (rf_at hI 16 (by decide) rfl) rfl hi (by decide) rfl hdg (kk (hB 15 i (by decide) (by decide)))
theorem rs_15 (hx : p.tables.exec = Jvm.exec) (hb : c.code = cc) (hK : va_K E.1 vwCl (tysE E) s) (hI : rfI ad) (hB : rB σ) (hw : mw E.1 vwCl A H0 (rfM E σ ad) H locs) {i v : Nat} (hi : i < 1300) (hv : v < 32768) (hdg : decode cc pc = .ok (.sastore, 1))
    (kk : ∀ (H1 : Heap) (locs1 : List Loc), mw E.1 vwCl A H0 (rfM E (sp σ 15 i v) ad) H1 locs1 → rB (sp σ 15 i v) → W p l e R s m args below meth c H1 locs1 cells slots Q (F0 m (pc + 1) ls rest)) : W p l e R s m args below meth c H locs cells slots Q (F0 m pc ls (.int (nI v) :: .int (nI i) :: .ref (ad 16) :: rest)) := by
  refine m_sast hx hb hK hw 4 (rf_at hI 16 (by decide) rfl) rfl hi (by decide) (up_n (nar_s hv)) hdg (fun H1 locs1 h => kk H1 locs1 ?_ (rB_sp hB (by omega)))
  rw [rf_up (E := E) (σ := σ) (σ' := sp σ 15 i v) (e := .inl (E.2.1 4, 1300, .inl (fun j => nI (va_up (σ 15) i v j)))) hI (by decide) rfl (fun j hj => rfE_eq j (fun _ => ⟨sp_o (by decide), sp_o (by decide), sp_o (by decide), sp_o (by decide)⟩) (fun g hg => sp_o (by omega)))] at h
  exact h
theorem rfE_s16 {E : Ev} {σ : SS} {ad : Nat → Nat} {v : Nat} (j : Nat) (hj : j ≠ 0) : rfE E (sp σ 16 0 v) ad j = rfE E σ ad j := by
  rcases (show j = 0 ∨ j = 1 ∨ j = 2 ∨ j = 3 ∨ j = 4 ∨ j = 5 ∨ j = 6 ∨ j = 7 ∨ j = 8 ∨ j = 9 ∨ j = 10 ∨ j = 11 ∨ j = 12 ∨ j = 13 ∨ j = 14 ∨ j = 15 ∨ j = 16 ∨ j = 17 ∨ j = 18 ∨ j = 19 ∨ j = 20 ∨ j = 21 ∨ 22 ≤ j by omega) with rfl | rfl | rfl | rfl | rfl | rfl | rfl | rfl | rfl | rfl | rfl | rfl | rfl | rfl | rfl | rfl | rfl | rfl | rfl | rfl | rfl | rfl | h
  · exact absurd rfl hj
  · exact rfq_1 (sp_o (by decide))
  · exact (rfn_2).trans (rfn_2).symm
  · exact rfq_3 (sp_o (by decide))
  · exact rfq_4 (sp_o (by decide))
  · exact (rfn_5).trans (rfn_5).symm
  · exact (rfn_6).trans (rfn_6).symm
  · exact rfq_7 (sp_o (by decide))
  · exact rfq_8 (sp_o (by decide))
  · exact rfq_9 (sp_o (by decide))
  · exact rfq_10 (sp_o (by decide))
  · exact rfq_11 (sp_o (by decide))
  · exact rfq_12 (sp_o (by decide))
  · exact rfq_13 (sp_o (by decide))
  · exact rfq_14 (sp_o (by decide))
  · exact rfq_15 (sp_o (by decide))
  · exact rfq_16 (sp_o (by decide))
  · exact (rfn_17).trans (rfn_17).symm
  · exact rfq_18 (sp_o (by decide))
  · exact rfq_19 (sp_o (by decide))
  · exact rfq_20 (sp_o (by decide))
  · exact rfq_21 (sp_o (by decide))
  · rw [rfE_big h, rfE_big h]
theorem rp_16 (hx : p.tables.exec = Jvm.exec) (hb : c.code = cc) {index : Nat} (hts : ∀ w ∈ WALL, w.before args s = true) (hown : s.vm.findClass R_M = some m.cls) (hK : va_K E.1 vwCl (tysE E) s) (hI : rfI ad) (hB : rB σ) (hw : mw E.1 vwCl A H0 (rfM E σ ad) H locs) (hlink : Cond.fieldLink R_M index (T_M 16).1 (T_M 16).2.1 (T_M 16).2.2.1 ∈ WALL) {v : Nat} (hv : v < 32768) (hdg : decode cc pc = .ok (.putfield index, 3))
    (kk : ∀ (H1 : Heap) (locs1 : List Loc), mw E.1 vwCl A H0 (rfM E (sp σ 16 0 v) ad) H1 locs1 → rB (sp σ 16 0 v) → W p l e R s m args below meth c H1 locs1 cells slots Q (F0 m (pc + 3) ls rest)) : W p l e R s m args below meth c H locs cells slots Q (F0 m pc ls (.int (nI v) :: .ref (ad 0) :: rest)) := by
  refine m_put hx hb hts hown hK hw ci_M (rf_at hI 0 (by decide) rfl) 16 (by decide) hlink rfl rfl rfl (Nat.le_of_ble_eq_true rfl) hdg (fun H1 locs1 h => kk H1 locs1 ?_ (rB_sp hB hv))
  rw [rf_up (E := E) (σ := σ) (σ' := sp σ 16 0 v) (e := .inr (8, (rfF σ ad).set 16 (.int (nI v)))) hI (by decide) rfl (fun j hj => rfE_s16 j hj)] at h
  exact h
theorem rl_17 (hx : p.tables.exec = Jvm.exec) (hb : c.code = cc) (hK : va_K E.1 vwCl (tysE E) s) (hI : rfI ad) (hw : mw E.1 vwCl A H0 (rfM E σ ad) H locs) {i : Nat} (hi : i < 512) (hdg : decode cc pc = .ok (.laload, 1))
    (kk : W p l e R s m args below meth c H locs cells slots Q (F0 m (pc + 1) ls (.long (lN (σ 17 i)) :: rest))) : W p l e R s m args below meth c H locs cells slots Q (F0 m pc ls (.int (nI i) :: .ref (ad 18) :: rest)) :=
  m_lald hx hb hK hw 8 (rf_at hI 18 (by decide) rfl) rfl hi (by decide) rfl hdg kk
theorem rs_17 (hx : p.tables.exec = Jvm.exec) (hb : c.code = cc) (hK : va_K E.1 vwCl (tysE E) s) (hI : rfI ad) (hB : rB σ) (hw : mw E.1 vwCl A H0 (rfM E σ ad) H locs) {i v : Nat} (hi : i < 512) (hdg : decode cc pc = .ok (.lastore, 1))
    (kk : ∀ (H1 : Heap) (locs1 : List Loc), mw E.1 vwCl A H0 (rfM E (sp σ 17 i v) ad) H1 locs1 → rB (sp σ 17 i v) → W p l e R s m args below meth c H1 locs1 cells slots Q (F0 m (pc + 1) ls rest)) : W p l e R s m args below meth c H locs cells slots Q (F0 m pc ls (.long (lN v) :: .int (nI i) :: .ref (ad 18) :: rest)) := by
  refine m_last hx hb hK hw 8 (rf_at hI 18 (by decide) rfl) rfl hi (by decide) up_l hdg (fun H1 locs1 h => kk H1 locs1 ?_ (rB_spL hB (by decide)))
  rw [rf_up (E := E) (σ := σ) (σ' := sp σ 17 i v) (e := .inl (E.2.1 8, 512, .inr (.inl (fun j => lN (va_up (σ 17) i v j))))) hI (by decide) rfl (fun j hj => rfE_eq j (fun _ => ⟨sp_o (by decide), sp_o (by decide), sp_o (by decide), sp_o (by decide)⟩) (fun g hg => sp_o (by omega)))] at h
  exact h
theorem rl_18 (hx : p.tables.exec = Jvm.exec) (hb : c.code = cc) (hK : va_K E.1 vwCl (tysE E) s) (hI : rfI ad) (hB : rB σ) (hw : mw E.1 vwCl A H0 (rfM E σ ad) H locs) {i : Nat} (hi : i < 512) (hdg : decode cc pc = .ok (.baload, 1))
    (kk : σ 18 i < 32768 → W p l e R s m args below meth c H locs cells slots Q (F0 m (pc + 1) ls (.int (nI (σ 18 i)) :: rest))) : W p l e R s m args below meth c H locs cells slots Q (F0 m pc ls (.int (nI i) :: .ref (ad 19) :: rest)) :=
  m_bald hx hb hK hw 5 (rf_at hI 19 (by decide) rfl) rfl hi (by decide) rfl hdg (kk (hB 18 i (by decide) (by decide)))
theorem rs_18 (hx : p.tables.exec = Jvm.exec) (hb : c.code = cc) (hK : va_K E.1 vwCl (tysE E) s) (hI : rfI ad) (hB : rB σ) (hw : mw E.1 vwCl A H0 (rfM E σ ad) H locs) {i v : Nat} (hi : i < 512) (hv : v < 128) (hdg : decode cc pc = .ok (.bastore, 1))
    (kk : ∀ (H1 : Heap) (locs1 : List Loc), mw E.1 vwCl A H0 (rfM E (sp σ 18 i v) ad) H1 locs1 → rB (sp σ 18 i v) → W p l e R s m args below meth c H1 locs1 cells slots Q (F0 m (pc + 1) ls rest)) : W p l e R s m args below meth c H locs cells slots Q (F0 m pc ls (.int (nI v) :: .int (nI i) :: .ref (ad 19) :: rest)) := by
  refine m_bast hx hb hK hw 5 (rf_at hI 19 (by decide) rfl) rfl hi (by decide) (up_n (nar_b hv)) hdg (fun H1 locs1 h => kk H1 locs1 ?_ (rB_sp hB (by omega)))
  rw [rf_up (E := E) (σ := σ) (σ' := sp σ 18 i v) (e := .inl (E.2.1 5, 512, .inl (fun j => nI (va_up (σ 18) i v j)))) hI (by decide) rfl (fun j hj => rfE_eq j (fun _ => ⟨sp_o (by decide), sp_o (by decide), sp_o (by decide), sp_o (by decide)⟩) (fun g hg => sp_o (by omega)))] at h
  exact h
theorem rl_19 (hx : p.tables.exec = Jvm.exec) (hb : c.code = cc) (hK : va_K E.1 vwCl (tysE E) s) (hI : rfI ad) (hB : rB σ) (hw : mw E.1 vwCl A H0 (rfM E σ ad) H locs) {i : Nat} (hi : i < 512) (hdg : decode cc pc = .ok (.saload, 1))
    (kk : σ 19 i < 32768 → W p l e R s m args below meth c H locs cells slots Q (F0 m (pc + 1) ls (.int (nI (σ 19 i)) :: rest))) : W p l e R s m args below meth c H locs cells slots Q (F0 m pc ls (.int (nI i) :: .ref (ad 20) :: rest)) :=
  m_sald hx hb hK hw 4 (rf_at hI 20 (by decide) rfl) rfl hi (by decide) rfl hdg (kk (hB 19 i (by decide) (by decide)))
theorem rs_19 (hx : p.tables.exec = Jvm.exec) (hb : c.code = cc) (hK : va_K E.1 vwCl (tysE E) s) (hI : rfI ad) (hB : rB σ) (hw : mw E.1 vwCl A H0 (rfM E σ ad) H locs) {i v : Nat} (hi : i < 512) (hv : v < 32768) (hdg : decode cc pc = .ok (.sastore, 1))
    (kk : ∀ (H1 : Heap) (locs1 : List Loc), mw E.1 vwCl A H0 (rfM E (sp σ 19 i v) ad) H1 locs1 → rB (sp σ 19 i v) → W p l e R s m args below meth c H1 locs1 cells slots Q (F0 m (pc + 1) ls rest)) : W p l e R s m args below meth c H locs cells slots Q (F0 m pc ls (.int (nI v) :: .int (nI i) :: .ref (ad 20) :: rest)) := by
  refine m_sast hx hb hK hw 4 (rf_at hI 20 (by decide) rfl) rfl hi (by decide) (up_n (nar_s hv)) hdg (fun H1 locs1 h => kk H1 locs1 ?_ (rB_sp hB (by omega)))
  rw [rf_up (E := E) (σ := σ) (σ' := sp σ 19 i v) (e := .inl (E.2.1 4, 512, .inl (fun j => nI (va_up (σ 19) i v j)))) hI (by decide) rfl (fun j hj => rfE_eq j (fun _ => ⟨sp_o (by decide), sp_o (by decide), sp_o (by decide), sp_o (by decide)⟩) (fun g hg => sp_o (by omega)))] at h
  exact h
theorem rl_20 (hx : p.tables.exec = Jvm.exec) (hb : c.code = cc) (hK : va_K E.1 vwCl (tysE E) s) (hI : rfI ad) (hB : rB σ) (hw : mw E.1 vwCl A H0 (rfM E σ ad) H locs) {i : Nat} (hi : i < 512) (hdg : decode cc pc = .ok (.baload, 1))
    (kk : σ 20 i < 32768 → W p l e R s m args below meth c H locs cells slots Q (F0 m (pc + 1) ls (.int (nI (σ 20 i)) :: rest))) : W p l e R s m args below meth c H locs cells slots Q (F0 m pc ls (.int (nI i) :: .ref (ad 21) :: rest)) :=
  m_bald hx hb hK hw 5 (rf_at hI 21 (by decide) rfl) rfl hi (by decide) rfl hdg (kk (hB 20 i (by decide) (by decide)))
theorem rs_20 (hx : p.tables.exec = Jvm.exec) (hb : c.code = cc) (hK : va_K E.1 vwCl (tysE E) s) (hI : rfI ad) (hB : rB σ) (hw : mw E.1 vwCl A H0 (rfM E σ ad) H locs) {i v : Nat} (hi : i < 512) (hv : v < 128) (hdg : decode cc pc = .ok (.bastore, 1))
    (kk : ∀ (H1 : Heap) (locs1 : List Loc), mw E.1 vwCl A H0 (rfM E (sp σ 20 i v) ad) H1 locs1 → rB (sp σ 20 i v) → W p l e R s m args below meth c H1 locs1 cells slots Q (F0 m (pc + 1) ls rest)) : W p l e R s m args below meth c H locs cells slots Q (F0 m pc ls (.int (nI v) :: .int (nI i) :: .ref (ad 21) :: rest)) := by
  refine m_bast hx hb hK hw 5 (rf_at hI 21 (by decide) rfl) rfl hi (by decide) (up_n (nar_b hv)) hdg (fun H1 locs1 h => kk H1 locs1 ?_ (rB_sp hB (by omega)))
  rw [rf_up (E := E) (σ := σ) (σ' := sp σ 20 i v) (e := .inl (E.2.1 5, 512, .inl (fun j => nI (va_up (σ 20) i v j)))) hI (by decide) rfl (fun j hj => rfE_eq j (fun _ => ⟨sp_o (by decide), sp_o (by decide), sp_o (by decide), sp_o (by decide)⟩) (fun g hg => sp_o (by omega)))] at h
  exact h
end RF
end
section
theorem d_M_unit_0 : decode prog_10_method_2_code 0 = .ok (.iload_n 0, 1) := by decide +kernel
theorem d_M_unit_1 : decode prog_10_method_2_code 1 = .ok (.ifCond .ne 7, 3) := by decide +kernel
theorem d_M_unit_4 : decode prog_10_method_2_code 4 = .ok (.iconst 1, 1) := by decide +kernel
theorem d_M_unit_5 : decode prog_10_method_2_code 5 = .ok (.goto 24, 3) := by decide +kernel
theorem d_M_unit_8 : decode prog_10_method_2_code 8 = .ok (.iload_n 0, 1) := by decide +kernel
theorem d_M_unit_9 : decode prog_10_method_2_code 9 = .ok (.iconst 1, 1) := by decide +kernel
theorem d_M_unit_10 : decode prog_10_method_2_code 10 = .ok (.if_icmp .ne 7, 3) := by decide +kernel
theorem d_M_unit_13 : decode prog_10_method_2_code 13 = .ok (.iconst 5, 1) := by decide +kernel
theorem d_M_unit_14 : decode prog_10_method_2_code 14 = .ok (.goto 15, 3) := by decide +kernel
theorem d_M_unit_17 : decode prog_10_method_2_code 17 = .ok (.iload_n 0, 1) := by decide +kernel
theorem d_M_unit_18 : decode prog_10_method_2_code 18 = .ok (.iconst 2, 1) := by decide +kernel
theorem d_M_unit_19 : decode prog_10_method_2_code 19 = .ok (.if_icmp .ne 8, 3) := by decide +kernel
theorem d_M_unit_22 : decode prog_10_method_2_code 22 = .ok (.bipush 25, 2) := by decide +kernel
theorem d_M_unit_24 : decode prog_10_method_2_code 24 = .ok (.goto 5, 3) := by decide +kernel
theorem d_M_unit_27 : decode prog_10_method_2_code 27 = .ok (.bipush 125, 2) := by decide +kernel
theorem d_M_unit_29 : decode prog_10_method_2_code 29 = .ok (.ireturn, 1) := by decide +kernel

theorem d_M_depth_0 : decode prog_10_method_4_code 0 = .ok (.iload_n 0, 1) := by decide +kernel
theorem d_M_depth_1 : decode prog_10_method_4_code 1 = .ok (.ifCond .ne 7, 3) := by decide +kernel
theorem d_M_depth_4 : decode prog_10_method_4_code 4 = .ok (.iconst 0, 1) := by decide +kernel
theorem d_M_depth_5 : decode prog_10_method_4_code 5 = .ok (.goto 23, 3) := by decide +kernel
theorem d_M_depth_8 : decode prog_10_method_4_code 8 = .ok (.iload_n 0, 1) := by decide +kernel
theorem d_M_depth_9 : decode prog_10_method_4_code 9 = .ok (.iconst 5, 1) := by decide +kernel
theorem d_M_depth_10 : decode prog_10_method_4_code 10 = .ok (.if_icmp .ge 7, 3) := by decide +kernel
theorem d_M_depth_13 : decode prog_10_method_4_code 13 = .ok (.iconst 1, 1) := by decide +kernel
theorem d_M_depth_14 : decode prog_10_method_4_code 14 = .ok (.goto 14, 3) := by decide +kernel
theorem d_M_depth_17 : decode prog_10_method_4_code 17 = .ok (.iload_n 0, 1) := by decide +kernel
theorem d_M_depth_18 : decode prog_10_method_4_code 18 = .ok (.bipush 25, 2) := by decide +kernel
theorem d_M_depth_20 : decode prog_10_method_4_code 20 = .ok (.if_icmp .ge 7, 3) := by decide +kernel
theorem d_M_depth_23 : decode prog_10_method_4_code 23 = .ok (.iconst 2, 1) := by decide +kernel
theorem d_M_depth_24 : decode prog_10_method_4_code 24 = .ok (.goto 4, 3) := by decide +kernel
theorem d_M_depth_27 : decode prog_10_method_4_code 27 = .ok (.iconst 3, 1) := by decide +kernel
theorem d_M_depth_28 : decode prog_10_method_4_code 28 = .ok (.ireturn, 1) := by decide +kernel

theorem d_M_good_0 : decode prog_10_method_3_code 0 = .ok (.iload_n 0, 1) := by decide +kernel
theorem d_M_good_1 : decode prog_10_method_3_code 1 = .ok (.ifCond .lt 9, 3) := by decide +kernel
theorem d_M_good_4 : decode prog_10_method_3_code 4 = .ok (.iload_n 0, 1) := by decide +kernel
theorem d_M_good_5 : decode prog_10_method_3_code 5 = .ok (.bipush 124, 2) := by decide +kernel
theorem d_M_good_7 : decode prog_10_method_3_code 7 = .ok (.if_icmp .le 5, 3) := by decide +kernel
theorem d_M_good_10 : decode prog_10_method_3_code 10 = .ok (.iconst 0, 1) := by decide +kernel
theorem d_M_good_11 : decode prog_10_method_3_code 11 = .ok (.ireturn, 1) := by decide +kernel
theorem d_M_good_12 : decode prog_10_method_3_code 12 = .ok (.iload_n 0, 1) := by decide +kernel
theorem d_M_good_13 : decode prog_10_method_3_code 13 = .ok (.iconst 5, 1) := by decide +kernel
theorem d_M_good_14 : decode prog_10_method_3_code 14 = .ok (.idiv, 1) := by decide +kernel
theorem d_M_good_15 : decode prog_10_method_3_code 15 = .ok (.iconst 5, 1) := by decide +kernel
theorem d_M_good_16 : decode prog_10_method_3_code 16 = .ok (.irem, 1) := by decide +kernel
theorem d_M_good_17 : decode prog_10_method_3_code 17 = .ok (.ifCond .le 7, 3) := by decide +kernel
theorem d_M_good_20 : decode prog_10_method_3_code 20 = .ok (.iconst 1, 1) := by decide +kernel
theorem d_M_good_21 : decode prog_10_method_3_code 21 = .ok (.goto 4, 3) := by decide +kernel
theorem d_M_good_24 : decode prog_10_method_3_code 24 = .ok (.iconst 0, 1) := by decide +kernel
theorem d_M_good_25 : decode prog_10_method_3_code 25 = .ok (.istore_n 1, 1) := by decide +kernel
theorem d_M_good_26 : decode prog_10_method_3_code 26 = .ok (.iload_n 0, 1) := by decide +kernel
theorem d_M_good_27 : decode prog_10_method_3_code 27 = .ok (.iconst 5, 1) := by decide +kernel
theorem d_M_good_28 : decode prog_10_method_3_code 28 = .ok (.irem, 1) := by decide +kernel
theorem d_M_good_29 : decode prog_10_method_3_code 29 = .ok (.ifCond .gt 7, 3) := by decide +kernel
theorem d_M_good_32 : decode prog_10_method_3_code 32 = .ok (.iload_n 0, 1) := by decide +kernel
theorem d_M_good_33 : decode prog_10_method_3_code 33 = .ok (.ifCond .ne 16, 3) := by decide +kernel
theorem d_M_good_36 : decode prog_10_method_3_code 36 = .ok (.iload_n 1, 1) := by decide +kernel
theorem d_M_good_37 : decode prog_10_method_3_code 37 = .ok (.ifCond .ne 8, 3) := by decide +kernel
theorem d_M_good_40 : decode prog_10_method_3_code 40 = .ok (.iload_n 0, 1) := by decide +kernel
theorem d_M_good_41 : decode prog_10_method_3_code 41 = .ok (.iconst 5, 1) := by decide +kernel
theorem d_M_good_42 : decode prog_10_method_3_code 42 = .ok (.if_icmp .ge 7, 3) := by decide +kernel
theorem d_M_good_45 : decode prog_10_method_3_code 45 = .ok (.iconst 1, 1) := by decide +kernel
theorem d_M_good_46 : decode prog_10_method_3_code 46 = .ok (.goto 4, 3) := by decide +kernel
theorem d_M_good_49 : decode prog_10_method_3_code 49 = .ok (.iconst 0, 1) := by decide +kernel
theorem d_M_good_50 : decode prog_10_method_3_code 50 = .ok (.ireturn, 1) := by decide +kernel

theorem d_M_parent_0 : decode prog_10_method_5_code 0 = .ok (.iload_n 0, 1) := by decide +kernel
theorem d_M_parent_1 : decode prog_10_method_5_code 1 = .ok (.iload_n 0, 1) := by decide +kernel
theorem d_M_parent_2 : decode prog_10_method_5_code 2 = .ok (.invokestatic 69, 3) := by decide +kernel
theorem d_M_parent_5 : decode prog_10_method_5_code 5 = .ok (.iconst 1, 1) := by decide +kernel
theorem d_M_parent_6 : decode prog_10_method_5_code 6 = .ok (.isub, 1) := by decide +kernel
theorem d_M_parent_7 : decode prog_10_method_5_code 7 = .ok (.invokestatic 73, 3) := by decide +kernel
theorem d_M_parent_10 : decode prog_10_method_5_code 10 = .ok (.irem, 1) := by decide +kernel
theorem d_M_parent_11 : decode prog_10_method_5_code 11 = .ok (.ireturn, 1) := by decide +kernel

theorem d_M_under_0 : decode prog_10_method_6_code 0 = .ok (.iload_n 0, 1) := by decide +kernel
theorem d_M_under_1 : decode prog_10_method_6_code 1 = .ok (.iload_n 1, 1) := by decide +kernel
theorem d_M_under_2 : decode prog_10_method_6_code 2 = .ok (.invokestatic 69, 3) := by decide +kernel
theorem d_M_under_5 : decode prog_10_method_6_code 5 = .ok (.invokestatic 73, 3) := by decide +kernel
theorem d_M_under_8 : decode prog_10_method_6_code 8 = .ok (.irem, 1) := by decide +kernel
theorem d_M_under_9 : decode prog_10_method_6_code 9 = .ok (.iload_n 1, 1) := by decide +kernel
theorem d_M_under_10 : decode prog_10_method_6_code 10 = .ok (.if_icmp .ne 7, 3) := by decide +kernel
theorem d_M_under_13 : decode prog_10_method_6_code 13 = .ok (.iconst 1, 1) := by decide +kernel
theorem d_M_under_14 : decode prog_10_method_6_code 14 = .ok (.goto 4, 3) := by decide +kernel
theorem d_M_under_17 : decode prog_10_method_6_code 17 = .ok (.iconst 0, 1) := by decide +kernel
theorem d_M_under_18 : decode prog_10_method_6_code 18 = .ok (.ireturn, 1) := by decide +kernel

theorem d_M_moved_0 : decode prog_10_method_18_code 0 = .ok (.iload_n 2, 1) := by decide +kernel
theorem d_M_moved_1 : decode prog_10_method_18_code 1 = .ok (.invokestatic 69, 3) := by decide +kernel
theorem d_M_moved_4 : decode prog_10_method_18_code 4 = .ok (.iload_n 0, 1) := by decide +kernel
theorem d_M_moved_5 : decode prog_10_method_18_code 5 = .ok (.invokestatic 69, 3) := by decide +kernel
theorem d_M_moved_8 : decode prog_10_method_18_code 8 = .ok (.iadd, 1) := by decide +kernel
theorem d_M_moved_9 : decode prog_10_method_18_code 9 = .ok (.iload_n 1, 1) := by decide +kernel
theorem d_M_moved_10 : decode prog_10_method_18_code 10 = .ok (.invokestatic 69, 3) := by decide +kernel
theorem d_M_moved_13 : decode prog_10_method_18_code 13 = .ok (.isub, 1) := by decide +kernel
theorem d_M_moved_14 : decode prog_10_method_18_code 14 = .ok (.istore_n 3, 1) := by decide +kernel
theorem d_M_moved_15 : decode prog_10_method_18_code 15 = .ok (.iload_n 3, 1) := by decide +kernel
theorem d_M_moved_16 : decode prog_10_method_18_code 16 = .ok (.iconst 3, 1) := by decide +kernel
theorem d_M_moved_17 : decode prog_10_method_18_code 17 = .ok (.if_icmp .le 7, 3) := by decide +kernel
theorem d_M_moved_20 : decode prog_10_method_18_code 20 = .ok (.iconst (-1), 1) := by decide +kernel
theorem d_M_moved_21 : decode prog_10_method_18_code 21 = .ok (.goto 22, 3) := by decide +kernel
theorem d_M_moved_24 : decode prog_10_method_18_code 24 = .ok (.iload_n 2, 1) := by decide +kernel
theorem d_M_moved_25 : decode prog_10_method_18_code 25 = .ok (.iload_n 0, 1) := by decide +kernel
theorem d_M_moved_26 : decode prog_10_method_18_code 26 = .ok (.iload_n 1, 1) := by decide +kernel
theorem d_M_moved_27 : decode prog_10_method_18_code 27 = .ok (.invokestatic 69, 3) := by decide +kernel
theorem d_M_moved_30 : decode prog_10_method_18_code 30 = .ok (.invokestatic 73, 3) := by decide +kernel
theorem d_M_moved_33 : decode prog_10_method_18_code 33 = .ok (.idiv, 1) := by decide +kernel
theorem d_M_moved_34 : decode prog_10_method_18_code 34 = .ok (.iload_n 2, 1) := by decide +kernel
theorem d_M_moved_35 : decode prog_10_method_18_code 35 = .ok (.invokestatic 69, 3) := by decide +kernel
theorem d_M_moved_38 : decode prog_10_method_18_code 38 = .ok (.invokestatic 73, 3) := by decide +kernel
theorem d_M_moved_41 : decode prog_10_method_18_code 41 = .ok (.imul, 1) := by decide +kernel
theorem d_M_moved_42 : decode prog_10_method_18_code 42 = .ok (.iadd, 1) := by decide +kernel
theorem d_M_moved_43 : decode prog_10_method_18_code 43 = .ok (.ireturn, 1) := by decide +kernel
set_option maxHeartbeats 4000000 in
set_option maxRecDepth 100000 in
theorem c_M_unit {l : Launch} {E : Ev} {M : mp_M} {sz : Nat} {n : Nat} (hn : n < 2 ^ 31) : MCi l E y_M_unit prog_10_method_2_code 1 (some .int) 0 0 0 0 [.int (nI n)] M sz (fun r M' => r = nI (pu n) ∧ M' = M) := by
  refine mc_of R_M rfl [some (.int (nI n))] (by decide) (Nat.le_of_ble_eq_true rfl) rfl ?_
  intro p e R s m ag below meth c ls Q A X hAe hQ hR hsz hw hl
  rw [← hAe] at hQ
  obtain ⟨⟨hx, hb, hml, hown, hts⟩, hE, hA, hr, hlk, hnm⟩ := X
  have hK := hE.1
  refine x_iload_n hx hb d_M_unit_0 hl rfl ?_
  refine x_if_ne hx hb d_M_unit_1 rfl (by omega) (fun h1 => ?_) (fun h1 => ?_)
  · refine x_iload_n hx hb d_M_unit_8 hl rfl ?_
    refine lv_iconst (v := nI 1) hx hb d_M_unit_9 (by decide) ?_
    refine x_icmp_ne hx hb d_M_unit_10 rfl (by omega) (by omega) (fun h10 => ?_) (fun h10 => ?_)
    · refine x_iload_n hx hb d_M_unit_17 hl rfl ?_
      refine lv_iconst (v := nI 2) hx hb d_M_unit_18 (by decide) ?_
      refine x_icmp_ne hx hb d_M_unit_19 rfl (by omega) (by omega) (fun h19 => ?_) (fun h19 => ?_)
      · refine lv_bipush (v := nI 125) hx hb d_M_unit_27 (by decide) ?_
        exact x_reti hQ hx hb hr hlk rfl hw (by omega) (by omega) d_M_unit_29 (⟨congrArg nI (by unfold pu; (repeat' split) <;> omega), rfl⟩)
      · refine lv_bipush (v := nI 25) hx hb d_M_unit_22 (by decide) ?_
        refine lv_goto hx hb d_M_unit_24 rfl ?_
        exact x_reti hQ hx hb hr hlk rfl hw (by omega) (by omega) d_M_unit_29 (⟨congrArg nI (by unfold pu; (repeat' split) <;> omega), rfl⟩)
    · refine lv_iconst (v := nI 5) hx hb d_M_unit_13 (by decide) ?_
      refine lv_goto hx hb d_M_unit_14 rfl ?_
      exact x_reti hQ hx hb hr hlk rfl hw (by omega) (by omega) d_M_unit_29 (⟨congrArg nI (by unfold pu; (repeat' split) <;> omega), rfl⟩)
  · refine lv_iconst (v := nI 1) hx hb d_M_unit_4 (by decide) ?_
    refine lv_goto hx hb d_M_unit_5 rfl ?_
    exact x_reti hQ hx hb hr hlk rfl hw (by omega) (by omega) d_M_unit_29 (⟨congrArg nI (by unfold pu; (repeat' split) <;> omega), rfl⟩)

set_option maxHeartbeats 4000000 in
set_option maxRecDepth 100000 in
theorem c_M_depth {l : Launch} {E : Ev} {M : mp_M} {sz : Nat} {n : Nat} (hn : n < 2 ^ 31) : MCi l E y_M_depth prog_10_method_4_code 1 (some .int) 0 0 0 0 [.int (nI n)] M sz (fun r M' => r = nI (pd n) ∧ M' = M) := by
  refine mc_of R_M rfl [some (.int (nI n))] (by decide) (Nat.le_of_ble_eq_true rfl) rfl ?_
  intro p e R s m ag below meth c ls Q A X hAe hQ hR hsz hw hl
  rw [← hAe] at hQ
  obtain ⟨⟨hx, hb, hml, hown, hts⟩, hE, hA, hr, hlk, hnm⟩ := X
  have hK := hE.1
  refine x_iload_n hx hb d_M_depth_0 hl rfl ?_
  refine x_if_ne hx hb d_M_depth_1 rfl (by omega) (fun h1 => ?_) (fun h1 => ?_)
  · refine x_iload_n hx hb d_M_depth_8 hl rfl ?_
    refine lv_iconst (v := nI 5) hx hb d_M_depth_9 (by decide) ?_
    refine x_icmp_ge hx hb d_M_depth_10 rfl (by omega) (by omega) (fun h10 => ?_) (fun h10 => ?_)
    · refine x_iload_n hx hb d_M_depth_17 hl rfl ?_
      refine lv_bipush (v := nI 25) hx hb d_M_depth_18 (by decide) ?_
      refine x_icmp_ge hx hb d_M_depth_20 rfl (by omega) (by omega) (fun h20 => ?_) (fun h20 => ?_)
      · refine lv_iconst (v := nI 3) hx hb d_M_depth_27 (by decide) ?_
        exact x_reti hQ hx hb hr hlk rfl hw (by omega) (by omega) d_M_depth_28 (⟨congrArg nI (by unfold pd; (repeat' split) <;> omega), rfl⟩)
      · refine lv_iconst (v := nI 2) hx hb d_M_depth_23 (by decide) ?_
        refine lv_goto hx hb d_M_depth_24 rfl ?_
        exact x_reti hQ hx hb hr hlk rfl hw (by omega) (by omega) d_M_depth_28 (⟨congrArg nI (by unfold pd; (repeat' split) <;> omega), rfl⟩)
    · refine lv_iconst (v := nI 1) hx hb d_M_depth_13 (by decide) ?_
      refine lv_goto hx hb d_M_depth_14 rfl ?_
      exact x_reti hQ hx hb hr hlk rfl hw (by omega) (by omega) d_M_depth_28 (⟨congrArg nI (by unfold pd; (repeat' split) <;> omega), rfl⟩)
  · refine lv_iconst (v := nI 0) hx hb d_M_depth_4 (by decide) ?_
    refine lv_goto hx hb d_M_depth_5 rfl ?_
    exact x_reti hQ hx hb hr hlk rfl hw (by omega) (by omega) d_M_depth_28 (⟨congrArg nI (by unfold pd; (repeat' split) <;> omega), rfl⟩)

set_option maxHeartbeats 4000000 in
set_option maxRecDepth 100000 in
theorem c_M_good {l : Launch} {E : Ev} {M : mp_M} {sz : Nat} {x : Int32} : MCi l E y_M_good prog_10_method_3_code 2 (some .boolean) 0 0 0 0 [.int x] M sz (fun r M' => r = bz (pgb (ix x)) ∧ M' = M) := by
  refine mc_of R_M rfl [some (.int x), none] (by decide) (Nat.le_of_ble_eq_true rfl) rfl ?_
  intro p e R s m ag below meth c ls Q A X hAe hQ hR hsz hw hl
  rw [← hAe] at hQ
  obtain ⟨⟨hx, hb, hml, hown, hts⟩, hE, hA, hr, hlk, hnm⟩ := X
  have hK := hE.1
  refine x_iload_n hx hb d_M_good_0 hl rfl ?_
  refine lv_if_lt hx hb d_M_good_1 rfl (fun h1 => ?_) (fun h1 => ?_)
  · refine lv_iconst (v := nI 0) hx hb d_M_good_10 (by decide) ?_
    exact x_reti hQ hx hb hr hlk (by first | exact nar_bz | decide) hw (by omega) (by omega) d_M_good_11 (⟨by first | (rw [ix_lt h1]; decide) | (rw [ix_gt h7]; decide), rfl⟩)
  · refine x_iload_n hx hb d_M_good_4 hl rfl ?_
    refine lv_bipush (v := nI 124) hx hb d_M_good_5 (by decide) ?_
    refine lv_icmp_le hx hb d_M_good_7 rfl (fun h7 => ?_) (fun h7 => ?_)
    · obtain ⟨k, hk, rfl⟩ := nI_of2 (M := nI 124) (n := 124) (by decide) h1 h7
      refine x_iload_n hx hb d_M_good_12 hl rfl ?_
      refine lv_iconst (v := nI 5) hx hb d_M_good_13 (by decide) ?_
      refine x_idiv hx hb d_M_good_14 (by omega) (by omega) (by omega) ?_
      refine lv_iconst (v := nI 5) hx hb d_M_good_15 (by decide) ?_
      refine x_irem hx hb d_M_good_16 (by omega) (by omega) (by omega) ?_
      refine x_if_le hx hb d_M_good_17 rfl (by omega) (fun h17 => ?_) (fun h17 => ?_)
      · refine lv_iconst (v := nI 0) hx hb d_M_good_24 (by decide) ?_
        refine x_istore_n hx hb d_M_good_25 hl (Nat.le_of_ble_eq_true rfl) (lh_k (i := 0) rfl (by first | exact lk_n | exact lk_i | exact lk_r | exact lk_q | exact lk_0)) (fun ls hl => ?_)
        refine x_iload_n hx hb d_M_good_26 hl rfl ?_
        refine lv_iconst (v := nI 5) hx hb d_M_good_27 (by decide) ?_
        refine x_irem hx hb d_M_good_28 (by omega) (by omega) (by omega) ?_
        refine x_if_gt hx hb d_M_good_29 rfl (by omega) (fun h29 => ?_) (fun h29 => ?_)
        · refine x_iload_n hx hb d_M_good_36 hl rfl ?_
          refine x_if_ne hx hb d_M_good_37 rfl (by omega) (fun h37 => ?_) (fun h37 => ?_)
          · refine lv_iconst (v := nI 1) hx hb d_M_good_45 (by decide) ?_
            refine lv_goto hx hb d_M_good_46 rfl ?_
            exact x_reti hQ hx hb hr hlk (by first | exact nar_bz | decide) hw (by omega) (by omega) d_M_good_50 (⟨by rw [ix_n (by omega)]; first | exact bz_t (pgb_t.mpr (by unfold pg; omega)) | exact bz_f (fun z => by have z := pgb_t.mp z; unfold pg at z; omega), rfl⟩)
          · refine x_iload_n hx hb d_M_good_40 hl rfl ?_
            refine lv_iconst (v := nI 5) hx hb d_M_good_41 (by decide) ?_
            refine x_icmp_ge hx hb d_M_good_42 rfl (by omega) (by omega) (fun h42 => ?_) (fun h42 => ?_)
            · refine lv_iconst (v := nI 0) hx hb d_M_good_49 (by decide) ?_
              exact x_reti hQ hx hb hr hlk (by first | exact nar_bz | decide) hw (by omega) (by omega) d_M_good_50 (⟨by rw [ix_n (by omega)]; first | exact bz_t (pgb_t.mpr (by unfold pg; omega)) | exact bz_f (fun z => by have z := pgb_t.mp z; unfold pg at z; omega), rfl⟩)
            · refine lv_iconst (v := nI 1) hx hb d_M_good_45 (by decide) ?_
              refine lv_goto hx hb d_M_good_46 rfl ?_
              exact x_reti hQ hx hb hr hlk (by first | exact nar_bz | decide) hw (by omega) (by omega) d_M_good_50 (⟨by rw [ix_n (by omega)]; first | exact bz_t (pgb_t.mpr (by unfold pg; omega)) | exact bz_f (fun z => by have z := pgb_t.mp z; unfold pg at z; omega), rfl⟩)
        · refine x_iload_n hx hb d_M_good_32 hl rfl ?_
          refine x_if_ne hx hb d_M_good_33 rfl (by omega) (fun h33 => ?_) (fun h33 => ?_)
          · refine lv_iconst (v := nI 0) hx hb d_M_good_49 (by decide) ?_
            exact x_reti hQ hx hb hr hlk (by first | exact nar_bz | decide) hw (by omega) (by omega) d_M_good_50 (⟨by rw [ix_n (by omega)]; first | exact bz_t (pgb_t.mpr (by unfold pg; omega)) | exact bz_f (fun z => by have z := pgb_t.mp z; unfold pg at z; omega), rfl⟩)
          · refine x_iload_n hx hb d_M_good_36 hl rfl ?_
            refine x_if_ne hx hb d_M_good_37 rfl (by omega) (fun h37 => ?_) (fun h37 => ?_)
            · refine lv_iconst (v := nI 1) hx hb d_M_good_45 (by decide) ?_
              refine lv_goto hx hb d_M_good_46 rfl ?_
              exact x_reti hQ hx hb hr hlk (by first | exact nar_bz | decide) hw (by omega) (by omega) d_M_good_50 (⟨by rw [ix_n (by omega)]; first | exact bz_t (pgb_t.mpr (by unfold pg; omega)) | exact bz_f (fun z => by have z := pgb_t.mp z; unfold pg at z; omega), rfl⟩)
            · refine x_iload_n hx hb d_M_good_40 hl rfl ?_
              refine lv_iconst (v := nI 5) hx hb d_M_good_41 (by decide) ?_
              refine x_icmp_ge hx hb d_M_good_42 rfl (by omega) (by omega) (fun h42 => ?_) (fun h42 => ?_)
              · refine lv_iconst (v := nI 0) hx hb d_M_good_49 (by decide) ?_
                exact x_reti hQ hx hb hr hlk (by first | exact nar_bz | decide) hw (by omega) (by omega) d_M_good_50 (⟨by rw [ix_n (by omega)]; first | exact bz_t (pgb_t.mpr (by unfold pg; omega)) | exact bz_f (fun z => by have z := pgb_t.mp z; unfold pg at z; omega), rfl⟩)
              · refine lv_iconst (v := nI 1) hx hb d_M_good_45 (by decide) ?_
                refine lv_goto hx hb d_M_good_46 rfl ?_
                exact x_reti hQ hx hb hr hlk (by first | exact nar_bz | decide) hw (by omega) (by omega) d_M_good_50 (⟨by rw [ix_n (by omega)]; first | exact bz_t (pgb_t.mpr (by unfold pg; omega)) | exact bz_f (fun z => by have z := pgb_t.mp z; unfold pg at z; omega), rfl⟩)
      · refine lv_iconst (v := nI 1) hx hb d_M_good_20 (by decide) ?_
        refine lv_goto hx hb d_M_good_21 rfl ?_
        refine x_istore_n hx hb d_M_good_25 hl (Nat.le_of_ble_eq_true rfl) (lh_k (i := 0) rfl (by first | exact lk_n | exact lk_i | exact lk_r | exact lk_q | exact lk_0)) (fun ls hl => ?_)
        refine x_iload_n hx hb d_M_good_26 hl rfl ?_
        refine lv_iconst (v := nI 5) hx hb d_M_good_27 (by decide) ?_
        refine x_irem hx hb d_M_good_28 (by omega) (by omega) (by omega) ?_
        refine x_if_gt hx hb d_M_good_29 rfl (by omega) (fun h29 => ?_) (fun h29 => ?_)
        · refine x_iload_n hx hb d_M_good_36 hl rfl ?_
          refine x_if_ne hx hb d_M_good_37 rfl (by omega) (fun h37 => ?_) (fun h37 => ?_)
          · refine lv_iconst (v := nI 1) hx hb d_M_good_45 (by decide) ?_
            refine lv_goto hx hb d_M_good_46 rfl ?_
            exact x_reti hQ hx hb hr hlk (by first | exact nar_bz | decide) hw (by omega) (by omega) d_M_good_50 (⟨by rw [ix_n (by omega)]; first | exact bz_t (pgb_t.mpr (by unfold pg; omega)) | exact bz_f (fun z => by have z := pgb_t.mp z; unfold pg at z; omega), rfl⟩)
          · refine x_iload_n hx hb d_M_good_40 hl rfl ?_
            refine lv_iconst (v := nI 5) hx hb d_M_good_41 (by decide) ?_
            refine x_icmp_ge hx hb d_M_good_42 rfl (by omega) (by omega) (fun h42 => ?_) (fun h42 => ?_)
            · refine lv_iconst (v := nI 0) hx hb d_M_good_49 (by decide) ?_
              exact x_reti hQ hx hb hr hlk (by first | exact nar_bz | decide) hw (by omega) (by omega) d_M_good_50 (⟨by rw [ix_n (by omega)]; first | exact bz_t (pgb_t.mpr (by unfold pg; omega)) | exact bz_f (fun z => by have z := pgb_t.mp z; unfold pg at z; omega), rfl⟩)
            · refine lv_iconst (v := nI 1) hx hb d_M_good_45 (by decide) ?_
              refine lv_goto hx hb d_M_good_46 rfl ?_
              exact x_reti hQ hx hb hr hlk (by first | exact nar_bz | decide) hw (by omega) (by omega) d_M_good_50 (⟨by rw [ix_n (by omega)]; first | exact bz_t (pgb_t.mpr (by unfold pg; omega)) | exact bz_f (fun z => by have z := pgb_t.mp z; unfold pg at z; omega), rfl⟩)
        · refine x_iload_n hx hb d_M_good_32 hl rfl ?_
          refine x_if_ne hx hb d_M_good_33 rfl (by omega) (fun h33 => ?_) (fun h33 => ?_)
          · refine lv_iconst (v := nI 0) hx hb d_M_good_49 (by decide) ?_
            exact x_reti hQ hx hb hr hlk (by first | exact nar_bz | decide) hw (by omega) (by omega) d_M_good_50 (⟨by rw [ix_n (by omega)]; first | exact bz_t (pgb_t.mpr (by unfold pg; omega)) | exact bz_f (fun z => by have z := pgb_t.mp z; unfold pg at z; omega), rfl⟩)
          · refine x_iload_n hx hb d_M_good_36 hl rfl ?_
            refine x_if_ne hx hb d_M_good_37 rfl (by omega) (fun h37 => ?_) (fun h37 => ?_)
            · refine lv_iconst (v := nI 1) hx hb d_M_good_45 (by decide) ?_
              refine lv_goto hx hb d_M_good_46 rfl ?_
              exact x_reti hQ hx hb hr hlk (by first | exact nar_bz | decide) hw (by omega) (by omega) d_M_good_50 (⟨by rw [ix_n (by omega)]; first | exact bz_t (pgb_t.mpr (by unfold pg; omega)) | exact bz_f (fun z => by have z := pgb_t.mp z; unfold pg at z; omega), rfl⟩)
            · refine x_iload_n hx hb d_M_good_40 hl rfl ?_
              refine lv_iconst (v := nI 5) hx hb d_M_good_41 (by decide) ?_
              refine x_icmp_ge hx hb d_M_good_42 rfl (by omega) (by omega) (fun h42 => ?_) (fun h42 => ?_)
              · refine lv_iconst (v := nI 0) hx hb d_M_good_49 (by decide) ?_
                exact x_reti hQ hx hb hr hlk (by first | exact nar_bz | decide) hw (by omega) (by omega) d_M_good_50 (⟨by rw [ix_n (by omega)]; first | exact bz_t (pgb_t.mpr (by unfold pg; omega)) | exact bz_f (fun z => by have z := pgb_t.mp z; unfold pg at z; omega), rfl⟩)
              · refine lv_iconst (v := nI 1) hx hb d_M_good_45 (by decide) ?_
                refine lv_goto hx hb d_M_good_46 rfl ?_
                exact x_reti hQ hx hb hr hlk (by first | exact nar_bz | decide) hw (by omega) (by omega) d_M_good_50 (⟨by rw [ix_n (by omega)]; first | exact bz_t (pgb_t.mpr (by unfold pg; omega)) | exact bz_f (fun z => by have z := pgb_t.mp z; unfold pg at z; omega), rfl⟩)
    · refine lv_iconst (v := nI 0) hx hb d_M_good_10 (by decide) ?_
      exact x_reti hQ hx hb hr hlk (by first | exact nar_bz | decide) hw (by omega) (by omega) d_M_good_11 (⟨by first | (rw [ix_lt h1]; decide) | (rw [ix_gt h7]; decide), rfl⟩)

set_option maxHeartbeats 4000000 in
set_option maxRecDepth 100000 in
theorem c_M_parent {l : Launch} {E : Ev} {M : mp_M} {sz : Nat} {n : Nat} (h0 : 0 < n) (hn : n < 2 ^ 31) : MCi l E y_M_parent prog_10_method_5_code 1 (some .int) 1 20 0 0 [.int (nI n)] M sz (fun r M' => r = nI (pp n) ∧ M' = M) := by
  refine mc_of R_M rfl [some (.int (nI n))] (by decide) (Nat.le_of_ble_eq_true rfl) rfl ?_
  intro p e R s m ag below meth c ls Q A X hAe hQ hR hsz hw hl
  rw [← hAe] at hQ
  obtain ⟨⟨hx, hb, hml, hown, hts⟩, hE, hA, hr, hlk, hnm⟩ := X
  have hK := hE.1
  refine x_iload_n hx hb d_M_parent_0 hl rfl ?_
  refine x_iload_n hx hb d_M_parent_1 hl rfl ?_
  refine m_calli (k_S ⟨hx, hb, hml, hown, hts⟩ hE hA hw (c_M_depth (by omega)) (wm3 171 rfl rfl) (wm3 172 rfl rfl) (wm1 9 rfl rfl) (wm3 173 rfl rfl) rfl rfl ar_M_depth ⟨Nat.le_trans (Nat.le_of_ble_eq_true rfl) hR.1, Nat.le_trans (Nat.le_of_ble_eq_true rfl) hR.2.1⟩ rfl hl.1 rfl (Nat.le_of_ble_eq_true rfl) d_M_parent_2 ⟨Nat.le_trans (Nat.le_of_ble_eq_true rfl) hR.2.2.1, Nat.le_trans (Nat.le_of_ble_eq_true rfl) hR.2.2.2⟩) hw (mfr_in hw hA) (fun r2 M2 H locs hP2 hw => ?_)
  obtain ⟨rfl, hM2⟩ := hP2
  rw [hM2] at hw
  have hd1 := pd_pos h0
  have hd3 := pd_le n
  refine lv_iconst (v := nI 1) hx hb d_M_parent_5 (by decide) ?_
  refine x_isub hx hb d_M_parent_6 (by omega) ?_
  refine m_calli (k_S ⟨hx, hb, hml, hown, hts⟩ hE hA hw (c_M_unit (by omega)) (wm3 174 rfl rfl) (wm3 175 rfl rfl) (wm1 9 rfl rfl) (wm3 176 rfl rfl) rfl rfl ar_M_unit ⟨Nat.le_trans (Nat.le_of_ble_eq_true rfl) hR.1, Nat.le_trans (Nat.le_of_ble_eq_true rfl) hR.2.1⟩ rfl hl.1 rfl (Nat.le_of_ble_eq_true rfl) d_M_parent_7 ⟨Nat.le_trans (Nat.le_of_ble_eq_true rfl) hR.2.2.1, Nat.le_trans (Nat.le_of_ble_eq_true rfl) hR.2.2.2⟩) hw (mfr_in hw hA) (fun r7 M7 H locs hP7 hw => ?_)
  obtain ⟨rfl, hM7⟩ := hP7
  rw [hM7] at hw
  have hu := pu_lt (pd n - 1)
  refine x_irem hx hb d_M_parent_10 (by omega) (by omega) (by omega) ?_
  exact x_reti hQ hx hb hr hlk rfl hw (by omega) (by omega) d_M_parent_11 (⟨rfl, rfl⟩)

set_option maxHeartbeats 4000000 in
set_option maxRecDepth 100000 in
theorem c_M_under {l : Launch} {E : Ev} {M : mp_M} {sz : Nat} {w n : Nat} (hw1 : w < 2 ^ 31) (hn : n < 2 ^ 31) : MCi l E y_M_under prog_10_method_6_code 2 (some .boolean) 1 20 0 0 [.int (nI w), .int (nI n)] M sz (fun r M' => r = bz (pun w n) ∧ M' = M) := by
  refine mc_of R_M rfl [some (.int (nI w)), some (.int (nI n))] (by decide) (Nat.le_of_ble_eq_true rfl) rfl ?_
  intro p e R s m ag below meth c ls Q A X hAe hQ hR hsz hw hl
  rw [← hAe] at hQ
  obtain ⟨⟨hx, hb, hml, hown, hts⟩, hE, hA, hr, hlk, hnm⟩ := X
  have hK := hE.1
  refine x_iload_n hx hb d_M_under_0 hl rfl ?_
  refine x_iload_n hx hb d_M_under_1 hl rfl ?_
  refine m_calli (k_S ⟨hx, hb, hml, hown, hts⟩ hE hA hw (c_M_depth (by omega)) (wm3 171 rfl rfl) (wm3 172 rfl rfl) (wm1 9 rfl rfl) (wm3 173 rfl rfl) rfl rfl ar_M_depth ⟨Nat.le_trans (Nat.le_of_ble_eq_true rfl) hR.1, Nat.le_trans (Nat.le_of_ble_eq_true rfl) hR.2.1⟩ rfl hl.1 rfl (Nat.le_of_ble_eq_true rfl) d_M_under_2 ⟨Nat.le_trans (Nat.le_of_ble_eq_true rfl) hR.2.2.1, Nat.le_trans (Nat.le_of_ble_eq_true rfl) hR.2.2.2⟩) hw (mfr_in hw hA) (fun r2 M2 H locs hP2 hw => ?_)
  obtain ⟨rfl, hM2⟩ := hP2
  rw [hM2] at hw
  have hd3 := pd_le n
  refine m_calli (k_S ⟨hx, hb, hml, hown, hts⟩ hE hA hw (c_M_unit (by omega)) (wm3 174 rfl rfl) (wm3 175 rfl rfl) (wm1 9 rfl rfl) (wm3 176 rfl rfl) rfl rfl ar_M_unit ⟨Nat.le_trans (Nat.le_of_ble_eq_true rfl) hR.1, Nat.le_trans (Nat.le_of_ble_eq_true rfl) hR.2.1⟩ rfl hl.1 rfl (Nat.le_of_ble_eq_true rfl) d_M_under_5 ⟨Nat.le_trans (Nat.le_of_ble_eq_true rfl) hR.2.2.1, Nat.le_trans (Nat.le_of_ble_eq_true rfl) hR.2.2.2⟩) hw (mfr_in hw hA) (fun r5 M5 H locs hP5 hw => ?_)
  obtain ⟨rfl, hM5⟩ := hP5
  rw [hM5] at hw
  have hu := pu_lt (pd n)
  refine x_irem hx hb d_M_under_8 (by omega) (by omega) (by omega) ?_
  refine x_iload_n hx hb d_M_under_9 hl rfl ?_
  have hm := Nat.mod_lt w hu.1
  refine x_icmp_ne hx hb d_M_under_10 rfl (by omega) (by omega) (fun h10 => ?_) (fun h10 => ?_)
  · refine lv_iconst (v := nI 0) hx hb d_M_under_17 (by decide) ?_
    exact x_reti hQ hx hb hr hlk (by first | exact nar_bz | decide) hw (by omega) (by omega) d_M_under_18 (⟨by first | exact bz_t (beq_iff_eq.mpr h10) | exact bz_f (fun z => h10 (beq_iff_eq.mp z)), rfl⟩)
  · refine lv_iconst (v := nI 1) hx hb d_M_under_13 (by decide) ?_
    refine lv_goto hx hb d_M_under_14 rfl ?_
    exact x_reti hQ hx hb hr hlk (by first | exact nar_bz | decide) hw (by omega) (by omega) d_M_under_18 (⟨by first | exact bz_t (beq_iff_eq.mpr h10) | exact bz_f (fun z => h10 (beq_iff_eq.mp z)), rfl⟩)

set_option maxHeartbeats 4000000 in
set_option maxRecDepth 100000 in
theorem c_M_moved {l : Launch} {E : Ev} {M : mp_M} {sz : Nat} {w f g : Nat} (hw1 : w < 125) (hf : f < 125) (hg : g < 125) (hd : pd f ≤ pd g + pd w) : MCi l E y_M_moved prog_10_method_18_code 4 (some .int) 1 20 0 0 [.int (nI w), .int (nI f), .int (nI g)] M sz (fun r M' => r = (if 3 < pd g + pd w - pd f then -1 else nI (pm w f g)) ∧ M' = M) := by
  refine mc_of R_M rfl [some (.int (nI w)), some (.int (nI f)), some (.int (nI g)), none] (by decide) (Nat.le_of_ble_eq_true rfl) rfl ?_
  intro p e R s m ag below meth c ls Q A X hAe hQ hR hsz hw hl
  rw [← hAe] at hQ
  obtain ⟨⟨hx, hb, hml, hown, hts⟩, hE, hA, hr, hlk, hnm⟩ := X
  have hK := hE.1
  refine x_iload_n hx hb d_M_moved_0 hl rfl ?_
  refine m_calli (k_S ⟨hx, hb, hml, hown, hts⟩ hE hA hw (c_M_depth (by omega)) (wm3 171 rfl rfl) (wm3 172 rfl rfl) (wm1 9 rfl rfl) (wm3 173 rfl rfl) rfl rfl ar_M_depth ⟨Nat.le_trans (Nat.le_of_ble_eq_true rfl) hR.1, Nat.le_trans (Nat.le_of_ble_eq_true rfl) hR.2.1⟩ rfl hl.1 rfl (Nat.le_of_ble_eq_true rfl) d_M_moved_1 ⟨Nat.le_trans (Nat.le_of_ble_eq_true rfl) hR.2.2.1, Nat.le_trans (Nat.le_of_ble_eq_true rfl) hR.2.2.2⟩) hw (mfr_in hw hA) (fun r1 M1 H locs hP1 hw => ?_)
  obtain ⟨rfl, hM1⟩ := hP1
  rw [hM1] at hw
  refine x_iload_n hx hb d_M_moved_4 hl rfl ?_
  refine m_calli (k_S ⟨hx, hb, hml, hown, hts⟩ hE hA hw (c_M_depth (by omega)) (wm3 171 rfl rfl) (wm3 172 rfl rfl) (wm1 9 rfl rfl) (wm3 173 rfl rfl) rfl rfl ar_M_depth ⟨Nat.le_trans (Nat.le_of_ble_eq_true rfl) hR.1, Nat.le_trans (Nat.le_of_ble_eq_true rfl) hR.2.1⟩ rfl hl.1 rfl (Nat.le_of_ble_eq_true rfl) d_M_moved_5 ⟨Nat.le_trans (Nat.le_of_ble_eq_true rfl) hR.2.2.1, Nat.le_trans (Nat.le_of_ble_eq_true rfl) hR.2.2.2⟩) hw (mfr_in hw hA) (fun r5 M5 H locs hP5 hw => ?_)
  obtain ⟨rfl, hM5⟩ := hP5
  rw [hM5] at hw
  first | refine x_iadd hx hb d_M_moved_8 ?_ | refine lv_iadd hx hb d_M_moved_8 ?_
  refine x_iload_n hx hb d_M_moved_9 hl rfl ?_
  refine m_calli (k_S ⟨hx, hb, hml, hown, hts⟩ hE hA hw (c_M_depth (by omega)) (wm3 171 rfl rfl) (wm3 172 rfl rfl) (wm1 9 rfl rfl) (wm3 173 rfl rfl) rfl rfl ar_M_depth ⟨Nat.le_trans (Nat.le_of_ble_eq_true rfl) hR.1, Nat.le_trans (Nat.le_of_ble_eq_true rfl) hR.2.1⟩ rfl hl.1 rfl (Nat.le_of_ble_eq_true rfl) d_M_moved_10 ⟨Nat.le_trans (Nat.le_of_ble_eq_true rfl) hR.2.2.1, Nat.le_trans (Nat.le_of_ble_eq_true rfl) hR.2.2.2⟩) hw (mfr_in hw hA) (fun r10 M10 H locs hP10 hw => ?_)
  obtain ⟨rfl, hM10⟩ := hP10
  rw [hM10] at hw
  refine x_isub hx hb d_M_moved_13 (by omega) ?_
  refine x_istore_n hx hb d_M_moved_14 hl (Nat.le_of_ble_eq_true rfl) (lh_k (i := 2) rfl (by first | exact lk_n | exact lk_i | exact lk_r | exact lk_q | exact lk_0)) (fun ls hl => ?_)
  have d1 := pd_le g
  have d2 := pd_le w
  have d3 := pd_le f
  refine x_iload_n hx hb d_M_moved_15 hl rfl ?_
  refine lv_iconst (v := nI 3) hx hb d_M_moved_16 (by decide) ?_
  refine x_icmp_le hx hb d_M_moved_17 rfl (by omega) (by omega) (fun h17 => ?_) (fun h17 => ?_)
  · refine x_iload_n hx hb d_M_moved_24 hl rfl ?_
    refine x_iload_n hx hb d_M_moved_25 hl rfl ?_
    refine x_iload_n hx hb d_M_moved_26 hl rfl ?_
    refine m_calli (k_S ⟨hx, hb, hml, hown, hts⟩ hE hA hw (c_M_depth (by omega)) (wm3 171 rfl rfl) (wm3 172 rfl rfl) (wm1 9 rfl rfl) (wm3 173 rfl rfl) rfl rfl ar_M_depth ⟨Nat.le_trans (Nat.le_of_ble_eq_true rfl) hR.1, Nat.le_trans (Nat.le_of_ble_eq_true rfl) hR.2.1⟩ rfl hl.1 rfl (Nat.le_of_ble_eq_true rfl) d_M_moved_27 ⟨Nat.le_trans (Nat.le_of_ble_eq_true rfl) hR.2.2.1, Nat.le_trans (Nat.le_of_ble_eq_true rfl) hR.2.2.2⟩) hw (mfr_in hw hA) (fun r27 M27 H locs hP27 hw => ?_)
    obtain ⟨rfl, hM27⟩ := hP27
    rw [hM27] at hw
    refine m_calli (k_S ⟨hx, hb, hml, hown, hts⟩ hE hA hw (c_M_unit (by omega)) (wm3 174 rfl rfl) (wm3 175 rfl rfl) (wm1 9 rfl rfl) (wm3 176 rfl rfl) rfl rfl ar_M_unit ⟨Nat.le_trans (Nat.le_of_ble_eq_true rfl) hR.1, Nat.le_trans (Nat.le_of_ble_eq_true rfl) hR.2.1⟩ rfl hl.1 rfl (Nat.le_of_ble_eq_true rfl) d_M_moved_30 ⟨Nat.le_trans (Nat.le_of_ble_eq_true rfl) hR.2.2.1, Nat.le_trans (Nat.le_of_ble_eq_true rfl) hR.2.2.2⟩) hw (mfr_in hw hA) (fun r30 M30 H locs hP30 hw => ?_)
    obtain ⟨rfl, hM30⟩ := hP30
    rw [hM30] at hw
    have hu := pu_lt (pd f)
    refine x_idiv hx hb d_M_moved_33 (by omega) (by omega) (by omega) ?_
    refine x_iload_n hx hb d_M_moved_34 hl rfl ?_
    refine m_calli (k_S ⟨hx, hb, hml, hown, hts⟩ hE hA hw (c_M_depth (by omega)) (wm3 171 rfl rfl) (wm3 172 rfl rfl) (wm1 9 rfl rfl) (wm3 173 rfl rfl) rfl rfl ar_M_depth ⟨Nat.le_trans (Nat.le_of_ble_eq_true rfl) hR.1, Nat.le_trans (Nat.le_of_ble_eq_true rfl) hR.2.1⟩ rfl hl.1 rfl (Nat.le_of_ble_eq_true rfl) d_M_moved_35 ⟨Nat.le_trans (Nat.le_of_ble_eq_true rfl) hR.2.2.1, Nat.le_trans (Nat.le_of_ble_eq_true rfl) hR.2.2.2⟩) hw (mfr_in hw hA) (fun r35 M35 H locs hP35 hw => ?_)
    obtain ⟨rfl, hM35⟩ := hP35
    rw [hM35] at hw
    refine m_calli (k_S ⟨hx, hb, hml, hown, hts⟩ hE hA hw (c_M_unit (by omega)) (wm3 174 rfl rfl) (wm3 175 rfl rfl) (wm1 9 rfl rfl) (wm3 176 rfl rfl) rfl rfl ar_M_unit ⟨Nat.le_trans (Nat.le_of_ble_eq_true rfl) hR.1, Nat.le_trans (Nat.le_of_ble_eq_true rfl) hR.2.1⟩ rfl hl.1 rfl (Nat.le_of_ble_eq_true rfl) d_M_moved_38 ⟨Nat.le_trans (Nat.le_of_ble_eq_true rfl) hR.2.2.1, Nat.le_trans (Nat.le_of_ble_eq_true rfl) hR.2.2.2⟩) hw (mfr_in hw hA) (fun r38 M38 H locs hP38 hw => ?_)
    obtain ⟨rfl, hM38⟩ := hP38
    rw [hM38] at hw
    first | refine x_imul hx hb d_M_moved_41 ?_ | refine lv_imul hx hb d_M_moved_41 ?_
    first | refine x_iadd hx hb d_M_moved_42 ?_ | refine lv_iadd hx hb d_M_moved_42 ?_
    exact x_reti hQ hx hb hr hlk rfl hw (by omega) (by omega) d_M_moved_43 (⟨by first | (rw [if_pos (by omega)]) | (rw [if_neg (by omega)]; rfl), rfl⟩)
  · refine lv_iconst (v := -1) hx hb d_M_moved_20 (by decide) ?_
    refine lv_goto hx hb d_M_moved_21 rfl ?_
    exact x_reti hQ hx hb hr hlk rfl hw (by omega) (by omega) d_M_moved_43 (⟨by first | (rw [if_pos (by omega)]) | (rw [if_neg (by omega)]; rfl), rfl⟩)
end
section
theorem d_P_isGood_0 : decode prog_4_method_2_code 0 = .ok (.iload_n 0, 1) := by decide +kernel
theorem d_P_isGood_1 : decode prog_4_method_2_code 1 = .ok (.ifCond .lt 9, 3) := by decide +kernel
theorem d_P_isGood_4 : decode prog_4_method_2_code 4 = .ok (.iload_n 0, 1) := by decide +kernel
theorem d_P_isGood_5 : decode prog_4_method_2_code 5 = .ok (.bipush 125, 2) := by decide +kernel
theorem d_P_isGood_7 : decode prog_4_method_2_code 7 = .ok (.if_icmp .lt 5, 3) := by decide +kernel
theorem d_P_isGood_10 : decode prog_4_method_2_code 10 = .ok (.iconst 0, 1) := by decide +kernel
theorem d_P_isGood_11 : decode prog_4_method_2_code 11 = .ok (.ireturn, 1) := by decide +kernel
theorem d_P_isGood_12 : decode prog_4_method_2_code 12 = .ok (.iload_n 0, 1) := by decide +kernel
theorem d_P_isGood_13 : decode prog_4_method_2_code 13 = .ok (.iconst 5, 1) := by decide +kernel
theorem d_P_isGood_14 : decode prog_4_method_2_code 14 = .ok (.irem, 1) := by decide +kernel
theorem d_P_isGood_15 : decode prog_4_method_2_code 15 = .ok (.ifCond .eq 7, 3) := by decide +kernel
theorem d_P_isGood_18 : decode prog_4_method_2_code 18 = .ok (.iconst 1, 1) := by decide +kernel
theorem d_P_isGood_19 : decode prog_4_method_2_code 19 = .ok (.goto 4, 3) := by decide +kernel
theorem d_P_isGood_22 : decode prog_4_method_2_code 22 = .ok (.iconst 0, 1) := by decide +kernel
theorem d_P_isGood_23 : decode prog_4_method_2_code 23 = .ok (.istore_n 1, 1) := by decide +kernel
theorem d_P_isGood_24 : decode prog_4_method_2_code 24 = .ok (.iload_n 0, 1) := by decide +kernel
theorem d_P_isGood_25 : decode prog_4_method_2_code 25 = .ok (.iconst 5, 1) := by decide +kernel
theorem d_P_isGood_26 : decode prog_4_method_2_code 26 = .ok (.idiv, 1) := by decide +kernel
theorem d_P_isGood_27 : decode prog_4_method_2_code 27 = .ok (.iconst 5, 1) := by decide +kernel
theorem d_P_isGood_28 : decode prog_4_method_2_code 28 = .ok (.irem, 1) := by decide +kernel
theorem d_P_isGood_29 : decode prog_4_method_2_code 29 = .ok (.ifCond .eq 7, 3) := by decide +kernel
theorem d_P_isGood_32 : decode prog_4_method_2_code 32 = .ok (.iconst 1, 1) := by decide +kernel
theorem d_P_isGood_33 : decode prog_4_method_2_code 33 = .ok (.goto 4, 3) := by decide +kernel
theorem d_P_isGood_36 : decode prog_4_method_2_code 36 = .ok (.iconst 0, 1) := by decide +kernel
theorem d_P_isGood_37 : decode prog_4_method_2_code 37 = .ok (.istore_n 2, 1) := by decide +kernel
theorem d_P_isGood_38 : decode prog_4_method_2_code 38 = .ok (.iload_n 0, 1) := by decide +kernel
theorem d_P_isGood_39 : decode prog_4_method_2_code 39 = .ok (.bipush 25, 2) := by decide +kernel
theorem d_P_isGood_41 : decode prog_4_method_2_code 41 = .ok (.idiv, 1) := by decide +kernel
theorem d_P_isGood_42 : decode prog_4_method_2_code 42 = .ok (.ifCond .eq 7, 3) := by decide +kernel
theorem d_P_isGood_45 : decode prog_4_method_2_code 45 = .ok (.iconst 1, 1) := by decide +kernel
theorem d_P_isGood_46 : decode prog_4_method_2_code 46 = .ok (.goto 4, 3) := by decide +kernel
theorem d_P_isGood_49 : decode prog_4_method_2_code 49 = .ok (.iconst 0, 1) := by decide +kernel
theorem d_P_isGood_50 : decode prog_4_method_2_code 50 = .ok (.istore_n 3, 1) := by decide +kernel
theorem d_P_isGood_51 : decode prog_4_method_2_code 51 = .ok (.iload_n 1, 1) := by decide +kernel
theorem d_P_isGood_52 : decode prog_4_method_2_code 52 = .ok (.ifCond .ne 7, 3) := by decide +kernel
theorem d_P_isGood_55 : decode prog_4_method_2_code 55 = .ok (.iload_n 2, 1) := by decide +kernel
theorem d_P_isGood_56 : decode prog_4_method_2_code 56 = .ok (.ifCond .ne 15, 3) := by decide +kernel
theorem d_P_isGood_59 : decode prog_4_method_2_code 59 = .ok (.iload_n 2, 1) := by decide +kernel
theorem d_P_isGood_60 : decode prog_4_method_2_code 60 = .ok (.ifCond .ne 7, 3) := by decide +kernel
theorem d_P_isGood_63 : decode prog_4_method_2_code 63 = .ok (.iload_n 3, 1) := by decide +kernel
theorem d_P_isGood_64 : decode prog_4_method_2_code 64 = .ok (.ifCond .ne 7, 3) := by decide +kernel
theorem d_P_isGood_67 : decode prog_4_method_2_code 67 = .ok (.iconst 1, 1) := by decide +kernel
theorem d_P_isGood_68 : decode prog_4_method_2_code 68 = .ok (.goto 4, 3) := by decide +kernel
theorem d_P_isGood_71 : decode prog_4_method_2_code 71 = .ok (.iconst 0, 1) := by decide +kernel
theorem d_P_isGood_72 : decode prog_4_method_2_code 72 = .ok (.ireturn, 1) := by decide +kernel

theorem d_P_depthOf_0 : decode prog_4_method_3_code 0 = .ok (.iload_n 0, 1) := by decide +kernel
theorem d_P_depthOf_1 : decode prog_4_method_3_code 1 = .ok (.ifCond .gt 5, 3) := by decide +kernel
theorem d_P_depthOf_4 : decode prog_4_method_3_code 4 = .ok (.iconst 0, 1) := by decide +kernel
theorem d_P_depthOf_5 : decode prog_4_method_3_code 5 = .ok (.ireturn, 1) := by decide +kernel
theorem d_P_depthOf_6 : decode prog_4_method_3_code 6 = .ok (.iload_n 0, 1) := by decide +kernel
theorem d_P_depthOf_7 : decode prog_4_method_3_code 7 = .ok (.iconst 5, 1) := by decide +kernel
theorem d_P_depthOf_8 : decode prog_4_method_3_code 8 = .ok (.if_icmp .ge 5, 3) := by decide +kernel
theorem d_P_depthOf_11 : decode prog_4_method_3_code 11 = .ok (.iconst 1, 1) := by decide +kernel
theorem d_P_depthOf_12 : decode prog_4_method_3_code 12 = .ok (.ireturn, 1) := by decide +kernel
theorem d_P_depthOf_13 : decode prog_4_method_3_code 13 = .ok (.iload_n 0, 1) := by decide +kernel
theorem d_P_depthOf_14 : decode prog_4_method_3_code 14 = .ok (.bipush 25, 2) := by decide +kernel
theorem d_P_depthOf_16 : decode prog_4_method_3_code 16 = .ok (.if_icmp .ge 7, 3) := by decide +kernel
theorem d_P_depthOf_19 : decode prog_4_method_3_code 19 = .ok (.iconst 2, 1) := by decide +kernel
theorem d_P_depthOf_20 : decode prog_4_method_3_code 20 = .ok (.goto 4, 3) := by decide +kernel
theorem d_P_depthOf_23 : decode prog_4_method_3_code 23 = .ok (.iconst 3, 1) := by decide +kernel
theorem d_P_depthOf_24 : decode prog_4_method_3_code 24 = .ok (.ireturn, 1) := by decide +kernel

theorem d_P_weightAt_0 : decode prog_4_method_4_code 0 = .ok (.iload_n 0, 1) := by decide +kernel
theorem d_P_weightAt_1 : decode prog_4_method_4_code 1 = .ok (.tableswitch 34 0 2 #[27, 29, 31], 27) := by decide +kernel
theorem d_P_weightAt_28 : decode prog_4_method_4_code 28 = .ok (.iconst 1, 1) := by decide +kernel
theorem d_P_weightAt_29 : decode prog_4_method_4_code 29 = .ok (.ireturn, 1) := by decide +kernel
theorem d_P_weightAt_30 : decode prog_4_method_4_code 30 = .ok (.iconst 5, 1) := by decide +kernel
theorem d_P_weightAt_31 : decode prog_4_method_4_code 31 = .ok (.ireturn, 1) := by decide +kernel
theorem d_P_weightAt_32 : decode prog_4_method_4_code 32 = .ok (.bipush 25, 2) := by decide +kernel
theorem d_P_weightAt_34 : decode prog_4_method_4_code 34 = .ok (.ireturn, 1) := by decide +kernel
theorem d_P_weightAt_35 : decode prog_4_method_4_code 35 = .ok (.bipush 125, 2) := by decide +kernel
theorem d_P_weightAt_37 : decode prog_4_method_4_code 37 = .ok (.ireturn, 1) := by decide +kernel

theorem d_P_parentOf_0 : decode prog_4_method_5_code 0 = .ok (.iload_n 0, 1) := by decide +kernel
theorem d_P_parentOf_1 : decode prog_4_method_5_code 1 = .ok (.ifCond .gt 7, 3) := by decide +kernel
theorem d_P_parentOf_4 : decode prog_4_method_5_code 4 = .ok (.iconst 0, 1) := by decide +kernel
theorem d_P_parentOf_5 : decode prog_4_method_5_code 5 = .ok (.goto 14, 3) := by decide +kernel
theorem d_P_parentOf_8 : decode prog_4_method_5_code 8 = .ok (.iload_n 0, 1) := by decide +kernel
theorem d_P_parentOf_9 : decode prog_4_method_5_code 9 = .ok (.iload_n 0, 1) := by decide +kernel
theorem d_P_parentOf_10 : decode prog_4_method_5_code 10 = .ok (.invokestatic 9, 3) := by decide +kernel
theorem d_P_parentOf_13 : decode prog_4_method_5_code 13 = .ok (.iconst 1, 1) := by decide +kernel
theorem d_P_parentOf_14 : decode prog_4_method_5_code 14 = .ok (.isub, 1) := by decide +kernel
theorem d_P_parentOf_15 : decode prog_4_method_5_code 15 = .ok (.invokestatic 13, 3) := by decide +kernel
theorem d_P_parentOf_18 : decode prog_4_method_5_code 18 = .ok (.irem, 1) := by decide +kernel
theorem d_P_parentOf_19 : decode prog_4_method_5_code 19 = .ok (.ireturn, 1) := by decide +kernel

theorem d_P_namesBelow_0 : decode prog_4_method_6_code 0 = .ok (.iload_n 0, 1) := by decide +kernel
theorem d_P_namesBelow_1 : decode prog_4_method_6_code 1 = .ok (.invokestatic 9, 3) := by decide +kernel
theorem d_P_namesBelow_4 : decode prog_4_method_6_code 4 = .ok (.iconst 3, 1) := by decide +kernel
theorem d_P_namesBelow_5 : decode prog_4_method_6_code 5 = .ok (.if_icmp .ge 7, 3) := by decide +kernel
theorem d_P_namesBelow_8 : decode prog_4_method_6_code 8 = .ok (.iconst 4, 1) := by decide +kernel
theorem d_P_namesBelow_9 : decode prog_4_method_6_code 9 = .ok (.goto 4, 3) := by decide +kernel
theorem d_P_namesBelow_12 : decode prog_4_method_6_code 12 = .ok (.iconst 0, 1) := by decide +kernel
theorem d_P_namesBelow_13 : decode prog_4_method_6_code 13 = .ok (.ireturn, 1) := by decide +kernel

theorem d_P_childOf_0 : decode prog_4_method_7_code 0 = .ok (.iload_n 0, 1) := by decide +kernel
theorem d_P_childOf_1 : decode prog_4_method_7_code 1 = .ok (.iload_n 1, 1) := by decide +kernel
theorem d_P_childOf_2 : decode prog_4_method_7_code 2 = .ok (.iload_n 0, 1) := by decide +kernel
theorem d_P_childOf_3 : decode prog_4_method_7_code 3 = .ok (.invokestatic 9, 3) := by decide +kernel
theorem d_P_childOf_6 : decode prog_4_method_7_code 6 = .ok (.invokestatic 13, 3) := by decide +kernel
theorem d_P_childOf_9 : decode prog_4_method_7_code 9 = .ok (.imul, 1) := by decide +kernel
theorem d_P_childOf_10 : decode prog_4_method_7_code 10 = .ok (.iadd, 1) := by decide +kernel
theorem d_P_childOf_11 : decode prog_4_method_7_code 11 = .ok (.ireturn, 1) := by decide +kernel

theorem d_P_isAtOrBelow_0 : decode prog_4_method_8_code 0 = .ok (.iload_n 0, 1) := by decide +kernel
theorem d_P_isAtOrBelow_1 : decode prog_4_method_8_code 1 = .ok (.invokestatic 9, 3) := by decide +kernel
theorem d_P_isAtOrBelow_4 : decode prog_4_method_8_code 4 = .ok (.iload_n 1, 1) := by decide +kernel
theorem d_P_isAtOrBelow_5 : decode prog_4_method_8_code 5 = .ok (.invokestatic 9, 3) := by decide +kernel
theorem d_P_isAtOrBelow_8 : decode prog_4_method_8_code 8 = .ok (.if_icmp .lt 20, 3) := by decide +kernel
theorem d_P_isAtOrBelow_11 : decode prog_4_method_8_code 11 = .ok (.iload_n 0, 1) := by decide +kernel
theorem d_P_isAtOrBelow_12 : decode prog_4_method_8_code 12 = .ok (.iload_n 1, 1) := by decide +kernel
theorem d_P_isAtOrBelow_13 : decode prog_4_method_8_code 13 = .ok (.invokestatic 9, 3) := by decide +kernel
theorem d_P_isAtOrBelow_16 : decode prog_4_method_8_code 16 = .ok (.invokestatic 13, 3) := by decide +kernel
theorem d_P_isAtOrBelow_19 : decode prog_4_method_8_code 19 = .ok (.irem, 1) := by decide +kernel
theorem d_P_isAtOrBelow_20 : decode prog_4_method_8_code 20 = .ok (.iload_n 1, 1) := by decide +kernel
theorem d_P_isAtOrBelow_21 : decode prog_4_method_8_code 21 = .ok (.if_icmp .ne 7, 3) := by decide +kernel
theorem d_P_isAtOrBelow_24 : decode prog_4_method_8_code 24 = .ok (.iconst 1, 1) := by decide +kernel
theorem d_P_isAtOrBelow_25 : decode prog_4_method_8_code 25 = .ok (.goto 4, 3) := by decide +kernel
theorem d_P_isAtOrBelow_28 : decode prog_4_method_8_code 28 = .ok (.iconst 0, 1) := by decide +kernel
theorem d_P_isAtOrBelow_29 : decode prog_4_method_8_code 29 = .ok (.ireturn, 1) := by decide +kernel

theorem d_P_moved_0 : decode prog_4_method_9_code 0 = .ok (.iload_n 2, 1) := by decide +kernel
theorem d_P_moved_1 : decode prog_4_method_9_code 1 = .ok (.iload_n 0, 1) := by decide +kernel
theorem d_P_moved_2 : decode prog_4_method_9_code 2 = .ok (.iload_n 1, 1) := by decide +kernel
theorem d_P_moved_3 : decode prog_4_method_9_code 3 = .ok (.invokestatic 9, 3) := by decide +kernel
theorem d_P_moved_6 : decode prog_4_method_9_code 6 = .ok (.invokestatic 13, 3) := by decide +kernel
theorem d_P_moved_9 : decode prog_4_method_9_code 9 = .ok (.idiv, 1) := by decide +kernel
theorem d_P_moved_10 : decode prog_4_method_9_code 10 = .ok (.iload_n 2, 1) := by decide +kernel
theorem d_P_moved_11 : decode prog_4_method_9_code 11 = .ok (.invokestatic 9, 3) := by decide +kernel
theorem d_P_moved_14 : decode prog_4_method_9_code 14 = .ok (.invokestatic 13, 3) := by decide +kernel
theorem d_P_moved_17 : decode prog_4_method_9_code 17 = .ok (.imul, 1) := by decide +kernel
theorem d_P_moved_18 : decode prog_4_method_9_code 18 = .ok (.iadd, 1) := by decide +kernel
theorem d_P_moved_19 : decode prog_4_method_9_code 19 = .ok (.ireturn, 1) := by decide +kernel
set_option maxHeartbeats 4000000 in
set_option maxRecDepth 100000 in
theorem c_P_good {l : Launch} {E : Ev} {M : mp_M} {sz : Nat} {x : Int32} : MCi l E y_P_isGood prog_4_method_2_code 4 (some .boolean) 0 0 0 0 [.int x] M sz (fun r M' => r = bz (pgb (ix x)) ∧ M' = M) := by
  refine mc_of R_P rfl [some (.int x), none, none, none] (by decide) (Nat.le_of_ble_eq_true rfl) rfl ?_
  intro p e R s m ag below meth c ls Q A X hAe hQ hR hsz hw hl
  rw [← hAe] at hQ
  obtain ⟨⟨hx, hb, hml, hown, hts⟩, hE, hA, hr, hlk, hnm⟩ := X
  have hK := hE.1
  refine x_iload_n hx hb d_P_isGood_0 hl rfl ?_
  refine lv_if_lt hx hb d_P_isGood_1 rfl (fun h1 => ?_) (fun h1 => ?_)
  · refine lv_iconst (v := nI 0) hx hb d_P_isGood_10 (by decide) ?_
    exact x_reti hQ hx hb hr hlk (by first | exact nar_bz | decide) hw (by omega) (by omega) d_P_isGood_11 (⟨by first | (rw [ix_lt h1]; decide) | (rw [ix_ge h7]; decide), rfl⟩)
  · refine x_iload_n hx hb d_P_isGood_4 hl rfl ?_
    refine lv_bipush (v := nI 125) hx hb d_P_isGood_5 (by decide) ?_
    refine lv_icmp_lt hx hb d_P_isGood_7 rfl (fun h7 => ?_) (fun h7 => ?_)
    · obtain ⟨k, hk, rfl⟩ := nI_of3 (M := nI 125) (n := 125) (by decide) h1 h7
      refine x_iload_n hx hb d_P_isGood_12 hl rfl ?_
      refine lv_iconst (v := nI 5) hx hb d_P_isGood_13 (by decide) ?_
      refine x_irem hx hb d_P_isGood_14 (by omega) (by omega) (by omega) ?_
      refine x_if_eq hx hb d_P_isGood_15 rfl (by omega) (fun h15 => ?_) (fun h15 => ?_)
      · refine lv_iconst (v := nI 0) hx hb d_P_isGood_22 (by decide) ?_
        refine x_istore_n hx hb d_P_isGood_23 hl (Nat.le_of_ble_eq_true rfl) (lh_k (i := 0) rfl (by first | exact lk_n | exact lk_i | exact lk_r | exact lk_q | exact lk_0)) (fun ls hl => ?_)
        refine x_iload_n hx hb d_P_isGood_24 hl rfl ?_
        refine lv_iconst (v := nI 5) hx hb d_P_isGood_25 (by decide) ?_
        refine x_idiv hx hb d_P_isGood_26 (by omega) (by omega) (by omega) ?_
        refine lv_iconst (v := nI 5) hx hb d_P_isGood_27 (by decide) ?_
        refine x_irem hx hb d_P_isGood_28 (by omega) (by omega) (by omega) ?_
        refine x_if_eq hx hb d_P_isGood_29 rfl (by omega) (fun h29 => ?_) (fun h29 => ?_)
        · refine lv_iconst (v := nI 0) hx hb d_P_isGood_36 (by decide) ?_
          refine x_istore_n hx hb d_P_isGood_37 hl (Nat.le_of_ble_eq_true rfl) (lh_k (i := 1) rfl (by first | exact lk_n | exact lk_i | exact lk_r | exact lk_q | exact lk_0)) (fun ls hl => ?_)
          refine x_iload_n hx hb d_P_isGood_38 hl rfl ?_
          refine lv_bipush (v := nI 25) hx hb d_P_isGood_39 (by decide) ?_
          refine x_idiv hx hb d_P_isGood_41 (by omega) (by omega) (by omega) ?_
          refine x_if_eq hx hb d_P_isGood_42 rfl (by omega) (fun h42 => ?_) (fun h42 => ?_)
          · refine lv_iconst (v := nI 0) hx hb d_P_isGood_49 (by decide) ?_
            refine x_istore_n hx hb d_P_isGood_50 hl (Nat.le_of_ble_eq_true rfl) (lh_k (i := 2) rfl (by first | exact lk_n | exact lk_i | exact lk_r | exact lk_q | exact lk_0)) (fun ls hl => ?_)
            refine x_iload_n hx hb d_P_isGood_51 hl rfl ?_
            refine x_if_ne hx hb d_P_isGood_52 rfl (by omega) (fun h52 => ?_) (fun h52 => ?_)
            · refine x_iload_n hx hb d_P_isGood_59 hl rfl ?_
              refine x_if_ne hx hb d_P_isGood_60 rfl (by omega) (fun h60 => ?_) (fun h60 => ?_)
              · refine lv_iconst (v := nI 1) hx hb d_P_isGood_67 (by decide) ?_
                refine lv_goto hx hb d_P_isGood_68 rfl ?_
                exact x_reti hQ hx hb hr hlk (by first | exact nar_bz | decide) hw (by omega) (by omega) d_P_isGood_72 (⟨by rw [ix_n (by omega)]; first | exact bz_t (pgb_t.mpr (by unfold pg; omega)) | exact bz_f (fun z => by have z := pgb_t.mp z; unfold pg at z; omega), rfl⟩)
              · refine x_iload_n hx hb d_P_isGood_63 hl rfl ?_
                refine x_if_ne hx hb d_P_isGood_64 rfl (by omega) (fun h64 => ?_) (fun h64 => ?_)
                · refine lv_iconst (v := nI 0) hx hb d_P_isGood_71 (by decide) ?_
                  exact x_reti hQ hx hb hr hlk (by first | exact nar_bz | decide) hw (by omega) (by omega) d_P_isGood_72 (⟨by rw [ix_n (by omega)]; first | exact bz_t (pgb_t.mpr (by unfold pg; omega)) | exact bz_f (fun z => by have z := pgb_t.mp z; unfold pg at z; omega), rfl⟩)
                · refine lv_iconst (v := nI 1) hx hb d_P_isGood_67 (by decide) ?_
                  refine lv_goto hx hb d_P_isGood_68 rfl ?_
                  exact x_reti hQ hx hb hr hlk (by first | exact nar_bz | decide) hw (by omega) (by omega) d_P_isGood_72 (⟨by rw [ix_n (by omega)]; first | exact bz_t (pgb_t.mpr (by unfold pg; omega)) | exact bz_f (fun z => by have z := pgb_t.mp z; unfold pg at z; omega), rfl⟩)
            · refine x_iload_n hx hb d_P_isGood_55 hl rfl ?_
              refine x_if_ne hx hb d_P_isGood_56 rfl (by omega) (fun h56 => ?_) (fun h56 => ?_)
              · refine lv_iconst (v := nI 0) hx hb d_P_isGood_71 (by decide) ?_
                exact x_reti hQ hx hb hr hlk (by first | exact nar_bz | decide) hw (by omega) (by omega) d_P_isGood_72 (⟨by rw [ix_n (by omega)]; first | exact bz_t (pgb_t.mpr (by unfold pg; omega)) | exact bz_f (fun z => by have z := pgb_t.mp z; unfold pg at z; omega), rfl⟩)
              · refine x_iload_n hx hb d_P_isGood_59 hl rfl ?_
                refine x_if_ne hx hb d_P_isGood_60 rfl (by omega) (fun h60 => ?_) (fun h60 => ?_)
                · refine lv_iconst (v := nI 1) hx hb d_P_isGood_67 (by decide) ?_
                  refine lv_goto hx hb d_P_isGood_68 rfl ?_
                  exact x_reti hQ hx hb hr hlk (by first | exact nar_bz | decide) hw (by omega) (by omega) d_P_isGood_72 (⟨by rw [ix_n (by omega)]; first | exact bz_t (pgb_t.mpr (by unfold pg; omega)) | exact bz_f (fun z => by have z := pgb_t.mp z; unfold pg at z; omega), rfl⟩)
                · refine x_iload_n hx hb d_P_isGood_63 hl rfl ?_
                  refine x_if_ne hx hb d_P_isGood_64 rfl (by omega) (fun h64 => ?_) (fun h64 => ?_)
                  · refine lv_iconst (v := nI 0) hx hb d_P_isGood_71 (by decide) ?_
                    exact x_reti hQ hx hb hr hlk (by first | exact nar_bz | decide) hw (by omega) (by omega) d_P_isGood_72 (⟨by rw [ix_n (by omega)]; first | exact bz_t (pgb_t.mpr (by unfold pg; omega)) | exact bz_f (fun z => by have z := pgb_t.mp z; unfold pg at z; omega), rfl⟩)
                  · refine lv_iconst (v := nI 1) hx hb d_P_isGood_67 (by decide) ?_
                    refine lv_goto hx hb d_P_isGood_68 rfl ?_
                    exact x_reti hQ hx hb hr hlk (by first | exact nar_bz | decide) hw (by omega) (by omega) d_P_isGood_72 (⟨by rw [ix_n (by omega)]; first | exact bz_t (pgb_t.mpr (by unfold pg; omega)) | exact bz_f (fun z => by have z := pgb_t.mp z; unfold pg at z; omega), rfl⟩)
          · refine lv_iconst (v := nI 1) hx hb d_P_isGood_45 (by decide) ?_
            refine lv_goto hx hb d_P_isGood_46 rfl ?_
            refine x_istore_n hx hb d_P_isGood_50 hl (Nat.le_of_ble_eq_true rfl) (lh_k (i := 2) rfl (by first | exact lk_n | exact lk_i | exact lk_r | exact lk_q | exact lk_0)) (fun ls hl => ?_)
            refine x_iload_n hx hb d_P_isGood_51 hl rfl ?_
            refine x_if_ne hx hb d_P_isGood_52 rfl (by omega) (fun h52 => ?_) (fun h52 => ?_)
            · refine x_iload_n hx hb d_P_isGood_59 hl rfl ?_
              refine x_if_ne hx hb d_P_isGood_60 rfl (by omega) (fun h60 => ?_) (fun h60 => ?_)
              · refine lv_iconst (v := nI 1) hx hb d_P_isGood_67 (by decide) ?_
                refine lv_goto hx hb d_P_isGood_68 rfl ?_
                exact x_reti hQ hx hb hr hlk (by first | exact nar_bz | decide) hw (by omega) (by omega) d_P_isGood_72 (⟨by rw [ix_n (by omega)]; first | exact bz_t (pgb_t.mpr (by unfold pg; omega)) | exact bz_f (fun z => by have z := pgb_t.mp z; unfold pg at z; omega), rfl⟩)
              · refine x_iload_n hx hb d_P_isGood_63 hl rfl ?_
                refine x_if_ne hx hb d_P_isGood_64 rfl (by omega) (fun h64 => ?_) (fun h64 => ?_)
                · refine lv_iconst (v := nI 0) hx hb d_P_isGood_71 (by decide) ?_
                  exact x_reti hQ hx hb hr hlk (by first | exact nar_bz | decide) hw (by omega) (by omega) d_P_isGood_72 (⟨by rw [ix_n (by omega)]; first | exact bz_t (pgb_t.mpr (by unfold pg; omega)) | exact bz_f (fun z => by have z := pgb_t.mp z; unfold pg at z; omega), rfl⟩)
                · refine lv_iconst (v := nI 1) hx hb d_P_isGood_67 (by decide) ?_
                  refine lv_goto hx hb d_P_isGood_68 rfl ?_
                  exact x_reti hQ hx hb hr hlk (by first | exact nar_bz | decide) hw (by omega) (by omega) d_P_isGood_72 (⟨by rw [ix_n (by omega)]; first | exact bz_t (pgb_t.mpr (by unfold pg; omega)) | exact bz_f (fun z => by have z := pgb_t.mp z; unfold pg at z; omega), rfl⟩)
            · refine x_iload_n hx hb d_P_isGood_55 hl rfl ?_
              refine x_if_ne hx hb d_P_isGood_56 rfl (by omega) (fun h56 => ?_) (fun h56 => ?_)
              · refine lv_iconst (v := nI 0) hx hb d_P_isGood_71 (by decide) ?_
                exact x_reti hQ hx hb hr hlk (by first | exact nar_bz | decide) hw (by omega) (by omega) d_P_isGood_72 (⟨by rw [ix_n (by omega)]; first | exact bz_t (pgb_t.mpr (by unfold pg; omega)) | exact bz_f (fun z => by have z := pgb_t.mp z; unfold pg at z; omega), rfl⟩)
              · refine x_iload_n hx hb d_P_isGood_59 hl rfl ?_
                refine x_if_ne hx hb d_P_isGood_60 rfl (by omega) (fun h60 => ?_) (fun h60 => ?_)
                · refine lv_iconst (v := nI 1) hx hb d_P_isGood_67 (by decide) ?_
                  refine lv_goto hx hb d_P_isGood_68 rfl ?_
                  exact x_reti hQ hx hb hr hlk (by first | exact nar_bz | decide) hw (by omega) (by omega) d_P_isGood_72 (⟨by rw [ix_n (by omega)]; first | exact bz_t (pgb_t.mpr (by unfold pg; omega)) | exact bz_f (fun z => by have z := pgb_t.mp z; unfold pg at z; omega), rfl⟩)
                · refine x_iload_n hx hb d_P_isGood_63 hl rfl ?_
                  refine x_if_ne hx hb d_P_isGood_64 rfl (by omega) (fun h64 => ?_) (fun h64 => ?_)
                  · refine lv_iconst (v := nI 0) hx hb d_P_isGood_71 (by decide) ?_
                    exact x_reti hQ hx hb hr hlk (by first | exact nar_bz | decide) hw (by omega) (by omega) d_P_isGood_72 (⟨by rw [ix_n (by omega)]; first | exact bz_t (pgb_t.mpr (by unfold pg; omega)) | exact bz_f (fun z => by have z := pgb_t.mp z; unfold pg at z; omega), rfl⟩)
                  · refine lv_iconst (v := nI 1) hx hb d_P_isGood_67 (by decide) ?_
                    refine lv_goto hx hb d_P_isGood_68 rfl ?_
                    exact x_reti hQ hx hb hr hlk (by first | exact nar_bz | decide) hw (by omega) (by omega) d_P_isGood_72 (⟨by rw [ix_n (by omega)]; first | exact bz_t (pgb_t.mpr (by unfold pg; omega)) | exact bz_f (fun z => by have z := pgb_t.mp z; unfold pg at z; omega), rfl⟩)
        · refine lv_iconst (v := nI 1) hx hb d_P_isGood_32 (by decide) ?_
          refine lv_goto hx hb d_P_isGood_33 rfl ?_
          refine x_istore_n hx hb d_P_isGood_37 hl (Nat.le_of_ble_eq_true rfl) (lh_k (i := 1) rfl (by first | exact lk_n | exact lk_i | exact lk_r | exact lk_q | exact lk_0)) (fun ls hl => ?_)
          refine x_iload_n hx hb d_P_isGood_38 hl rfl ?_
          refine lv_bipush (v := nI 25) hx hb d_P_isGood_39 (by decide) ?_
          refine x_idiv hx hb d_P_isGood_41 (by omega) (by omega) (by omega) ?_
          refine x_if_eq hx hb d_P_isGood_42 rfl (by omega) (fun h42 => ?_) (fun h42 => ?_)
          · refine lv_iconst (v := nI 0) hx hb d_P_isGood_49 (by decide) ?_
            refine x_istore_n hx hb d_P_isGood_50 hl (Nat.le_of_ble_eq_true rfl) (lh_k (i := 2) rfl (by first | exact lk_n | exact lk_i | exact lk_r | exact lk_q | exact lk_0)) (fun ls hl => ?_)
            refine x_iload_n hx hb d_P_isGood_51 hl rfl ?_
            refine x_if_ne hx hb d_P_isGood_52 rfl (by omega) (fun h52 => ?_) (fun h52 => ?_)
            · refine x_iload_n hx hb d_P_isGood_59 hl rfl ?_
              refine x_if_ne hx hb d_P_isGood_60 rfl (by omega) (fun h60 => ?_) (fun h60 => ?_)
              · refine lv_iconst (v := nI 1) hx hb d_P_isGood_67 (by decide) ?_
                refine lv_goto hx hb d_P_isGood_68 rfl ?_
                exact x_reti hQ hx hb hr hlk (by first | exact nar_bz | decide) hw (by omega) (by omega) d_P_isGood_72 (⟨by rw [ix_n (by omega)]; first | exact bz_t (pgb_t.mpr (by unfold pg; omega)) | exact bz_f (fun z => by have z := pgb_t.mp z; unfold pg at z; omega), rfl⟩)
              · refine x_iload_n hx hb d_P_isGood_63 hl rfl ?_
                refine x_if_ne hx hb d_P_isGood_64 rfl (by omega) (fun h64 => ?_) (fun h64 => ?_)
                · refine lv_iconst (v := nI 0) hx hb d_P_isGood_71 (by decide) ?_
                  exact x_reti hQ hx hb hr hlk (by first | exact nar_bz | decide) hw (by omega) (by omega) d_P_isGood_72 (⟨by rw [ix_n (by omega)]; first | exact bz_t (pgb_t.mpr (by unfold pg; omega)) | exact bz_f (fun z => by have z := pgb_t.mp z; unfold pg at z; omega), rfl⟩)
                · refine lv_iconst (v := nI 1) hx hb d_P_isGood_67 (by decide) ?_
                  refine lv_goto hx hb d_P_isGood_68 rfl ?_
                  exact x_reti hQ hx hb hr hlk (by first | exact nar_bz | decide) hw (by omega) (by omega) d_P_isGood_72 (⟨by rw [ix_n (by omega)]; first | exact bz_t (pgb_t.mpr (by unfold pg; omega)) | exact bz_f (fun z => by have z := pgb_t.mp z; unfold pg at z; omega), rfl⟩)
            · refine x_iload_n hx hb d_P_isGood_55 hl rfl ?_
              refine x_if_ne hx hb d_P_isGood_56 rfl (by omega) (fun h56 => ?_) (fun h56 => ?_)
              · refine lv_iconst (v := nI 0) hx hb d_P_isGood_71 (by decide) ?_
                exact x_reti hQ hx hb hr hlk (by first | exact nar_bz | decide) hw (by omega) (by omega) d_P_isGood_72 (⟨by rw [ix_n (by omega)]; first | exact bz_t (pgb_t.mpr (by unfold pg; omega)) | exact bz_f (fun z => by have z := pgb_t.mp z; unfold pg at z; omega), rfl⟩)
              · refine x_iload_n hx hb d_P_isGood_59 hl rfl ?_
                refine x_if_ne hx hb d_P_isGood_60 rfl (by omega) (fun h60 => ?_) (fun h60 => ?_)
                · refine lv_iconst (v := nI 1) hx hb d_P_isGood_67 (by decide) ?_
                  refine lv_goto hx hb d_P_isGood_68 rfl ?_
                  exact x_reti hQ hx hb hr hlk (by first | exact nar_bz | decide) hw (by omega) (by omega) d_P_isGood_72 (⟨by rw [ix_n (by omega)]; first | exact bz_t (pgb_t.mpr (by unfold pg; omega)) | exact bz_f (fun z => by have z := pgb_t.mp z; unfold pg at z; omega), rfl⟩)
                · refine x_iload_n hx hb d_P_isGood_63 hl rfl ?_
                  refine x_if_ne hx hb d_P_isGood_64 rfl (by omega) (fun h64 => ?_) (fun h64 => ?_)
                  · refine lv_iconst (v := nI 0) hx hb d_P_isGood_71 (by decide) ?_
                    exact x_reti hQ hx hb hr hlk (by first | exact nar_bz | decide) hw (by omega) (by omega) d_P_isGood_72 (⟨by rw [ix_n (by omega)]; first | exact bz_t (pgb_t.mpr (by unfold pg; omega)) | exact bz_f (fun z => by have z := pgb_t.mp z; unfold pg at z; omega), rfl⟩)
                  · refine lv_iconst (v := nI 1) hx hb d_P_isGood_67 (by decide) ?_
                    refine lv_goto hx hb d_P_isGood_68 rfl ?_
                    exact x_reti hQ hx hb hr hlk (by first | exact nar_bz | decide) hw (by omega) (by omega) d_P_isGood_72 (⟨by rw [ix_n (by omega)]; first | exact bz_t (pgb_t.mpr (by unfold pg; omega)) | exact bz_f (fun z => by have z := pgb_t.mp z; unfold pg at z; omega), rfl⟩)
          · refine lv_iconst (v := nI 1) hx hb d_P_isGood_45 (by decide) ?_
            refine lv_goto hx hb d_P_isGood_46 rfl ?_
            refine x_istore_n hx hb d_P_isGood_50 hl (Nat.le_of_ble_eq_true rfl) (lh_k (i := 2) rfl (by first | exact lk_n | exact lk_i | exact lk_r | exact lk_q | exact lk_0)) (fun ls hl => ?_)
            refine x_iload_n hx hb d_P_isGood_51 hl rfl ?_
            refine x_if_ne hx hb d_P_isGood_52 rfl (by omega) (fun h52 => ?_) (fun h52 => ?_)
            · refine x_iload_n hx hb d_P_isGood_59 hl rfl ?_
              refine x_if_ne hx hb d_P_isGood_60 rfl (by omega) (fun h60 => ?_) (fun h60 => ?_)
              · refine lv_iconst (v := nI 1) hx hb d_P_isGood_67 (by decide) ?_
                refine lv_goto hx hb d_P_isGood_68 rfl ?_
                exact x_reti hQ hx hb hr hlk (by first | exact nar_bz | decide) hw (by omega) (by omega) d_P_isGood_72 (⟨by rw [ix_n (by omega)]; first | exact bz_t (pgb_t.mpr (by unfold pg; omega)) | exact bz_f (fun z => by have z := pgb_t.mp z; unfold pg at z; omega), rfl⟩)
              · refine x_iload_n hx hb d_P_isGood_63 hl rfl ?_
                refine x_if_ne hx hb d_P_isGood_64 rfl (by omega) (fun h64 => ?_) (fun h64 => ?_)
                · refine lv_iconst (v := nI 0) hx hb d_P_isGood_71 (by decide) ?_
                  exact x_reti hQ hx hb hr hlk (by first | exact nar_bz | decide) hw (by omega) (by omega) d_P_isGood_72 (⟨by rw [ix_n (by omega)]; first | exact bz_t (pgb_t.mpr (by unfold pg; omega)) | exact bz_f (fun z => by have z := pgb_t.mp z; unfold pg at z; omega), rfl⟩)
                · refine lv_iconst (v := nI 1) hx hb d_P_isGood_67 (by decide) ?_
                  refine lv_goto hx hb d_P_isGood_68 rfl ?_
                  exact x_reti hQ hx hb hr hlk (by first | exact nar_bz | decide) hw (by omega) (by omega) d_P_isGood_72 (⟨by rw [ix_n (by omega)]; first | exact bz_t (pgb_t.mpr (by unfold pg; omega)) | exact bz_f (fun z => by have z := pgb_t.mp z; unfold pg at z; omega), rfl⟩)
            · refine x_iload_n hx hb d_P_isGood_55 hl rfl ?_
              refine x_if_ne hx hb d_P_isGood_56 rfl (by omega) (fun h56 => ?_) (fun h56 => ?_)
              · refine lv_iconst (v := nI 0) hx hb d_P_isGood_71 (by decide) ?_
                exact x_reti hQ hx hb hr hlk (by first | exact nar_bz | decide) hw (by omega) (by omega) d_P_isGood_72 (⟨by rw [ix_n (by omega)]; first | exact bz_t (pgb_t.mpr (by unfold pg; omega)) | exact bz_f (fun z => by have z := pgb_t.mp z; unfold pg at z; omega), rfl⟩)
              · refine x_iload_n hx hb d_P_isGood_59 hl rfl ?_
                refine x_if_ne hx hb d_P_isGood_60 rfl (by omega) (fun h60 => ?_) (fun h60 => ?_)
                · refine lv_iconst (v := nI 1) hx hb d_P_isGood_67 (by decide) ?_
                  refine lv_goto hx hb d_P_isGood_68 rfl ?_
                  exact x_reti hQ hx hb hr hlk (by first | exact nar_bz | decide) hw (by omega) (by omega) d_P_isGood_72 (⟨by rw [ix_n (by omega)]; first | exact bz_t (pgb_t.mpr (by unfold pg; omega)) | exact bz_f (fun z => by have z := pgb_t.mp z; unfold pg at z; omega), rfl⟩)
                · refine x_iload_n hx hb d_P_isGood_63 hl rfl ?_
                  refine x_if_ne hx hb d_P_isGood_64 rfl (by omega) (fun h64 => ?_) (fun h64 => ?_)
                  · refine lv_iconst (v := nI 0) hx hb d_P_isGood_71 (by decide) ?_
                    exact x_reti hQ hx hb hr hlk (by first | exact nar_bz | decide) hw (by omega) (by omega) d_P_isGood_72 (⟨by rw [ix_n (by omega)]; first | exact bz_t (pgb_t.mpr (by unfold pg; omega)) | exact bz_f (fun z => by have z := pgb_t.mp z; unfold pg at z; omega), rfl⟩)
                  · refine lv_iconst (v := nI 1) hx hb d_P_isGood_67 (by decide) ?_
                    refine lv_goto hx hb d_P_isGood_68 rfl ?_
                    exact x_reti hQ hx hb hr hlk (by first | exact nar_bz | decide) hw (by omega) (by omega) d_P_isGood_72 (⟨by rw [ix_n (by omega)]; first | exact bz_t (pgb_t.mpr (by unfold pg; omega)) | exact bz_f (fun z => by have z := pgb_t.mp z; unfold pg at z; omega), rfl⟩)
      · refine lv_iconst (v := nI 1) hx hb d_P_isGood_18 (by decide) ?_
        refine lv_goto hx hb d_P_isGood_19 rfl ?_
        refine x_istore_n hx hb d_P_isGood_23 hl (Nat.le_of_ble_eq_true rfl) (lh_k (i := 0) rfl (by first | exact lk_n | exact lk_i | exact lk_r | exact lk_q | exact lk_0)) (fun ls hl => ?_)
        refine x_iload_n hx hb d_P_isGood_24 hl rfl ?_
        refine lv_iconst (v := nI 5) hx hb d_P_isGood_25 (by decide) ?_
        refine x_idiv hx hb d_P_isGood_26 (by omega) (by omega) (by omega) ?_
        refine lv_iconst (v := nI 5) hx hb d_P_isGood_27 (by decide) ?_
        refine x_irem hx hb d_P_isGood_28 (by omega) (by omega) (by omega) ?_
        refine x_if_eq hx hb d_P_isGood_29 rfl (by omega) (fun h29 => ?_) (fun h29 => ?_)
        · refine lv_iconst (v := nI 0) hx hb d_P_isGood_36 (by decide) ?_
          refine x_istore_n hx hb d_P_isGood_37 hl (Nat.le_of_ble_eq_true rfl) (lh_k (i := 1) rfl (by first | exact lk_n | exact lk_i | exact lk_r | exact lk_q | exact lk_0)) (fun ls hl => ?_)
          refine x_iload_n hx hb d_P_isGood_38 hl rfl ?_
          refine lv_bipush (v := nI 25) hx hb d_P_isGood_39 (by decide) ?_
          refine x_idiv hx hb d_P_isGood_41 (by omega) (by omega) (by omega) ?_
          refine x_if_eq hx hb d_P_isGood_42 rfl (by omega) (fun h42 => ?_) (fun h42 => ?_)
          · refine lv_iconst (v := nI 0) hx hb d_P_isGood_49 (by decide) ?_
            refine x_istore_n hx hb d_P_isGood_50 hl (Nat.le_of_ble_eq_true rfl) (lh_k (i := 2) rfl (by first | exact lk_n | exact lk_i | exact lk_r | exact lk_q | exact lk_0)) (fun ls hl => ?_)
            refine x_iload_n hx hb d_P_isGood_51 hl rfl ?_
            refine x_if_ne hx hb d_P_isGood_52 rfl (by omega) (fun h52 => ?_) (fun h52 => ?_)
            · refine x_iload_n hx hb d_P_isGood_59 hl rfl ?_
              refine x_if_ne hx hb d_P_isGood_60 rfl (by omega) (fun h60 => ?_) (fun h60 => ?_)
              · refine lv_iconst (v := nI 1) hx hb d_P_isGood_67 (by decide) ?_
                refine lv_goto hx hb d_P_isGood_68 rfl ?_
                exact x_reti hQ hx hb hr hlk (by first | exact nar_bz | decide) hw (by omega) (by omega) d_P_isGood_72 (⟨by rw [ix_n (by omega)]; first | exact bz_t (pgb_t.mpr (by unfold pg; omega)) | exact bz_f (fun z => by have z := pgb_t.mp z; unfold pg at z; omega), rfl⟩)
              · refine x_iload_n hx hb d_P_isGood_63 hl rfl ?_
                refine x_if_ne hx hb d_P_isGood_64 rfl (by omega) (fun h64 => ?_) (fun h64 => ?_)
                · refine lv_iconst (v := nI 0) hx hb d_P_isGood_71 (by decide) ?_
                  exact x_reti hQ hx hb hr hlk (by first | exact nar_bz | decide) hw (by omega) (by omega) d_P_isGood_72 (⟨by rw [ix_n (by omega)]; first | exact bz_t (pgb_t.mpr (by unfold pg; omega)) | exact bz_f (fun z => by have z := pgb_t.mp z; unfold pg at z; omega), rfl⟩)
                · refine lv_iconst (v := nI 1) hx hb d_P_isGood_67 (by decide) ?_
                  refine lv_goto hx hb d_P_isGood_68 rfl ?_
                  exact x_reti hQ hx hb hr hlk (by first | exact nar_bz | decide) hw (by omega) (by omega) d_P_isGood_72 (⟨by rw [ix_n (by omega)]; first | exact bz_t (pgb_t.mpr (by unfold pg; omega)) | exact bz_f (fun z => by have z := pgb_t.mp z; unfold pg at z; omega), rfl⟩)
            · refine x_iload_n hx hb d_P_isGood_55 hl rfl ?_
              refine x_if_ne hx hb d_P_isGood_56 rfl (by omega) (fun h56 => ?_) (fun h56 => ?_)
              · refine lv_iconst (v := nI 0) hx hb d_P_isGood_71 (by decide) ?_
                exact x_reti hQ hx hb hr hlk (by first | exact nar_bz | decide) hw (by omega) (by omega) d_P_isGood_72 (⟨by rw [ix_n (by omega)]; first | exact bz_t (pgb_t.mpr (by unfold pg; omega)) | exact bz_f (fun z => by have z := pgb_t.mp z; unfold pg at z; omega), rfl⟩)
              · refine x_iload_n hx hb d_P_isGood_59 hl rfl ?_
                refine x_if_ne hx hb d_P_isGood_60 rfl (by omega) (fun h60 => ?_) (fun h60 => ?_)
                · refine lv_iconst (v := nI 1) hx hb d_P_isGood_67 (by decide) ?_
                  refine lv_goto hx hb d_P_isGood_68 rfl ?_
                  exact x_reti hQ hx hb hr hlk (by first | exact nar_bz | decide) hw (by omega) (by omega) d_P_isGood_72 (⟨by rw [ix_n (by omega)]; first | exact bz_t (pgb_t.mpr (by unfold pg; omega)) | exact bz_f (fun z => by have z := pgb_t.mp z; unfold pg at z; omega), rfl⟩)
                · refine x_iload_n hx hb d_P_isGood_63 hl rfl ?_
                  refine x_if_ne hx hb d_P_isGood_64 rfl (by omega) (fun h64 => ?_) (fun h64 => ?_)
                  · refine lv_iconst (v := nI 0) hx hb d_P_isGood_71 (by decide) ?_
                    exact x_reti hQ hx hb hr hlk (by first | exact nar_bz | decide) hw (by omega) (by omega) d_P_isGood_72 (⟨by rw [ix_n (by omega)]; first | exact bz_t (pgb_t.mpr (by unfold pg; omega)) | exact bz_f (fun z => by have z := pgb_t.mp z; unfold pg at z; omega), rfl⟩)
                  · refine lv_iconst (v := nI 1) hx hb d_P_isGood_67 (by decide) ?_
                    refine lv_goto hx hb d_P_isGood_68 rfl ?_
                    exact x_reti hQ hx hb hr hlk (by first | exact nar_bz | decide) hw (by omega) (by omega) d_P_isGood_72 (⟨by rw [ix_n (by omega)]; first | exact bz_t (pgb_t.mpr (by unfold pg; omega)) | exact bz_f (fun z => by have z := pgb_t.mp z; unfold pg at z; omega), rfl⟩)
          · refine lv_iconst (v := nI 1) hx hb d_P_isGood_45 (by decide) ?_
            refine lv_goto hx hb d_P_isGood_46 rfl ?_
            refine x_istore_n hx hb d_P_isGood_50 hl (Nat.le_of_ble_eq_true rfl) (lh_k (i := 2) rfl (by first | exact lk_n | exact lk_i | exact lk_r | exact lk_q | exact lk_0)) (fun ls hl => ?_)
            refine x_iload_n hx hb d_P_isGood_51 hl rfl ?_
            refine x_if_ne hx hb d_P_isGood_52 rfl (by omega) (fun h52 => ?_) (fun h52 => ?_)
            · refine x_iload_n hx hb d_P_isGood_59 hl rfl ?_
              refine x_if_ne hx hb d_P_isGood_60 rfl (by omega) (fun h60 => ?_) (fun h60 => ?_)
              · refine lv_iconst (v := nI 1) hx hb d_P_isGood_67 (by decide) ?_
                refine lv_goto hx hb d_P_isGood_68 rfl ?_
                exact x_reti hQ hx hb hr hlk (by first | exact nar_bz | decide) hw (by omega) (by omega) d_P_isGood_72 (⟨by rw [ix_n (by omega)]; first | exact bz_t (pgb_t.mpr (by unfold pg; omega)) | exact bz_f (fun z => by have z := pgb_t.mp z; unfold pg at z; omega), rfl⟩)
              · refine x_iload_n hx hb d_P_isGood_63 hl rfl ?_
                refine x_if_ne hx hb d_P_isGood_64 rfl (by omega) (fun h64 => ?_) (fun h64 => ?_)
                · refine lv_iconst (v := nI 0) hx hb d_P_isGood_71 (by decide) ?_
                  exact x_reti hQ hx hb hr hlk (by first | exact nar_bz | decide) hw (by omega) (by omega) d_P_isGood_72 (⟨by rw [ix_n (by omega)]; first | exact bz_t (pgb_t.mpr (by unfold pg; omega)) | exact bz_f (fun z => by have z := pgb_t.mp z; unfold pg at z; omega), rfl⟩)
                · refine lv_iconst (v := nI 1) hx hb d_P_isGood_67 (by decide) ?_
                  refine lv_goto hx hb d_P_isGood_68 rfl ?_
                  exact x_reti hQ hx hb hr hlk (by first | exact nar_bz | decide) hw (by omega) (by omega) d_P_isGood_72 (⟨by rw [ix_n (by omega)]; first | exact bz_t (pgb_t.mpr (by unfold pg; omega)) | exact bz_f (fun z => by have z := pgb_t.mp z; unfold pg at z; omega), rfl⟩)
            · refine x_iload_n hx hb d_P_isGood_55 hl rfl ?_
              refine x_if_ne hx hb d_P_isGood_56 rfl (by omega) (fun h56 => ?_) (fun h56 => ?_)
              · refine lv_iconst (v := nI 0) hx hb d_P_isGood_71 (by decide) ?_
                exact x_reti hQ hx hb hr hlk (by first | exact nar_bz | decide) hw (by omega) (by omega) d_P_isGood_72 (⟨by rw [ix_n (by omega)]; first | exact bz_t (pgb_t.mpr (by unfold pg; omega)) | exact bz_f (fun z => by have z := pgb_t.mp z; unfold pg at z; omega), rfl⟩)
              · refine x_iload_n hx hb d_P_isGood_59 hl rfl ?_
                refine x_if_ne hx hb d_P_isGood_60 rfl (by omega) (fun h60 => ?_) (fun h60 => ?_)
                · refine lv_iconst (v := nI 1) hx hb d_P_isGood_67 (by decide) ?_
                  refine lv_goto hx hb d_P_isGood_68 rfl ?_
                  exact x_reti hQ hx hb hr hlk (by first | exact nar_bz | decide) hw (by omega) (by omega) d_P_isGood_72 (⟨by rw [ix_n (by omega)]; first | exact bz_t (pgb_t.mpr (by unfold pg; omega)) | exact bz_f (fun z => by have z := pgb_t.mp z; unfold pg at z; omega), rfl⟩)
                · refine x_iload_n hx hb d_P_isGood_63 hl rfl ?_
                  refine x_if_ne hx hb d_P_isGood_64 rfl (by omega) (fun h64 => ?_) (fun h64 => ?_)
                  · refine lv_iconst (v := nI 0) hx hb d_P_isGood_71 (by decide) ?_
                    exact x_reti hQ hx hb hr hlk (by first | exact nar_bz | decide) hw (by omega) (by omega) d_P_isGood_72 (⟨by rw [ix_n (by omega)]; first | exact bz_t (pgb_t.mpr (by unfold pg; omega)) | exact bz_f (fun z => by have z := pgb_t.mp z; unfold pg at z; omega), rfl⟩)
                  · refine lv_iconst (v := nI 1) hx hb d_P_isGood_67 (by decide) ?_
                    refine lv_goto hx hb d_P_isGood_68 rfl ?_
                    exact x_reti hQ hx hb hr hlk (by first | exact nar_bz | decide) hw (by omega) (by omega) d_P_isGood_72 (⟨by rw [ix_n (by omega)]; first | exact bz_t (pgb_t.mpr (by unfold pg; omega)) | exact bz_f (fun z => by have z := pgb_t.mp z; unfold pg at z; omega), rfl⟩)
        · refine lv_iconst (v := nI 1) hx hb d_P_isGood_32 (by decide) ?_
          refine lv_goto hx hb d_P_isGood_33 rfl ?_
          refine x_istore_n hx hb d_P_isGood_37 hl (Nat.le_of_ble_eq_true rfl) (lh_k (i := 1) rfl (by first | exact lk_n | exact lk_i | exact lk_r | exact lk_q | exact lk_0)) (fun ls hl => ?_)
          refine x_iload_n hx hb d_P_isGood_38 hl rfl ?_
          refine lv_bipush (v := nI 25) hx hb d_P_isGood_39 (by decide) ?_
          refine x_idiv hx hb d_P_isGood_41 (by omega) (by omega) (by omega) ?_
          refine x_if_eq hx hb d_P_isGood_42 rfl (by omega) (fun h42 => ?_) (fun h42 => ?_)
          · refine lv_iconst (v := nI 0) hx hb d_P_isGood_49 (by decide) ?_
            refine x_istore_n hx hb d_P_isGood_50 hl (Nat.le_of_ble_eq_true rfl) (lh_k (i := 2) rfl (by first | exact lk_n | exact lk_i | exact lk_r | exact lk_q | exact lk_0)) (fun ls hl => ?_)
            refine x_iload_n hx hb d_P_isGood_51 hl rfl ?_
            refine x_if_ne hx hb d_P_isGood_52 rfl (by omega) (fun h52 => ?_) (fun h52 => ?_)
            · refine x_iload_n hx hb d_P_isGood_59 hl rfl ?_
              refine x_if_ne hx hb d_P_isGood_60 rfl (by omega) (fun h60 => ?_) (fun h60 => ?_)
              · refine lv_iconst (v := nI 1) hx hb d_P_isGood_67 (by decide) ?_
                refine lv_goto hx hb d_P_isGood_68 rfl ?_
                exact x_reti hQ hx hb hr hlk (by first | exact nar_bz | decide) hw (by omega) (by omega) d_P_isGood_72 (⟨by rw [ix_n (by omega)]; first | exact bz_t (pgb_t.mpr (by unfold pg; omega)) | exact bz_f (fun z => by have z := pgb_t.mp z; unfold pg at z; omega), rfl⟩)
              · refine x_iload_n hx hb d_P_isGood_63 hl rfl ?_
                refine x_if_ne hx hb d_P_isGood_64 rfl (by omega) (fun h64 => ?_) (fun h64 => ?_)
                · refine lv_iconst (v := nI 0) hx hb d_P_isGood_71 (by decide) ?_
                  exact x_reti hQ hx hb hr hlk (by first | exact nar_bz | decide) hw (by omega) (by omega) d_P_isGood_72 (⟨by rw [ix_n (by omega)]; first | exact bz_t (pgb_t.mpr (by unfold pg; omega)) | exact bz_f (fun z => by have z := pgb_t.mp z; unfold pg at z; omega), rfl⟩)
                · refine lv_iconst (v := nI 1) hx hb d_P_isGood_67 (by decide) ?_
                  refine lv_goto hx hb d_P_isGood_68 rfl ?_
                  exact x_reti hQ hx hb hr hlk (by first | exact nar_bz | decide) hw (by omega) (by omega) d_P_isGood_72 (⟨by rw [ix_n (by omega)]; first | exact bz_t (pgb_t.mpr (by unfold pg; omega)) | exact bz_f (fun z => by have z := pgb_t.mp z; unfold pg at z; omega), rfl⟩)
            · refine x_iload_n hx hb d_P_isGood_55 hl rfl ?_
              refine x_if_ne hx hb d_P_isGood_56 rfl (by omega) (fun h56 => ?_) (fun h56 => ?_)
              · refine lv_iconst (v := nI 0) hx hb d_P_isGood_71 (by decide) ?_
                exact x_reti hQ hx hb hr hlk (by first | exact nar_bz | decide) hw (by omega) (by omega) d_P_isGood_72 (⟨by rw [ix_n (by omega)]; first | exact bz_t (pgb_t.mpr (by unfold pg; omega)) | exact bz_f (fun z => by have z := pgb_t.mp z; unfold pg at z; omega), rfl⟩)
              · refine x_iload_n hx hb d_P_isGood_59 hl rfl ?_
                refine x_if_ne hx hb d_P_isGood_60 rfl (by omega) (fun h60 => ?_) (fun h60 => ?_)
                · refine lv_iconst (v := nI 1) hx hb d_P_isGood_67 (by decide) ?_
                  refine lv_goto hx hb d_P_isGood_68 rfl ?_
                  exact x_reti hQ hx hb hr hlk (by first | exact nar_bz | decide) hw (by omega) (by omega) d_P_isGood_72 (⟨by rw [ix_n (by omega)]; first | exact bz_t (pgb_t.mpr (by unfold pg; omega)) | exact bz_f (fun z => by have z := pgb_t.mp z; unfold pg at z; omega), rfl⟩)
                · refine x_iload_n hx hb d_P_isGood_63 hl rfl ?_
                  refine x_if_ne hx hb d_P_isGood_64 rfl (by omega) (fun h64 => ?_) (fun h64 => ?_)
                  · refine lv_iconst (v := nI 0) hx hb d_P_isGood_71 (by decide) ?_
                    exact x_reti hQ hx hb hr hlk (by first | exact nar_bz | decide) hw (by omega) (by omega) d_P_isGood_72 (⟨by rw [ix_n (by omega)]; first | exact bz_t (pgb_t.mpr (by unfold pg; omega)) | exact bz_f (fun z => by have z := pgb_t.mp z; unfold pg at z; omega), rfl⟩)
                  · refine lv_iconst (v := nI 1) hx hb d_P_isGood_67 (by decide) ?_
                    refine lv_goto hx hb d_P_isGood_68 rfl ?_
                    exact x_reti hQ hx hb hr hlk (by first | exact nar_bz | decide) hw (by omega) (by omega) d_P_isGood_72 (⟨by rw [ix_n (by omega)]; first | exact bz_t (pgb_t.mpr (by unfold pg; omega)) | exact bz_f (fun z => by have z := pgb_t.mp z; unfold pg at z; omega), rfl⟩)
          · refine lv_iconst (v := nI 1) hx hb d_P_isGood_45 (by decide) ?_
            refine lv_goto hx hb d_P_isGood_46 rfl ?_
            refine x_istore_n hx hb d_P_isGood_50 hl (Nat.le_of_ble_eq_true rfl) (lh_k (i := 2) rfl (by first | exact lk_n | exact lk_i | exact lk_r | exact lk_q | exact lk_0)) (fun ls hl => ?_)
            refine x_iload_n hx hb d_P_isGood_51 hl rfl ?_
            refine x_if_ne hx hb d_P_isGood_52 rfl (by omega) (fun h52 => ?_) (fun h52 => ?_)
            · refine x_iload_n hx hb d_P_isGood_59 hl rfl ?_
              refine x_if_ne hx hb d_P_isGood_60 rfl (by omega) (fun h60 => ?_) (fun h60 => ?_)
              · refine lv_iconst (v := nI 1) hx hb d_P_isGood_67 (by decide) ?_
                refine lv_goto hx hb d_P_isGood_68 rfl ?_
                exact x_reti hQ hx hb hr hlk (by first | exact nar_bz | decide) hw (by omega) (by omega) d_P_isGood_72 (⟨by rw [ix_n (by omega)]; first | exact bz_t (pgb_t.mpr (by unfold pg; omega)) | exact bz_f (fun z => by have z := pgb_t.mp z; unfold pg at z; omega), rfl⟩)
              · refine x_iload_n hx hb d_P_isGood_63 hl rfl ?_
                refine x_if_ne hx hb d_P_isGood_64 rfl (by omega) (fun h64 => ?_) (fun h64 => ?_)
                · refine lv_iconst (v := nI 0) hx hb d_P_isGood_71 (by decide) ?_
                  exact x_reti hQ hx hb hr hlk (by first | exact nar_bz | decide) hw (by omega) (by omega) d_P_isGood_72 (⟨by rw [ix_n (by omega)]; first | exact bz_t (pgb_t.mpr (by unfold pg; omega)) | exact bz_f (fun z => by have z := pgb_t.mp z; unfold pg at z; omega), rfl⟩)
                · refine lv_iconst (v := nI 1) hx hb d_P_isGood_67 (by decide) ?_
                  refine lv_goto hx hb d_P_isGood_68 rfl ?_
                  exact x_reti hQ hx hb hr hlk (by first | exact nar_bz | decide) hw (by omega) (by omega) d_P_isGood_72 (⟨by rw [ix_n (by omega)]; first | exact bz_t (pgb_t.mpr (by unfold pg; omega)) | exact bz_f (fun z => by have z := pgb_t.mp z; unfold pg at z; omega), rfl⟩)
            · refine x_iload_n hx hb d_P_isGood_55 hl rfl ?_
              refine x_if_ne hx hb d_P_isGood_56 rfl (by omega) (fun h56 => ?_) (fun h56 => ?_)
              · refine lv_iconst (v := nI 0) hx hb d_P_isGood_71 (by decide) ?_
                exact x_reti hQ hx hb hr hlk (by first | exact nar_bz | decide) hw (by omega) (by omega) d_P_isGood_72 (⟨by rw [ix_n (by omega)]; first | exact bz_t (pgb_t.mpr (by unfold pg; omega)) | exact bz_f (fun z => by have z := pgb_t.mp z; unfold pg at z; omega), rfl⟩)
              · refine x_iload_n hx hb d_P_isGood_59 hl rfl ?_
                refine x_if_ne hx hb d_P_isGood_60 rfl (by omega) (fun h60 => ?_) (fun h60 => ?_)
                · refine lv_iconst (v := nI 1) hx hb d_P_isGood_67 (by decide) ?_
                  refine lv_goto hx hb d_P_isGood_68 rfl ?_
                  exact x_reti hQ hx hb hr hlk (by first | exact nar_bz | decide) hw (by omega) (by omega) d_P_isGood_72 (⟨by rw [ix_n (by omega)]; first | exact bz_t (pgb_t.mpr (by unfold pg; omega)) | exact bz_f (fun z => by have z := pgb_t.mp z; unfold pg at z; omega), rfl⟩)
                · refine x_iload_n hx hb d_P_isGood_63 hl rfl ?_
                  refine x_if_ne hx hb d_P_isGood_64 rfl (by omega) (fun h64 => ?_) (fun h64 => ?_)
                  · refine lv_iconst (v := nI 0) hx hb d_P_isGood_71 (by decide) ?_
                    exact x_reti hQ hx hb hr hlk (by first | exact nar_bz | decide) hw (by omega) (by omega) d_P_isGood_72 (⟨by rw [ix_n (by omega)]; first | exact bz_t (pgb_t.mpr (by unfold pg; omega)) | exact bz_f (fun z => by have z := pgb_t.mp z; unfold pg at z; omega), rfl⟩)
                  · refine lv_iconst (v := nI 1) hx hb d_P_isGood_67 (by decide) ?_
                    refine lv_goto hx hb d_P_isGood_68 rfl ?_
                    exact x_reti hQ hx hb hr hlk (by first | exact nar_bz | decide) hw (by omega) (by omega) d_P_isGood_72 (⟨by rw [ix_n (by omega)]; first | exact bz_t (pgb_t.mpr (by unfold pg; omega)) | exact bz_f (fun z => by have z := pgb_t.mp z; unfold pg at z; omega), rfl⟩)
    · refine lv_iconst (v := nI 0) hx hb d_P_isGood_10 (by decide) ?_
      exact x_reti hQ hx hb hr hlk (by first | exact nar_bz | decide) hw (by omega) (by omega) d_P_isGood_11 (⟨by first | (rw [ix_lt h1]; decide) | (rw [ix_ge h7]; decide), rfl⟩)

set_option maxHeartbeats 4000000 in
set_option maxRecDepth 100000 in
theorem c_P_depth {l : Launch} {E : Ev} {M : mp_M} {sz : Nat} {n : Nat} (hn : n < 2 ^ 31) : MCi l E y_P_depthOf prog_4_method_3_code 1 (some .int) 0 0 0 0 [.int (nI n)] M sz (fun r M' => r = nI (pd n) ∧ M' = M) := by
  refine mc_of R_P rfl [some (.int (nI n))] (by decide) (Nat.le_of_ble_eq_true rfl) rfl ?_
  intro p e R s m ag below meth c ls Q A X hAe hQ hR hsz hw hl
  rw [← hAe] at hQ
  obtain ⟨⟨hx, hb, hml, hown, hts⟩, hE, hA, hr, hlk, hnm⟩ := X
  have hK := hE.1
  refine x_iload_n hx hb d_P_depthOf_0 hl rfl ?_
  refine x_if_gt hx hb d_P_depthOf_1 rfl (by omega) (fun h1 => ?_) (fun h1 => ?_)
  · refine x_iload_n hx hb d_P_depthOf_6 hl rfl ?_
    refine lv_iconst (v := nI 5) hx hb d_P_depthOf_7 (by decide) ?_
    refine x_icmp_ge hx hb d_P_depthOf_8 rfl (by omega) (by omega) (fun h8 => ?_) (fun h8 => ?_)
    · refine x_iload_n hx hb d_P_depthOf_13 hl rfl ?_
      refine lv_bipush (v := nI 25) hx hb d_P_depthOf_14 (by decide) ?_
      refine x_icmp_ge hx hb d_P_depthOf_16 rfl (by omega) (by omega) (fun h16 => ?_) (fun h16 => ?_)
      · refine lv_iconst (v := nI 3) hx hb d_P_depthOf_23 (by decide) ?_
        exact x_reti hQ hx hb hr hlk rfl hw (by omega) (by omega) d_P_depthOf_24 (⟨congrArg nI (by unfold pd; (repeat' split) <;> omega), rfl⟩)
      · refine lv_iconst (v := nI 2) hx hb d_P_depthOf_19 (by decide) ?_
        refine lv_goto hx hb d_P_depthOf_20 rfl ?_
        exact x_reti hQ hx hb hr hlk rfl hw (by omega) (by omega) d_P_depthOf_24 (⟨congrArg nI (by unfold pd; (repeat' split) <;> omega), rfl⟩)
    · refine lv_iconst (v := nI 1) hx hb d_P_depthOf_11 (by decide) ?_
      exact x_reti hQ hx hb hr hlk rfl hw (by omega) (by omega) d_P_depthOf_12 (⟨congrArg nI (by unfold pd; (repeat' split) <;> omega), rfl⟩)
  · refine lv_iconst (v := nI 0) hx hb d_P_depthOf_4 (by decide) ?_
    exact x_reti hQ hx hb hr hlk rfl hw (by omega) (by omega) d_P_depthOf_5 (⟨congrArg nI (by unfold pd; (repeat' split) <;> omega), rfl⟩)

set_option maxHeartbeats 4000000 in
set_option maxRecDepth 100000 in
theorem c_P_weight {l : Launch} {E : Ev} {M : mp_M} {sz : Nat} {n : Nat} (hn : n < 2 ^ 31) : MCi l E y_P_weightAt prog_4_method_4_code 1 (some .int) 0 0 0 0 [.int (nI n)] M sz (fun r M' => r = nI (pu n) ∧ M' = M) := by
  refine mc_of R_P rfl [some (.int (nI n))] (by decide) (Nat.le_of_ble_eq_true rfl) rfl ?_
  intro p e R s m ag below meth c ls Q A X hAe hQ hR hsz hw hl
  rw [← hAe] at hQ
  obtain ⟨⟨hx, hb, hml, hown, hts⟩, hE, hA, hr, hlk, hnm⟩ := X
  have hK := hE.1
  refine x_iload_n hx hb d_P_weightAt_0 hl rfl ?_
  rcases (show n = 0 ∨ n = 1 ∨ n = 2 ∨ 3 ≤ n by omega) with rfl | rfl | rfl | hn3
  · refine lv_tableIn (off := 27) hx hb d_P_weightAt_1 (by decide) (by decide) rfl rfl ?_
    refine lv_iconst (v := nI 1) hx hb d_P_weightAt_28 (by decide) ?_
    exact x_reti hQ hx hb hr hlk rfl hw (by omega) (by omega) d_P_weightAt_29 (⟨congrArg nI (by unfold pu; (repeat' split) <;> omega), rfl⟩)
  · refine lv_tableIn (off := 29) hx hb d_P_weightAt_1 (by decide) (by decide) rfl rfl ?_
    refine lv_iconst (v := nI 5) hx hb d_P_weightAt_30 (by decide) ?_
    exact x_reti hQ hx hb hr hlk rfl hw (by omega) (by omega) d_P_weightAt_31 (⟨congrArg nI (by unfold pu; (repeat' split) <;> omega), rfl⟩)
  · refine lv_tableIn (off := 31) hx hb d_P_weightAt_1 (by decide) (by decide) rfl rfl ?_
    refine lv_bipush (v := nI 25) hx hb d_P_weightAt_32 (by decide) ?_
    exact x_reti hQ hx hb hr hlk rfl hw (by omega) (by omega) d_P_weightAt_34 (⟨congrArg nI (by unfold pu; (repeat' split) <;> omega), rfl⟩)
  · refine lv_tableOut hx hb d_P_weightAt_1 (Or.inr (by rw [nI_toInt (by omega)]; omega)) rfl ?_
    refine lv_bipush (v := nI 125) hx hb d_P_weightAt_35 (by decide) ?_
    exact x_reti hQ hx hb hr hlk rfl hw (by omega) (by omega) d_P_weightAt_37 (⟨congrArg nI (by unfold pu; (repeat' split) <;> omega), rfl⟩)

set_option maxHeartbeats 4000000 in
set_option maxRecDepth 100000 in
theorem c_P_parent {l : Launch} {E : Ev} {M : mp_M} {sz : Nat} {n : Nat} (hn : n < 2 ^ 31) : MCi l E y_P_parentOf prog_4_method_5_code 1 (some .int) 1 20 0 0 [.int (nI n)] M sz (fun r M' => r = nI (pp n) ∧ M' = M) := by
  refine mc_of R_P rfl [some (.int (nI n))] (by decide) (Nat.le_of_ble_eq_true rfl) rfl ?_
  intro p e R s m ag below meth c ls Q A X hAe hQ hR hsz hw hl
  rw [← hAe] at hQ
  obtain ⟨⟨hx, hb, hml, hown, hts⟩, hE, hA, hr, hlk, hnm⟩ := X
  have hK := hE.1
  refine x_iload_n hx hb d_P_parentOf_0 hl rfl ?_
  refine x_if_gt hx hb d_P_parentOf_1 rfl (by omega) (fun h1 => ?_) (fun h1 => ?_)
  · refine x_iload_n hx hb d_P_parentOf_8 hl rfl ?_
    refine x_iload_n hx hb d_P_parentOf_9 hl rfl ?_
    refine m_calli (k_S ⟨hx, hb, hml, hown, hts⟩ hE hA hw (c_P_depth (by omega)) (wm1 190 rfl rfl) (wm1 191 rfl rfl) (wm1 10 rfl rfl) (wm1 192 rfl rfl) rfl rfl ar_P_depthOf ⟨Nat.le_trans (Nat.le_of_ble_eq_true rfl) hR.1, Nat.le_trans (Nat.le_of_ble_eq_true rfl) hR.2.1⟩ rfl hl.1 rfl (Nat.le_of_ble_eq_true rfl) d_P_parentOf_10 ⟨Nat.le_trans (Nat.le_of_ble_eq_true rfl) hR.2.2.1, Nat.le_trans (Nat.le_of_ble_eq_true rfl) hR.2.2.2⟩) hw (mfr_in hw hA) (fun r10 M10 H locs hP10 hw => ?_)
    obtain ⟨rfl, hM10⟩ := hP10
    rw [hM10] at hw
    have hd1 := pd_pos h1
    have hd3 := pd_le n
    refine lv_iconst (v := nI 1) hx hb d_P_parentOf_13 (by decide) ?_
    refine x_isub hx hb d_P_parentOf_14 (by omega) ?_
    refine m_calli (k_S ⟨hx, hb, hml, hown, hts⟩ hE hA hw (c_P_weight (by omega)) (wm1 193 rfl rfl) (wm1 194 rfl rfl) (wm1 10 rfl rfl) (wm1 195 rfl rfl) rfl rfl ar_P_weightAt ⟨Nat.le_trans (Nat.le_of_ble_eq_true rfl) hR.1, Nat.le_trans (Nat.le_of_ble_eq_true rfl) hR.2.1⟩ rfl hl.1 rfl (Nat.le_of_ble_eq_true rfl) d_P_parentOf_15 ⟨Nat.le_trans (Nat.le_of_ble_eq_true rfl) hR.2.2.1, Nat.le_trans (Nat.le_of_ble_eq_true rfl) hR.2.2.2⟩) hw (mfr_in hw hA) (fun r15 M15 H locs hP15 hw => ?_)
    obtain ⟨rfl, hM15⟩ := hP15
    rw [hM15] at hw
    have hu := pu_lt (pd n - 1)
    refine x_irem hx hb d_P_parentOf_18 (by omega) (by omega) (by omega) ?_
    exact x_reti hQ hx hb hr hlk rfl hw (by omega) (by omega) d_P_parentOf_19 (⟨by first | rfl | (subst h1; rfl), rfl⟩)
  · refine lv_iconst (v := nI 0) hx hb d_P_parentOf_4 (by decide) ?_
    refine lv_goto hx hb d_P_parentOf_5 rfl ?_
    exact x_reti hQ hx hb hr hlk rfl hw (by omega) (by omega) d_P_parentOf_19 (⟨by first | rfl | (subst h1; rfl), rfl⟩)

set_option maxHeartbeats 4000000 in
set_option maxRecDepth 100000 in
theorem c_P_names {l : Launch} {E : Ev} {M : mp_M} {sz : Nat} {n : Nat} (hn : n < 2 ^ 31) : MCi l E y_P_namesBelow prog_4_method_6_code 1 (some .int) 1 20 0 0 [.int (nI n)] M sz (fun r M' => r = nI (if pd n < 3 then 4 else 0) ∧ M' = M) := by
  refine mc_of R_P rfl [some (.int (nI n))] (by decide) (Nat.le_of_ble_eq_true rfl) rfl ?_
  intro p e R s m ag below meth c ls Q A X hAe hQ hR hsz hw hl
  rw [← hAe] at hQ
  obtain ⟨⟨hx, hb, hml, hown, hts⟩, hE, hA, hr, hlk, hnm⟩ := X
  have hK := hE.1
  refine x_iload_n hx hb d_P_namesBelow_0 hl rfl ?_
  refine m_calli (k_S ⟨hx, hb, hml, hown, hts⟩ hE hA hw (c_P_depth (by omega)) (wm1 190 rfl rfl) (wm1 191 rfl rfl) (wm1 10 rfl rfl) (wm1 192 rfl rfl) rfl rfl ar_P_depthOf ⟨Nat.le_trans (Nat.le_of_ble_eq_true rfl) hR.1, Nat.le_trans (Nat.le_of_ble_eq_true rfl) hR.2.1⟩ rfl hl.1 rfl (Nat.le_of_ble_eq_true rfl) d_P_namesBelow_1 ⟨Nat.le_trans (Nat.le_of_ble_eq_true rfl) hR.2.2.1, Nat.le_trans (Nat.le_of_ble_eq_true rfl) hR.2.2.2⟩) hw (mfr_in hw hA) (fun r1 M1 H locs hP1 hw => ?_)
  obtain ⟨rfl, hM1⟩ := hP1
  rw [hM1] at hw
  have hd3 := pd_le n
  refine lv_iconst (v := nI 3) hx hb d_P_namesBelow_4 (by decide) ?_
  refine x_icmp_ge hx hb d_P_namesBelow_5 rfl (by omega) (by omega) (fun h5 => ?_) (fun h5 => ?_)
  · refine lv_iconst (v := nI 0) hx hb d_P_namesBelow_12 (by decide) ?_
    exact x_reti hQ hx hb hr hlk rfl hw (by omega) (by omega) d_P_namesBelow_13 (⟨congrArg nI (by split <;> omega), rfl⟩)
  · refine lv_iconst (v := nI 4) hx hb d_P_namesBelow_8 (by decide) ?_
    refine lv_goto hx hb d_P_namesBelow_9 rfl ?_
    exact x_reti hQ hx hb hr hlk rfl hw (by omega) (by omega) d_P_namesBelow_13 (⟨congrArg nI (by split <;> omega), rfl⟩)

set_option maxHeartbeats 4000000 in
set_option maxRecDepth 100000 in
theorem c_P_child {l : Launch} {E : Ev} {M : mp_M} {sz : Nat} {n k : Nat} (hn : n < 125) (hk : k < 125) : MCi l E y_P_childOf prog_4_method_7_code 2 (some .int) 1 20 0 0 [.int (nI n), .int (nI k)] M sz (fun r M' => r = nI (n + k * pu (pd n)) ∧ M' = M) := by
  refine mc_of R_P rfl [some (.int (nI n)), some (.int (nI k))] (by decide) (Nat.le_of_ble_eq_true rfl) rfl ?_
  intro p e R s m ag below meth c ls Q A X hAe hQ hR hsz hw hl
  rw [← hAe] at hQ
  obtain ⟨⟨hx, hb, hml, hown, hts⟩, hE, hA, hr, hlk, hnm⟩ := X
  have hK := hE.1
  refine x_iload_n hx hb d_P_childOf_0 hl rfl ?_
  refine x_iload_n hx hb d_P_childOf_1 hl rfl ?_
  refine x_iload_n hx hb d_P_childOf_2 hl rfl ?_
  refine m_calli (k_S ⟨hx, hb, hml, hown, hts⟩ hE hA hw (c_P_depth (by omega)) (wm1 190 rfl rfl) (wm1 191 rfl rfl) (wm1 10 rfl rfl) (wm1 192 rfl rfl) rfl rfl ar_P_depthOf ⟨Nat.le_trans (Nat.le_of_ble_eq_true rfl) hR.1, Nat.le_trans (Nat.le_of_ble_eq_true rfl) hR.2.1⟩ rfl hl.1 rfl (Nat.le_of_ble_eq_true rfl) d_P_childOf_3 ⟨Nat.le_trans (Nat.le_of_ble_eq_true rfl) hR.2.2.1, Nat.le_trans (Nat.le_of_ble_eq_true rfl) hR.2.2.2⟩) hw (mfr_in hw hA) (fun r3 M3 H locs hP3 hw => ?_)
  obtain ⟨rfl, hM3⟩ := hP3
  rw [hM3] at hw
  have hd3 := pd_le n
  refine m_calli (k_S ⟨hx, hb, hml, hown, hts⟩ hE hA hw (c_P_weight (by omega)) (wm1 193 rfl rfl) (wm1 194 rfl rfl) (wm1 10 rfl rfl) (wm1 195 rfl rfl) rfl rfl ar_P_weightAt ⟨Nat.le_trans (Nat.le_of_ble_eq_true rfl) hR.1, Nat.le_trans (Nat.le_of_ble_eq_true rfl) hR.2.1⟩ rfl hl.1 rfl (Nat.le_of_ble_eq_true rfl) d_P_childOf_6 ⟨Nat.le_trans (Nat.le_of_ble_eq_true rfl) hR.2.2.1, Nat.le_trans (Nat.le_of_ble_eq_true rfl) hR.2.2.2⟩) hw (mfr_in hw hA) (fun r6 M6 H locs hP6 hw => ?_)
  obtain ⟨rfl, hM6⟩ := hP6
  rw [hM6] at hw
  first | refine x_imul hx hb d_P_childOf_9 ?_ | refine lv_imul hx hb d_P_childOf_9 ?_
  first | refine x_iadd hx hb d_P_childOf_10 ?_ | refine lv_iadd hx hb d_P_childOf_10 ?_
  exact x_reti hQ hx hb hr hlk rfl hw (by omega) (by omega) d_P_childOf_11 (⟨rfl, rfl⟩)

set_option maxHeartbeats 4000000 in
set_option maxRecDepth 100000 in
theorem c_P_under {l : Launch} {E : Ev} {M : mp_M} {sz : Nat} {w n : Nat} (hw1 : w < 125) (hn : n < 125) : MCi l E y_P_isAtOrBelow prog_4_method_8_code 2 (some .boolean) 1 20 0 0 [.int (nI w), .int (nI n)] M sz (fun r M' => r = bz (pun w n) ∧ M' = M) := by
  refine mc_of R_P rfl [some (.int (nI w)), some (.int (nI n))] (by decide) (Nat.le_of_ble_eq_true rfl) rfl ?_
  intro p e R s m ag below meth c ls Q A X hAe hQ hR hsz hw hl
  rw [← hAe] at hQ
  obtain ⟨⟨hx, hb, hml, hown, hts⟩, hE, hA, hr, hlk, hnm⟩ := X
  have hK := hE.1
  refine x_iload_n hx hb d_P_isAtOrBelow_0 hl rfl ?_
  refine m_calli (k_S ⟨hx, hb, hml, hown, hts⟩ hE hA hw (c_P_depth (by omega)) (wm1 190 rfl rfl) (wm1 191 rfl rfl) (wm1 10 rfl rfl) (wm1 192 rfl rfl) rfl rfl ar_P_depthOf ⟨Nat.le_trans (Nat.le_of_ble_eq_true rfl) hR.1, Nat.le_trans (Nat.le_of_ble_eq_true rfl) hR.2.1⟩ rfl hl.1 rfl (Nat.le_of_ble_eq_true rfl) d_P_isAtOrBelow_1 ⟨Nat.le_trans (Nat.le_of_ble_eq_true rfl) hR.2.2.1, Nat.le_trans (Nat.le_of_ble_eq_true rfl) hR.2.2.2⟩) hw (mfr_in hw hA) (fun r1 M1 H locs hP1 hw => ?_)
  obtain ⟨rfl, hM1⟩ := hP1
  rw [hM1] at hw
  refine x_iload_n hx hb d_P_isAtOrBelow_4 hl rfl ?_
  refine m_calli (k_S ⟨hx, hb, hml, hown, hts⟩ hE hA hw (c_P_depth (by omega)) (wm1 190 rfl rfl) (wm1 191 rfl rfl) (wm1 10 rfl rfl) (wm1 192 rfl rfl) rfl rfl ar_P_depthOf ⟨Nat.le_trans (Nat.le_of_ble_eq_true rfl) hR.1, Nat.le_trans (Nat.le_of_ble_eq_true rfl) hR.2.1⟩ rfl hl.1 rfl (Nat.le_of_ble_eq_true rfl) d_P_isAtOrBelow_5 ⟨Nat.le_trans (Nat.le_of_ble_eq_true rfl) hR.2.2.1, Nat.le_trans (Nat.le_of_ble_eq_true rfl) hR.2.2.2⟩) hw (mfr_in hw hA) (fun r5 M5 H locs hP5 hw => ?_)
  obtain ⟨rfl, hM5⟩ := hP5
  rw [hM5] at hw
  have hd3 := pd_le n
  have hd4 := pd_le w
  refine x_icmp_lt hx hb d_P_isAtOrBelow_8 rfl (by omega) (by omega) (fun h8 => ?_) (fun h8 => ?_)
  · refine lv_iconst (v := nI 0) hx hb d_P_isAtOrBelow_28 (by decide) ?_
    exact x_reti hQ hx hb hr hlk (by first | exact nar_bz | decide) hw (by omega) (by omega) d_P_isAtOrBelow_29 (⟨by first | exact bz_t (beq_iff_eq.mpr h21) | exact bz_f (fun z => h21 (beq_iff_eq.mp z)) | exact bz_f (fun z => by have z := pun_pd hw1 hn z; omega), rfl⟩)
  · refine x_iload_n hx hb d_P_isAtOrBelow_11 hl rfl ?_
    refine x_iload_n hx hb d_P_isAtOrBelow_12 hl rfl ?_
    refine m_calli (k_S ⟨hx, hb, hml, hown, hts⟩ hE hA hw (c_P_depth (by omega)) (wm1 190 rfl rfl) (wm1 191 rfl rfl) (wm1 10 rfl rfl) (wm1 192 rfl rfl) rfl rfl ar_P_depthOf ⟨Nat.le_trans (Nat.le_of_ble_eq_true rfl) hR.1, Nat.le_trans (Nat.le_of_ble_eq_true rfl) hR.2.1⟩ rfl hl.1 rfl (Nat.le_of_ble_eq_true rfl) d_P_isAtOrBelow_13 ⟨Nat.le_trans (Nat.le_of_ble_eq_true rfl) hR.2.2.1, Nat.le_trans (Nat.le_of_ble_eq_true rfl) hR.2.2.2⟩) hw (mfr_in hw hA) (fun r13 M13 H locs hP13 hw => ?_)
    obtain ⟨rfl, hM13⟩ := hP13
    rw [hM13] at hw
    refine m_calli (k_S ⟨hx, hb, hml, hown, hts⟩ hE hA hw (c_P_weight (by omega)) (wm1 193 rfl rfl) (wm1 194 rfl rfl) (wm1 10 rfl rfl) (wm1 195 rfl rfl) rfl rfl ar_P_weightAt ⟨Nat.le_trans (Nat.le_of_ble_eq_true rfl) hR.1, Nat.le_trans (Nat.le_of_ble_eq_true rfl) hR.2.1⟩ rfl hl.1 rfl (Nat.le_of_ble_eq_true rfl) d_P_isAtOrBelow_16 ⟨Nat.le_trans (Nat.le_of_ble_eq_true rfl) hR.2.2.1, Nat.le_trans (Nat.le_of_ble_eq_true rfl) hR.2.2.2⟩) hw (mfr_in hw hA) (fun r16 M16 H locs hP16 hw => ?_)
    obtain ⟨rfl, hM16⟩ := hP16
    rw [hM16] at hw
    have hu := pu_lt (pd n)
    refine x_irem hx hb d_P_isAtOrBelow_19 (by omega) (by omega) (by omega) ?_
    have hm := Nat.mod_lt w (pu_lt (pd n)).1
    refine x_iload_n hx hb d_P_isAtOrBelow_20 hl rfl ?_
    refine x_icmp_ne hx hb d_P_isAtOrBelow_21 rfl (by omega) (by omega) (fun h21 => ?_) (fun h21 => ?_)
    · refine lv_iconst (v := nI 0) hx hb d_P_isAtOrBelow_28 (by decide) ?_
      exact x_reti hQ hx hb hr hlk (by first | exact nar_bz | decide) hw (by omega) (by omega) d_P_isAtOrBelow_29 (⟨by first | exact bz_t (beq_iff_eq.mpr h21) | exact bz_f (fun z => h21 (beq_iff_eq.mp z)) | exact bz_f (fun z => by have z := pun_pd hw1 hn z; omega), rfl⟩)
    · refine lv_iconst (v := nI 1) hx hb d_P_isAtOrBelow_24 (by decide) ?_
      refine lv_goto hx hb d_P_isAtOrBelow_25 rfl ?_
      exact x_reti hQ hx hb hr hlk (by first | exact nar_bz | decide) hw (by omega) (by omega) d_P_isAtOrBelow_29 (⟨by first | exact bz_t (beq_iff_eq.mpr h21) | exact bz_f (fun z => h21 (beq_iff_eq.mp z)) | exact bz_f (fun z => by have z := pun_pd hw1 hn z; omega), rfl⟩)

set_option maxHeartbeats 4000000 in
set_option maxRecDepth 100000 in
theorem c_P_moved {l : Launch} {E : Ev} {M : mp_M} {sz : Nat} {w f g : Nat} (hw1 : w < 125) (hf : f < 125) (hg : g < 125) : MCi l E y_P_moved prog_4_method_9_code 3 (some .int) 1 20 0 0 [.int (nI w), .int (nI f), .int (nI g)] M sz (fun r M' => r = nI (pm w f g) ∧ M' = M) := by
  refine mc_of R_P rfl [some (.int (nI w)), some (.int (nI f)), some (.int (nI g))] (by decide) (Nat.le_of_ble_eq_true rfl) rfl ?_
  intro p e R s m ag below meth c ls Q A X hAe hQ hR hsz hw hl
  rw [← hAe] at hQ
  obtain ⟨⟨hx, hb, hml, hown, hts⟩, hE, hA, hr, hlk, hnm⟩ := X
  have hK := hE.1
  refine x_iload_n hx hb d_P_moved_0 hl rfl ?_
  refine x_iload_n hx hb d_P_moved_1 hl rfl ?_
  refine x_iload_n hx hb d_P_moved_2 hl rfl ?_
  refine m_calli (k_S ⟨hx, hb, hml, hown, hts⟩ hE hA hw (c_P_depth (by omega)) (wm1 190 rfl rfl) (wm1 191 rfl rfl) (wm1 10 rfl rfl) (wm1 192 rfl rfl) rfl rfl ar_P_depthOf ⟨Nat.le_trans (Nat.le_of_ble_eq_true rfl) hR.1, Nat.le_trans (Nat.le_of_ble_eq_true rfl) hR.2.1⟩ rfl hl.1 rfl (Nat.le_of_ble_eq_true rfl) d_P_moved_3 ⟨Nat.le_trans (Nat.le_of_ble_eq_true rfl) hR.2.2.1, Nat.le_trans (Nat.le_of_ble_eq_true rfl) hR.2.2.2⟩) hw (mfr_in hw hA) (fun r3 M3 H locs hP3 hw => ?_)
  obtain ⟨rfl, hM3⟩ := hP3
  rw [hM3] at hw
  have d3 := pd_le f
  refine m_calli (k_S ⟨hx, hb, hml, hown, hts⟩ hE hA hw (c_P_weight (by omega)) (wm1 193 rfl rfl) (wm1 194 rfl rfl) (wm1 10 rfl rfl) (wm1 195 rfl rfl) rfl rfl ar_P_weightAt ⟨Nat.le_trans (Nat.le_of_ble_eq_true rfl) hR.1, Nat.le_trans (Nat.le_of_ble_eq_true rfl) hR.2.1⟩ rfl hl.1 rfl (Nat.le_of_ble_eq_true rfl) d_P_moved_6 ⟨Nat.le_trans (Nat.le_of_ble_eq_true rfl) hR.2.2.1, Nat.le_trans (Nat.le_of_ble_eq_true rfl) hR.2.2.2⟩) hw (mfr_in hw hA) (fun r6 M6 H locs hP6 hw => ?_)
  obtain ⟨rfl, hM6⟩ := hP6
  rw [hM6] at hw
  have hu := pu_lt (pd f)
  refine x_idiv hx hb d_P_moved_9 (by omega) (by omega) (by omega) ?_
  refine x_iload_n hx hb d_P_moved_10 hl rfl ?_
  refine m_calli (k_S ⟨hx, hb, hml, hown, hts⟩ hE hA hw (c_P_depth (by omega)) (wm1 190 rfl rfl) (wm1 191 rfl rfl) (wm1 10 rfl rfl) (wm1 192 rfl rfl) rfl rfl ar_P_depthOf ⟨Nat.le_trans (Nat.le_of_ble_eq_true rfl) hR.1, Nat.le_trans (Nat.le_of_ble_eq_true rfl) hR.2.1⟩ rfl hl.1 rfl (Nat.le_of_ble_eq_true rfl) d_P_moved_11 ⟨Nat.le_trans (Nat.le_of_ble_eq_true rfl) hR.2.2.1, Nat.le_trans (Nat.le_of_ble_eq_true rfl) hR.2.2.2⟩) hw (mfr_in hw hA) (fun r11 M11 H locs hP11 hw => ?_)
  obtain ⟨rfl, hM11⟩ := hP11
  rw [hM11] at hw
  have d1 := pd_le g
  refine m_calli (k_S ⟨hx, hb, hml, hown, hts⟩ hE hA hw (c_P_weight (by omega)) (wm1 193 rfl rfl) (wm1 194 rfl rfl) (wm1 10 rfl rfl) (wm1 195 rfl rfl) rfl rfl ar_P_weightAt ⟨Nat.le_trans (Nat.le_of_ble_eq_true rfl) hR.1, Nat.le_trans (Nat.le_of_ble_eq_true rfl) hR.2.1⟩ rfl hl.1 rfl (Nat.le_of_ble_eq_true rfl) d_P_moved_14 ⟨Nat.le_trans (Nat.le_of_ble_eq_true rfl) hR.2.2.1, Nat.le_trans (Nat.le_of_ble_eq_true rfl) hR.2.2.2⟩) hw (mfr_in hw hA) (fun r14 M14 H locs hP14 hw => ?_)
  obtain ⟨rfl, hM14⟩ := hP14
  rw [hM14] at hw
  first | refine x_imul hx hb d_P_moved_17 ?_ | refine lv_imul hx hb d_P_moved_17 ?_
  first | refine x_iadd hx hb d_P_moved_18 ?_ | refine lv_iadd hx hb d_P_moved_18 ?_
  exact x_reti hQ hx hb hr hlk rfl hw (by omega) (by omega) d_P_moved_19 (⟨rfl, rfl⟩)
end
section
theorem d_M_at_0 : decode prog_10_method_8_code 0 = .ok (.iload_n 2, 1) := by decide +kernel
theorem d_M_at_1 : decode prog_10_method_8_code 1 = .ok (.invokestatic 79, 3) := by decide +kernel
theorem d_M_at_4 : decode prog_10_method_8_code 4 = .ok (.ifCond .eq 17, 3) := by decide +kernel
theorem d_M_at_7 : decode prog_10_method_8_code 7 = .ok (.aload_n 0, 1) := by decide +kernel
theorem d_M_at_8 : decode prog_10_method_8_code 8 = .ok (.getfield 7, 3) := by decide +kernel
theorem d_M_at_11 : decode prog_10_method_8_code 11 = .ok (.bipush 125, 2) := by decide +kernel
theorem d_M_at_13 : decode prog_10_method_8_code 13 = .ok (.iload_n 1, 1) := by decide +kernel
theorem d_M_at_14 : decode prog_10_method_8_code 14 = .ok (.imul, 1) := by decide +kernel
theorem d_M_at_15 : decode prog_10_method_8_code 15 = .ok (.iload_n 2, 1) := by decide +kernel
theorem d_M_at_16 : decode prog_10_method_8_code 16 = .ok (.iadd, 1) := by decide +kernel
theorem d_M_at_17 : decode prog_10_method_8_code 17 = .ok (.saload, 1) := by decide +kernel
theorem d_M_at_18 : decode prog_10_method_8_code 18 = .ok (.goto 4, 3) := by decide +kernel
theorem d_M_at_21 : decode prog_10_method_8_code 21 = .ok (.iconst 0, 1) := by decide +kernel
theorem d_M_at_22 : decode prog_10_method_8_code 22 = .ok (.ireturn, 1) := by decide +kernel

theorem d_M_isOpen_0 : decode prog_10_method_9_code 0 = .ok (.iload_n 1, 1) := by decide +kernel
theorem d_M_isOpen_1 : decode prog_10_method_9_code 1 = .ok (.ifCond .lt 21, 3) := by decide +kernel
theorem d_M_isOpen_4 : decode prog_10_method_9_code 4 = .ok (.iload_n 1, 1) := by decide +kernel
theorem d_M_isOpen_5 : decode prog_10_method_9_code 5 = .ok (.iconst 2, 1) := by decide +kernel
theorem d_M_isOpen_6 : decode prog_10_method_9_code 6 = .ok (.if_icmp .gt 16, 3) := by decide +kernel
theorem d_M_isOpen_9 : decode prog_10_method_9_code 9 = .ok (.aload_n 0, 1) := by decide +kernel
theorem d_M_isOpen_10 : decode prog_10_method_9_code 10 = .ok (.getfield 13, 3) := by decide +kernel
theorem d_M_isOpen_13 : decode prog_10_method_9_code 13 = .ok (.iload_n 1, 1) := by decide +kernel
theorem d_M_isOpen_14 : decode prog_10_method_9_code 14 = .ok (.baload, 1) := by decide +kernel
theorem d_M_isOpen_15 : decode prog_10_method_9_code 15 = .ok (.ifCond .eq 7, 3) := by decide +kernel
theorem d_M_isOpen_18 : decode prog_10_method_9_code 18 = .ok (.iconst 1, 1) := by decide +kernel
theorem d_M_isOpen_19 : decode prog_10_method_9_code 19 = .ok (.goto 4, 3) := by decide +kernel
theorem d_M_isOpen_22 : decode prog_10_method_9_code 22 = .ok (.iconst 0, 1) := by decide +kernel
theorem d_M_isOpen_23 : decode prog_10_method_9_code 23 = .ok (.ireturn, 1) := by decide +kernel

theorem d_M_place_0 : decode prog_10_method_13_code 0 = .ok (.aload_n 0, 1) := by decide +kernel
theorem d_M_place_1 : decode prog_10_method_13_code 1 = .ok (.getfield 7, 3) := by decide +kernel
theorem d_M_place_4 : decode prog_10_method_13_code 4 = .ok (.sipush 2000, 3) := by decide +kernel
theorem d_M_place_7 : decode prog_10_method_13_code 7 = .ok (.bipush 125, 2) := by decide +kernel
theorem d_M_place_9 : decode prog_10_method_13_code 9 = .ok (.iload_n 1, 1) := by decide +kernel
theorem d_M_place_10 : decode prog_10_method_13_code 10 = .ok (.imul, 1) := by decide +kernel
theorem d_M_place_11 : decode prog_10_method_13_code 11 = .ok (.iadd, 1) := by decide +kernel
theorem d_M_place_12 : decode prog_10_method_13_code 12 = .ok (.iload_n 2, 1) := by decide +kernel
theorem d_M_place_13 : decode prog_10_method_13_code 13 = .ok (.iadd, 1) := by decide +kernel
theorem d_M_place_14 : decode prog_10_method_13_code 14 = .ok (.iload_n 3, 1) := by decide +kernel
theorem d_M_place_15 : decode prog_10_method_13_code 15 = .ok (.i2s, 1) := by decide +kernel
theorem d_M_place_16 : decode prog_10_method_13_code 16 = .ok (.sastore, 1) := by decide +kernel
theorem d_M_place_17 : decode prog_10_method_13_code 17 = .ok (.return_, 1) := by decide +kernel

theorem d_M_fill_0 : decode prog_10_method_10_code 0 = .ok (.iconst 0, 1) := by decide +kernel
theorem d_M_fill_1 : decode prog_10_method_10_code 1 = .ok (.istore_n 3, 1) := by decide +kernel
theorem d_M_fill_2 : decode prog_10_method_10_code 2 = .ok (.iload_n 3, 1) := by decide +kernel
theorem d_M_fill_3 : decode prog_10_method_10_code 3 = .ok (.bipush 125, 2) := by decide +kernel
theorem d_M_fill_5 : decode prog_10_method_10_code 5 = .ok (.if_icmp .ge 31, 3) := by decide +kernel
theorem d_M_fill_8 : decode prog_10_method_10_code 8 = .ok (.aload_n 0, 1) := by decide +kernel
theorem d_M_fill_9 : decode prog_10_method_10_code 9 = .ok (.getfield 7, 3) := by decide +kernel
theorem d_M_fill_12 : decode prog_10_method_10_code 12 = .ok (.bipush 125, 2) := by decide +kernel
theorem d_M_fill_14 : decode prog_10_method_10_code 14 = .ok (.iload_n 1, 1) := by decide +kernel
theorem d_M_fill_15 : decode prog_10_method_10_code 15 = .ok (.imul, 1) := by decide +kernel
theorem d_M_fill_16 : decode prog_10_method_10_code 16 = .ok (.iload_n 3, 1) := by decide +kernel
theorem d_M_fill_17 : decode prog_10_method_10_code 17 = .ok (.iadd, 1) := by decide +kernel
theorem d_M_fill_18 : decode prog_10_method_10_code 18 = .ok (.aload_n 0, 1) := by decide +kernel
theorem d_M_fill_19 : decode prog_10_method_10_code 19 = .ok (.getfield 7, 3) := by decide +kernel
theorem d_M_fill_22 : decode prog_10_method_10_code 22 = .ok (.bipush 125, 2) := by decide +kernel
theorem d_M_fill_24 : decode prog_10_method_10_code 24 = .ok (.iload_n 2, 1) := by decide +kernel
theorem d_M_fill_25 : decode prog_10_method_10_code 25 = .ok (.imul, 1) := by decide +kernel
theorem d_M_fill_26 : decode prog_10_method_10_code 26 = .ok (.iload_n 3, 1) := by decide +kernel
theorem d_M_fill_27 : decode prog_10_method_10_code 27 = .ok (.iadd, 1) := by decide +kernel
theorem d_M_fill_28 : decode prog_10_method_10_code 28 = .ok (.saload, 1) := by decide +kernel
theorem d_M_fill_29 : decode prog_10_method_10_code 29 = .ok (.sastore, 1) := by decide +kernel
theorem d_M_fill_30 : decode prog_10_method_10_code 30 = .ok (.iinc 3 1, 3) := by decide +kernel
theorem d_M_fill_33 : decode prog_10_method_10_code 33 = .ok (.goto (-31), 3) := by decide +kernel
theorem d_M_fill_36 : decode prog_10_method_10_code 36 = .ok (.return_, 1) := by decide +kernel
set_option maxHeartbeats 4000000 in
set_option maxRecDepth 100000 in
theorem c_M_at {l : Launch} {E : Ev} {σ : SS} {ad : Nat → Nat} (hI : rfI ad) (hB : rB σ) {sz : Nat} {k : Nat} {x : Int32} (hk : k < 19) : MCi l E y_M_at prog_10_method_8_code 3 (some .int) 1 21 0 0 [.ref (ad 0), .int (nI k), .int x] (rfM E σ ad) sz (fun r M' => (r = nI (rat σ k (ix x)) ∧ rat σ k (ix x) < 32768) ∧ M' = rfM E σ ad) := by
  refine mc_of R_M rfl [some (.ref (ad 0)), some (.int (nI k)), some (.int x)] (by decide) (Nat.le_of_ble_eq_true rfl) rfl ?_
  intro p e R s m ag below meth c ls Q A X hAe hQ hR hsz hw hl
  rw [← hAe] at hQ
  obtain ⟨⟨hx, hb, hml, hown, hts⟩, hE, hA, hr, hlk, hnm⟩ := X
  have hK := hE.1
  refine x_iload_n hx hb d_M_at_0 hl rfl ?_
  refine m_calli (k_S ⟨hx, hb, hml, hown, hts⟩ hE hA hw (c_M_good) (wm3 161 rfl rfl) (wm3 162 rfl rfl) (wm1 9 rfl rfl) (wm3 163 rfl rfl) rfl rfl ar_M_good ⟨Nat.le_trans (Nat.le_of_ble_eq_true rfl) hR.1, Nat.le_trans (Nat.le_of_ble_eq_true rfl) hR.2.1⟩ rfl hl.1 rfl (Nat.le_of_ble_eq_true rfl) d_M_at_1 ⟨Nat.le_trans (Nat.le_of_ble_eq_true rfl) hR.2.2.1, Nat.le_trans (Nat.le_of_ble_eq_true rfl) hR.2.2.2⟩) hw (mfr_in hw hA) (fun r1 M1 H locs hP1 hw => ?_)
  obtain ⟨rfl, hM1⟩ := hP1
  rw [hM1] at hw
  refine x_if_eqB hx hb d_M_at_4 rfl (fun h4 => ?_) (fun h4 => ?_)
  · refine lv_iconst (v := nI 0) hx hb d_M_at_21 (by decide) ?_
    exact x_reti hQ hx hb hr hlk rfl hw (by omega) (by omega) d_M_at_22 (⟨⟨by first | (unfold rat; rw [if_pos h4, ix_n hj]) | (unfold rat; rw [if_neg (by rw [h4]; decide)]), rat_lt hB⟩, rfl⟩)
  · obtain ⟨j, hj, rfl⟩ := ix_good h4
    first | refine x_aload_n hx hb d_M_at_7 hl rfl ?_ | refine x_aload_nQ hx hb d_M_at_7 hl rfl ?_
    refine m_get hx hb hts hown hK hw ci_M (rf_at hI 0 (by decide) rfl) 0 (by decide) (wm3 72 rfl rfl) rfl d_M_at_8 ?_
    refine lv_bipush (v := nI 125) hx hb d_M_at_11 (by decide) ?_
    refine x_iload_n hx hb d_M_at_13 hl rfl ?_
    first | refine x_imul hx hb d_M_at_14 ?_ | refine lv_imul hx hb d_M_at_14 ?_
    refine x_iload_n hx hb d_M_at_15 hl rfl ?_
    first | refine x_iadd hx hb d_M_at_16 ?_ | refine lv_iadd hx hb d_M_at_16 ?_
    refine rl_0 hx hb hK hI hB hw (by omega) d_M_at_17 (fun hv17 => ?_)
    refine lv_goto hx hb d_M_at_18 rfl ?_
    exact x_reti hQ hx hb hr hlk rfl hw (by omega) (by omega) d_M_at_22 (⟨⟨by first | (unfold rat; rw [if_pos h4, ix_n hj]) | (unfold rat; rw [if_neg (by rw [h4]; decide)]), rat_lt hB⟩, rfl⟩)

set_option maxHeartbeats 4000000 in
set_option maxRecDepth 100000 in
theorem c_M_isOpen {l : Launch} {E : Ev} {σ : SS} {ad : Nat → Nat} (hI : rfI ad) (hB : rB σ) {sz : Nat} {x : Int32} : MCi l E y_M_isOpen prog_10_method_9_code 2 (some .boolean) 0 0 0 0 [.ref (ad 0), .int x] (rfM E σ ad) sz (fun r M' => r = bz (opb σ (tx x)) ∧ M' = rfM E σ ad) := by
  refine mc_of R_M rfl [some (.ref (ad 0)), some (.int x)] (by decide) (Nat.le_of_ble_eq_true rfl) rfl ?_
  intro p e R s m ag below meth c ls Q A X hAe hQ hR hsz hw hl
  rw [← hAe] at hQ
  obtain ⟨⟨hx, hb, hml, hown, hts⟩, hE, hA, hr, hlk, hnm⟩ := X
  have hK := hE.1
  refine x_iload_n hx hb d_M_isOpen_0 hl rfl ?_
  refine lv_if_lt hx hb d_M_isOpen_1 rfl (fun h1 => ?_) (fun h1 => ?_)
  · refine lv_iconst (v := nI 0) hx hb d_M_isOpen_22 (by decide) ?_
    exact x_reti hQ hx hb hr hlk (by first | exact nar_bz | decide) hw (by omega) (by omega) d_M_isOpen_23 (⟨by first | (rw [tx_lt h1]; exact bz_f opb_3) | (rw [tx_gt h6]; exact bz_f opb_3) | (rw [tx_n (by omega)]; exact bz_f (opb_f h15)) | (rw [tx_n (by omega)]; exact bz_t (opb_t (by omega) h15)), rfl⟩)
  · refine x_iload_n hx hb d_M_isOpen_4 hl rfl ?_
    refine lv_iconst (v := nI 2) hx hb d_M_isOpen_5 (by decide) ?_
    refine lv_icmp_gt hx hb d_M_isOpen_6 rfl (fun h6 => ?_) (fun h6 => ?_)
    · refine lv_iconst (v := nI 0) hx hb d_M_isOpen_22 (by decide) ?_
      exact x_reti hQ hx hb hr hlk (by first | exact nar_bz | decide) hw (by omega) (by omega) d_M_isOpen_23 (⟨by first | (rw [tx_lt h1]; exact bz_f opb_3) | (rw [tx_gt h6]; exact bz_f opb_3) | (rw [tx_n (by omega)]; exact bz_f (opb_f h15)) | (rw [tx_n (by omega)]; exact bz_t (opb_t (by omega) h15)), rfl⟩)
    · obtain ⟨t, ht, rfl⟩ := nI_of2b (M := nI 2) (n := 2) (by decide) h1 h6
      first | refine x_aload_n hx hb d_M_isOpen_9 hl rfl ?_ | refine x_aload_nQ hx hb d_M_isOpen_9 hl rfl ?_
      refine m_get hx hb hts hown hK hw ci_M (rf_at hI 0 (by decide) rfl) 2 (by decide) (wm3 74 rfl rfl) rfl d_M_isOpen_10 ?_
      refine x_iload_n hx hb d_M_isOpen_13 hl rfl ?_
      refine rl_2 hx hb hK hI hB hw (by omega) d_M_isOpen_14 (fun hv14 => ?_)
      refine x_if_eq hx hb d_M_isOpen_15 rfl (by omega) (fun h15 => ?_) (fun h15 => ?_)
      · refine lv_iconst (v := nI 0) hx hb d_M_isOpen_22 (by decide) ?_
        exact x_reti hQ hx hb hr hlk (by first | exact nar_bz | decide) hw (by omega) (by omega) d_M_isOpen_23 (⟨by first | (rw [tx_lt h1]; exact bz_f opb_3) | (rw [tx_gt h6]; exact bz_f opb_3) | (rw [tx_n (by omega)]; exact bz_f (opb_f h15)) | (rw [tx_n (by omega)]; exact bz_t (opb_t (by omega) h15)), rfl⟩)
      · refine lv_iconst (v := nI 1) hx hb d_M_isOpen_18 (by decide) ?_
        refine lv_goto hx hb d_M_isOpen_19 rfl ?_
        exact x_reti hQ hx hb hr hlk (by first | exact nar_bz | decide) hw (by omega) (by omega) d_M_isOpen_23 (⟨by first | (rw [tx_lt h1]; exact bz_f opb_3) | (rw [tx_gt h6]; exact bz_f opb_3) | (rw [tx_n (by omega)]; exact bz_f (opb_f h15)) | (rw [tx_n (by omega)]; exact bz_t (opb_t (by omega) h15)), rfl⟩)

set_option maxHeartbeats 4000000 in
set_option maxRecDepth 100000 in
theorem c_M_place {l : Launch} {E : Ev} {σ : SS} {ad : Nat → Nat} (hI : rfI ad) (hB : rB σ) {sz : Nat} {t q n : Nat} (ht : t < 3) (hq : q < 125) (hn : n < 32768) : MCv l E y_M_place prog_10_method_13_code 4 none 0 0 0 0 [.ref (ad 0), .int (nI t), .int (nI q), .int (nI n)] (rfM E σ ad) sz (fun M' => M' = rfM E (plc σ t q n) ad ∧ rB (plc σ t q n)) := by
  refine mc_of R_M rfl [some (.ref (ad 0)), some (.int (nI t)), some (.int (nI q)), some (.int (nI n))] (by decide) (Nat.le_of_ble_eq_true rfl) rfl ?_
  intro p e R s m ag below meth c ls Q A X hAe hQ hR hsz hw hl
  rw [← hAe] at hQ
  obtain ⟨⟨hx, hb, hml, hown, hts⟩, hE, hA, hr, hlk, hnm⟩ := X
  have hK := hE.1
  first | refine x_aload_n hx hb d_M_place_0 hl rfl ?_ | refine x_aload_nQ hx hb d_M_place_0 hl rfl ?_
  refine m_get hx hb hts hown hK hw ci_M (rf_at hI 0 (by decide) rfl) 0 (by decide) (wm3 72 rfl rfl) rfl d_M_place_1 ?_
  refine lv_sipush (v := nI 2000) hx hb d_M_place_4 (by decide) ?_
  refine lv_bipush (v := nI 125) hx hb d_M_place_7 (by decide) ?_
  refine x_iload_n hx hb d_M_place_9 hl rfl ?_
  first | refine x_imul hx hb d_M_place_10 ?_ | refine lv_imul hx hb d_M_place_10 ?_
  first | refine x_iadd hx hb d_M_place_11 ?_ | refine lv_iadd hx hb d_M_place_11 ?_
  refine x_iload_n hx hb d_M_place_12 hl rfl ?_
  first | refine x_iadd hx hb d_M_place_13 ?_ | refine lv_iadd hx hb d_M_place_13 ?_
  refine x_iload_n hx hb d_M_place_14 hl rfl ?_
  first | refine x_i2s hx hb d_M_place_15 (by omega) ?_ | refine lv_i2s hx hb d_M_place_15 rfl ?_
  refine rs_0 hx hb hK hI hB hw (by omega) (by omega) d_M_place_16 (fun H locs hw hB => ?_)
  exact x_retv hQ hx hb hr hlk hw (by omega) (by omega) d_M_place_17 (⟨rfl, hB⟩)

set_option maxHeartbeats 4000000 in
set_option maxRecDepth 100000 in
theorem c_M_fill {l : Launch} {E : Ev} {σ : SS} {ad : Nat → Nat} (hI : rfI ad) (hB : rB σ) {sz : Nat} {a b : Nat} (ha : a < 19) (hb1 : b < 19) (hab : a ≠ b) : MCv l E y_M_fill prog_10_method_10_code 4 none 0 0 0 0 [.ref (ad 0), .int (nI a), .int (nI b)] (rfM E σ ad) sz (fun M' => M' = rfM E (fil σ a b 125) ad ∧ rB (fil σ a b 125)) := by
  refine mc_of R_M rfl [some (.ref (ad 0)), some (.int (nI a)), some (.int (nI b)), none] (by decide) (Nat.le_of_ble_eq_true rfl) rfl ?_
  intro p e R s m ag below meth c ls Q A X hAe hQ hR hsz hw hl
  rw [← hAe] at hQ
  obtain ⟨⟨hx, hb, hml, hown, hts⟩, hE, hA, hr, hlk, hnm⟩ := X
  have hK := hE.1
  have loop : ∀ (k i : Nat) (H : Heap) (locs : List Loc) (ls : Array Slot), i + k = 125 → mw E.1 vwCl A s.heap (rfM E (fil σ a b i) ad) H locs → lh ls [some (.ref (ad 0)), some (.int (nI a)), some (.int (nI b)), some (.int (nI i))] → W p l e R s m ag below meth c H locs 0 0 Q (F0 m 2 ls []) := by
    intro k
    induction k with
    | zero =>
      intro i H locs ls hi hw hl
      obtain rfl : i = 125 := by omega
      refine x_iload_n hx hb d_M_fill_2 hl rfl ?_
      refine lv_bipush (v := nI 125) hx hb d_M_fill_3 (by decide) ?_
      refine x_icmp_ge hx hb d_M_fill_5 rfl (by omega) (by omega) (fun h5 => ?_) (fun h5 => ?_)
      · exact x_retv hQ hx hb hr hlk hw (by omega) (by omega) d_M_fill_36 (⟨rfl, rB_fil hB⟩)
      · exact absurd h5 (by omega)
    | succ k ih =>
      intro i H locs ls hi hw hl
      have hB := rB_fil (a := a) (b := b) (i := i) hB
      refine x_iload_n hx hb d_M_fill_2 hl rfl ?_
      refine lv_bipush (v := nI 125) hx hb d_M_fill_3 (by decide) ?_
      refine x_icmp_ge hx hb d_M_fill_5 rfl (by omega) (by omega) (fun h5 => ?_) (fun h5 => ?_)
      · exact absurd h5 (by omega)
      · first | refine x_aload_n hx hb d_M_fill_8 hl rfl ?_ | refine x_aload_nQ hx hb d_M_fill_8 hl rfl ?_
        refine m_get hx hb hts hown hK hw ci_M (rf_at hI 0 (by decide) rfl) 0 (by decide) (wm3 72 rfl rfl) rfl d_M_fill_9 ?_
        refine lv_bipush (v := nI 125) hx hb d_M_fill_12 (by decide) ?_
        refine x_iload_n hx hb d_M_fill_14 hl rfl ?_
        first | refine x_imul hx hb d_M_fill_15 ?_ | refine lv_imul hx hb d_M_fill_15 ?_
        refine x_iload_n hx hb d_M_fill_16 hl rfl ?_
        first | refine x_iadd hx hb d_M_fill_17 ?_ | refine lv_iadd hx hb d_M_fill_17 ?_
        first | refine x_aload_n hx hb d_M_fill_18 hl rfl ?_ | refine x_aload_nQ hx hb d_M_fill_18 hl rfl ?_
        refine m_get hx hb hts hown hK hw ci_M (rf_at hI 0 (by decide) rfl) 0 (by decide) (wm3 72 rfl rfl) rfl d_M_fill_19 ?_
        refine lv_bipush (v := nI 125) hx hb d_M_fill_22 (by decide) ?_
        refine x_iload_n hx hb d_M_fill_24 hl rfl ?_
        first | refine x_imul hx hb d_M_fill_25 ?_ | refine lv_imul hx hb d_M_fill_25 ?_
        refine x_iload_n hx hb d_M_fill_26 hl rfl ?_
        first | refine x_iadd hx hb d_M_fill_27 ?_ | refine lv_iadd hx hb d_M_fill_27 ?_
        refine rl_0 hx hb hK hI hB hw (by omega) d_M_fill_28 (fun hv28 => ?_)
        refine rs_0 hx hb hK hI hB hw (by omega) (by omega) d_M_fill_29 (fun H locs hw hB => ?_)
        refine x_iincN hx hb d_M_fill_30 hl rfl (lh_k (i := 2) rfl (by first | exact lk_n | exact lk_i | exact lk_r | exact lk_q | exact lk_0)) (fun ls hl => ?_)
        refine lv_goto hx hb d_M_fill_33 rfl ?_
        exact ih (i + 1) H locs ls (by omega) (by rw [← fil_s (by omega) hab]; exact hw) hl
  refine lv_iconst (v := nI 0) hx hb d_M_fill_0 (by decide) ?_
  refine x_istore_n hx hb d_M_fill_1 hl (Nat.le_of_ble_eq_true rfl) (lh_k (i := 2) rfl (by first | exact lk_n | exact lk_i | exact lk_r | exact lk_q | exact lk_0)) (fun ls hl => ?_)
  exact loop 125 0 _ _ _ (by omega) (by rw [fil_0]; exact hw) hl
end
section
theorem d_M_node_0 : decode prog_10_method_12_code 0 = .ok (.aload_n 0, 1) := by decide +kernel
theorem d_M_node_1 : decode prog_10_method_12_code 1 = .ok (.dup, 1) := by decide +kernel
theorem d_M_node_2 : decode prog_10_method_12_code 2 = .ok (.getfield 65, 3) := by decide +kernel
theorem d_M_node_5 : decode prog_10_method_12_code 5 = .ok (.iconst 1, 1) := by decide +kernel
theorem d_M_node_6 : decode prog_10_method_12_code 6 = .ok (.iadd, 1) := by decide +kernel
theorem d_M_node_7 : decode prog_10_method_12_code 7 = .ok (.putfield 65, 3) := by decide +kernel
theorem d_M_node_10 : decode prog_10_method_12_code 10 = .ok (.aload_n 0, 1) := by decide +kernel
theorem d_M_node_11 : decode prog_10_method_12_code 11 = .ok (.getfield 21, 3) := by decide +kernel
theorem d_M_node_14 : decode prog_10_method_12_code 14 = .ok (.aload_n 0, 1) := by decide +kernel
theorem d_M_node_15 : decode prog_10_method_12_code 15 = .ok (.getfield 65, 3) := by decide +kernel
theorem d_M_node_18 : decode prog_10_method_12_code 18 = .ok (.iload_n 2, 1) := by decide +kernel
theorem d_M_node_19 : decode prog_10_method_12_code 19 = .ok (.i2b, 1) := by decide +kernel
theorem d_M_node_20 : decode prog_10_method_12_code 20 = .ok (.bastore, 1) := by decide +kernel
theorem d_M_node_21 : decode prog_10_method_12_code 21 = .ok (.aload_n 0, 1) := by decide +kernel
theorem d_M_node_22 : decode prog_10_method_12_code 22 = .ok (.getfield 41, 3) := by decide +kernel
theorem d_M_node_25 : decode prog_10_method_12_code 25 = .ok (.aload_n 0, 1) := by decide +kernel
theorem d_M_node_26 : decode prog_10_method_12_code 26 = .ok (.getfield 65, 3) := by decide +kernel
theorem d_M_node_29 : decode prog_10_method_12_code 29 = .ok (.iconst (-1), 1) := by decide +kernel
theorem d_M_node_30 : decode prog_10_method_12_code 30 = .ok (.iload_n 1, 1) := by decide +kernel
theorem d_M_node_31 : decode prog_10_method_12_code 31 = .ok (.isub, 1) := by decide +kernel
theorem d_M_node_32 : decode prog_10_method_12_code 32 = .ok (.i2b, 1) := by decide +kernel
theorem d_M_node_33 : decode prog_10_method_12_code 33 = .ok (.bastore, 1) := by decide +kernel
theorem d_M_node_34 : decode prog_10_method_12_code 34 = .ok (.aload_n 0, 1) := by decide +kernel
theorem d_M_node_35 : decode prog_10_method_12_code 35 = .ok (.getfield 44, 3) := by decide +kernel
theorem d_M_node_38 : decode prog_10_method_12_code 38 = .ok (.aload_n 0, 1) := by decide +kernel
theorem d_M_node_39 : decode prog_10_method_12_code 39 = .ok (.getfield 65, 3) := by decide +kernel
theorem d_M_node_42 : decode prog_10_method_12_code 42 = .ok (.iload_n 3, 1) := by decide +kernel
theorem d_M_node_43 : decode prog_10_method_12_code 43 = .ok (.i2s, 1) := by decide +kernel
theorem d_M_node_44 : decode prog_10_method_12_code 44 = .ok (.sastore, 1) := by decide +kernel
theorem d_M_node_45 : decode prog_10_method_12_code 45 = .ok (.aload_n 0, 1) := by decide +kernel
theorem d_M_node_46 : decode prog_10_method_12_code 46 = .ok (.getfield 38, 3) := by decide +kernel
theorem d_M_node_49 : decode prog_10_method_12_code 49 = .ok (.aload_n 0, 1) := by decide +kernel
theorem d_M_node_50 : decode prog_10_method_12_code 50 = .ok (.getfield 65, 3) := by decide +kernel
theorem d_M_node_53 : decode prog_10_method_12_code 53 = .ok (.iload_n 3, 1) := by decide +kernel
theorem d_M_node_54 : decode prog_10_method_12_code 54 = .ok (.ifCond .ne 7, 3) := by decide +kernel
theorem d_M_node_57 : decode prog_10_method_12_code 57 = .ok (.iconst 0, 1) := by decide +kernel
theorem d_M_node_58 : decode prog_10_method_12_code 58 = .ok (.goto 11, 3) := by decide +kernel
theorem d_M_node_61 : decode prog_10_method_12_code 61 = .ok (.aload_n 0, 1) := by decide +kernel
theorem d_M_node_62 : decode prog_10_method_12_code 62 = .ok (.getfield 38, 3) := by decide +kernel
theorem d_M_node_65 : decode prog_10_method_12_code 65 = .ok (.iload_n 3, 1) := by decide +kernel
theorem d_M_node_66 : decode prog_10_method_12_code 66 = .ok (.saload, 1) := by decide +kernel
theorem d_M_node_67 : decode prog_10_method_12_code 67 = .ok (.iconst 1, 1) := by decide +kernel
theorem d_M_node_68 : decode prog_10_method_12_code 68 = .ok (.iadd, 1) := by decide +kernel
theorem d_M_node_69 : decode prog_10_method_12_code 69 = .ok (.i2s, 1) := by decide +kernel
theorem d_M_node_70 : decode prog_10_method_12_code 70 = .ok (.sastore, 1) := by decide +kernel
theorem d_M_node_71 : decode prog_10_method_12_code 71 = .ok (.aload_n 0, 1) := by decide +kernel
theorem d_M_node_72 : decode prog_10_method_12_code 72 = .ok (.getfield 25, 3) := by decide +kernel
theorem d_M_node_75 : decode prog_10_method_12_code 75 = .ok (.aload_n 0, 1) := by decide +kernel
theorem d_M_node_76 : decode prog_10_method_12_code 76 = .ok (.getfield 65, 3) := by decide +kernel
theorem d_M_node_79 : decode prog_10_method_12_code 79 = .ok (.iload_n 3, 1) := by decide +kernel
theorem d_M_node_80 : decode prog_10_method_12_code 80 = .ok (.ifCond .ne 7, 3) := by decide +kernel
theorem d_M_node_83 : decode prog_10_method_12_code 83 = .ok (.iconst 0, 1) := by decide +kernel
theorem d_M_node_84 : decode prog_10_method_12_code 84 = .ok (.goto 9, 3) := by decide +kernel
theorem d_M_node_87 : decode prog_10_method_12_code 87 = .ok (.aload_n 0, 1) := by decide +kernel
theorem d_M_node_88 : decode prog_10_method_12_code 88 = .ok (.getfield 25, 3) := by decide +kernel
theorem d_M_node_91 : decode prog_10_method_12_code 91 = .ok (.iload_n 3, 1) := by decide +kernel
theorem d_M_node_92 : decode prog_10_method_12_code 92 = .ok (.baload, 1) := by decide +kernel
theorem d_M_node_93 : decode prog_10_method_12_code 93 = .ok (.bastore, 1) := by decide +kernel
theorem d_M_node_94 : decode prog_10_method_12_code 94 = .ok (.aload_n 0, 1) := by decide +kernel
theorem d_M_node_95 : decode prog_10_method_12_code 95 = .ok (.getfield 31, 3) := by decide +kernel
theorem d_M_node_98 : decode prog_10_method_12_code 98 = .ok (.aload_n 0, 1) := by decide +kernel
theorem d_M_node_99 : decode prog_10_method_12_code 99 = .ok (.getfield 65, 3) := by decide +kernel
theorem d_M_node_102 : decode prog_10_method_12_code 102 = .ok (.iload_n 3, 1) := by decide +kernel
theorem d_M_node_103 : decode prog_10_method_12_code 103 = .ok (.ifCond .ne 7, 3) := by decide +kernel
theorem d_M_node_106 : decode prog_10_method_12_code 106 = .ok (.lconst 0, 1) := by decide +kernel
theorem d_M_node_107 : decode prog_10_method_12_code 107 = .ok (.goto 9, 3) := by decide +kernel
theorem d_M_node_110 : decode prog_10_method_12_code 110 = .ok (.aload_n 0, 1) := by decide +kernel
theorem d_M_node_111 : decode prog_10_method_12_code 111 = .ok (.getfield 31, 3) := by decide +kernel
theorem d_M_node_114 : decode prog_10_method_12_code 114 = .ok (.iload_n 3, 1) := by decide +kernel
theorem d_M_node_115 : decode prog_10_method_12_code 115 = .ok (.laload, 1) := by decide +kernel
theorem d_M_node_116 : decode prog_10_method_12_code 116 = .ok (.lastore, 1) := by decide +kernel
theorem d_M_node_117 : decode prog_10_method_12_code 117 = .ok (.aload_n 0, 1) := by decide +kernel
theorem d_M_node_118 : decode prog_10_method_12_code 118 = .ok (.getfield 50, 3) := by decide +kernel
theorem d_M_node_121 : decode prog_10_method_12_code 121 = .ok (.aload_n 0, 1) := by decide +kernel
theorem d_M_node_122 : decode prog_10_method_12_code 122 = .ok (.getfield 65, 3) := by decide +kernel
theorem d_M_node_125 : decode prog_10_method_12_code 125 = .ok (.iload_n 3, 1) := by decide +kernel
theorem d_M_node_126 : decode prog_10_method_12_code 126 = .ok (.ifCond .ne 7, 3) := by decide +kernel
theorem d_M_node_129 : decode prog_10_method_12_code 129 = .ok (.iconst 0, 1) := by decide +kernel
theorem d_M_node_130 : decode prog_10_method_12_code 130 = .ok (.goto 9, 3) := by decide +kernel
theorem d_M_node_133 : decode prog_10_method_12_code 133 = .ok (.aload_n 0, 1) := by decide +kernel
theorem d_M_node_134 : decode prog_10_method_12_code 134 = .ok (.getfield 50, 3) := by decide +kernel
theorem d_M_node_137 : decode prog_10_method_12_code 137 = .ok (.iload_n 3, 1) := by decide +kernel
theorem d_M_node_138 : decode prog_10_method_12_code 138 = .ok (.saload, 1) := by decide +kernel
theorem d_M_node_139 : decode prog_10_method_12_code 139 = .ok (.sastore, 1) := by decide +kernel
theorem d_M_node_140 : decode prog_10_method_12_code 140 = .ok (.aload_n 0, 1) := by decide +kernel
theorem d_M_node_141 : decode prog_10_method_12_code 141 = .ok (.getfield 35, 3) := by decide +kernel
theorem d_M_node_144 : decode prog_10_method_12_code 144 = .ok (.aload_n 0, 1) := by decide +kernel
theorem d_M_node_145 : decode prog_10_method_12_code 145 = .ok (.getfield 65, 3) := by decide +kernel
theorem d_M_node_148 : decode prog_10_method_12_code 148 = .ok (.iload_n 3, 1) := by decide +kernel
theorem d_M_node_149 : decode prog_10_method_12_code 149 = .ok (.ifCond .ne 7, 3) := by decide +kernel
theorem d_M_node_152 : decode prog_10_method_12_code 152 = .ok (.iconst 0, 1) := by decide +kernel
theorem d_M_node_153 : decode prog_10_method_12_code 153 = .ok (.goto 9, 3) := by decide +kernel
theorem d_M_node_156 : decode prog_10_method_12_code 156 = .ok (.aload_n 0, 1) := by decide +kernel
theorem d_M_node_157 : decode prog_10_method_12_code 157 = .ok (.getfield 35, 3) := by decide +kernel
theorem d_M_node_160 : decode prog_10_method_12_code 160 = .ok (.iload_n 3, 1) := by decide +kernel
theorem d_M_node_161 : decode prog_10_method_12_code 161 = .ok (.saload, 1) := by decide +kernel
theorem d_M_node_162 : decode prog_10_method_12_code 162 = .ok (.sastore, 1) := by decide +kernel
theorem d_M_node_163 : decode prog_10_method_12_code 163 = .ok (.aload_n 0, 1) := by decide +kernel
theorem d_M_node_164 : decode prog_10_method_12_code 164 = .ok (.getfield 65, 3) := by decide +kernel
theorem d_M_node_167 : decode prog_10_method_12_code 167 = .ok (.ireturn, 1) := by decide +kernel
set_option maxHeartbeats 4000000 in
set_option maxRecDepth 100000 in
theorem c_M_node0 {l : Launch} {E : Ev} {σ : SS} {ad : Nat → Nat} (hI : rfI ad) (hB : rB σ) {sz : Nat} {t w : Nat} (ht : t < 3) (hw1 : w < 128) (hn : σ 4 0 + 1 < 1300) : MCi l E y_M_node prog_10_method_12_code 4 (some .int) 0 0 0 0 [.ref (ad 0), .int (nI t), .int (nI w), .int (nI 0)] (rfM E σ ad) sz (fun r M' => r = nI (σ 4 0 + 1) ∧ M' = rfM E (nod0 σ t w) ad ∧ rB (nod0 σ t w)) := by
  refine mc_of R_M rfl [some (.ref (ad 0)), some (.int (nI t)), some (.int (nI w)), some (.int (nI 0))] (by decide) (Nat.le_of_ble_eq_true rfl) rfl ?_
  intro p e R s m ag below meth c ls Q A X hAe hQ hR hsz hw hl
  rw [← hAe] at hQ
  obtain ⟨⟨hx, hb, hml, hown, hts⟩, hE, hA, hr, hlk, hnm⟩ := X
  have hK := hE.1
  first | refine x_aload_n hx hb d_M_node_0 hl rfl ?_ | refine x_aload_nQ hx hb d_M_node_0 hl rfl ?_
  first | refine lv_dup hx hb d_M_node_1 rfl ?_ | refine lv_dup hx hb d_M_node_1 (va_rf_c _) ?_
  refine m_get hx hb hts hown hK hw ci_M (rf_at hI 0 (by decide) rfl) 4 (by decide) (wm3 76 rfl rfl) rfl d_M_node_2 ?_
  have hs2 := hB 4 0 (by decide) (by decide)
  refine lv_iconst (v := nI 1) hx hb d_M_node_5 (by decide) ?_
  first | refine x_iadd hx hb d_M_node_6 ?_ | refine lv_iadd hx hb d_M_node_6 ?_
  refine rp_4 hx hb hts hown hK hI hB hw (wm3 76 rfl rfl) (by omega) d_M_node_7 (fun H locs hw hB => ?_)
  first | refine x_aload_n hx hb d_M_node_10 hl rfl ?_ | refine x_aload_nQ hx hb d_M_node_10 hl rfl ?_
  refine m_get hx hb hts hown hK hw ci_M (rf_at hI 0 (by decide) rfl) 6 (by decide) (wm3 78 rfl rfl) rfl d_M_node_11 ?_
  first | refine x_aload_n hx hb d_M_node_14 hl rfl ?_ | refine x_aload_nQ hx hb d_M_node_14 hl rfl ?_
  refine m_get (v := .int (nI (σ 4 0 + 1))) hx hb hts hown hK hw ci_M (rf_at hI 0 (by decide) rfl) 4 (by decide) (wm3 76 rfl rfl) rfl d_M_node_15 ?_
  refine x_iload_n hx hb d_M_node_18 hl rfl ?_
  first | refine x_i2b hx hb d_M_node_19 (by omega) ?_ | refine lv_i2b hx hb d_M_node_19 rfl ?_
  refine rs_6 hx hb hK hI hB hw (by omega) (by omega) d_M_node_20 (fun H locs hw hB => ?_)
  first | refine x_aload_n hx hb d_M_node_21 hl rfl ?_ | refine x_aload_nQ hx hb d_M_node_21 hl rfl ?_
  refine m_get hx hb hts hown hK hw ci_M (rf_at hI 0 (by decide) rfl) 12 (by decide) (wm3 84 rfl rfl) rfl d_M_node_22 ?_
  first | refine x_aload_n hx hb d_M_node_25 hl rfl ?_ | refine x_aload_nQ hx hb d_M_node_25 hl rfl ?_
  refine m_get (v := .int (nI (σ 4 0 + 1))) hx hb hts hown hK hw ci_M (rf_at hI 0 (by decide) rfl) 4 (by decide) (wm3 76 rfl rfl) rfl d_M_node_26 ?_
  refine lv_iconst (v := -1) hx hb d_M_node_29 (by decide) ?_
  refine x_iload_n hx hb d_M_node_30 hl rfl ?_
  refine lv_isub hx hb d_M_node_31 ?_
  refine lv_i2b (v := bI (255 - t)) hx hb d_M_node_32 (bI_t ht) ?_
  refine rs_12 hx hb hK hI hB hw (by omega) (by omega) d_M_node_33 (fun H locs hw hB => ?_)
  first | refine x_aload_n hx hb d_M_node_34 hl rfl ?_ | refine x_aload_nQ hx hb d_M_node_34 hl rfl ?_
  refine m_get hx hb hts hown hK hw ci_M (rf_at hI 0 (by decide) rfl) 13 (by decide) (wm3 85 rfl rfl) rfl d_M_node_35 ?_
  first | refine x_aload_n hx hb d_M_node_38 hl rfl ?_ | refine x_aload_nQ hx hb d_M_node_38 hl rfl ?_
  refine m_get (v := .int (nI (σ 4 0 + 1))) hx hb hts hown hK hw ci_M (rf_at hI 0 (by decide) rfl) 4 (by decide) (wm3 76 rfl rfl) rfl d_M_node_39 ?_
  refine x_iload_n hx hb d_M_node_42 hl rfl ?_
  first | refine x_i2s hx hb d_M_node_43 (by omega) ?_ | refine lv_i2s hx hb d_M_node_43 rfl ?_
  refine rs_13 hx hb hK hI hB hw (by omega) (by omega) d_M_node_44 (fun H locs hw hB => ?_)
  first | refine x_aload_n hx hb d_M_node_45 hl rfl ?_ | refine x_aload_nQ hx hb d_M_node_45 hl rfl ?_
  refine m_get hx hb hts hown hK hw ci_M (rf_at hI 0 (by decide) rfl) 11 (by decide) (wm3 83 rfl rfl) rfl d_M_node_46 ?_
  first | refine x_aload_n hx hb d_M_node_49 hl rfl ?_ | refine x_aload_nQ hx hb d_M_node_49 hl rfl ?_
  refine m_get (v := .int (nI (σ 4 0 + 1))) hx hb hts hown hK hw ci_M (rf_at hI 0 (by decide) rfl) 4 (by decide) (wm3 76 rfl rfl) rfl d_M_node_50 ?_
  refine x_iload_n hx hb d_M_node_53 hl rfl ?_
  refine x_if_ne hx hb d_M_node_54 rfl (by omega) (fun h54 => ?_) (fun h54 => ?_)
  · exact absurd h54 (by omega)
  · refine lv_iconst (v := nI 0) hx hb d_M_node_57 (by decide) ?_
    refine lv_goto hx hb d_M_node_58 rfl ?_
    first | refine x_i2s hx hb d_M_node_69 (by omega) ?_ | refine lv_i2s hx hb d_M_node_69 rfl ?_
    refine rs_11 hx hb hK hI hB hw (by omega) (by omega) d_M_node_70 (fun H locs hw hB => ?_)
    first | refine x_aload_n hx hb d_M_node_71 hl rfl ?_ | refine x_aload_nQ hx hb d_M_node_71 hl rfl ?_
    refine m_get hx hb hts hown hK hw ci_M (rf_at hI 0 (by decide) rfl) 7 (by decide) (wm3 79 rfl rfl) rfl d_M_node_72 ?_
    first | refine x_aload_n hx hb d_M_node_75 hl rfl ?_ | refine x_aload_nQ hx hb d_M_node_75 hl rfl ?_
    refine m_get (v := .int (nI (σ 4 0 + 1))) hx hb hts hown hK hw ci_M (rf_at hI 0 (by decide) rfl) 4 (by decide) (wm3 76 rfl rfl) rfl d_M_node_76 ?_
    refine x_iload_n hx hb d_M_node_79 hl rfl ?_
    refine x_if_ne hx hb d_M_node_80 rfl (by omega) (fun h80 => ?_) (fun h80 => ?_)
    · exact absurd h80 (by omega)
    · refine lv_iconst (v := nI 0) hx hb d_M_node_83 (by decide) ?_
      refine lv_goto hx hb d_M_node_84 rfl ?_
      refine rs_7 hx hb hK hI hB hw (by omega) (by omega) d_M_node_93 (fun H locs hw hB => ?_)
      first | refine x_aload_n hx hb d_M_node_94 hl rfl ?_ | refine x_aload_nQ hx hb d_M_node_94 hl rfl ?_
      refine m_get hx hb hts hown hK hw ci_M (rf_at hI 0 (by decide) rfl) 9 (by decide) (wm3 81 rfl rfl) rfl d_M_node_95 ?_
      first | refine x_aload_n hx hb d_M_node_98 hl rfl ?_ | refine x_aload_nQ hx hb d_M_node_98 hl rfl ?_
      refine m_get (v := .int (nI (σ 4 0 + 1))) hx hb hts hown hK hw ci_M (rf_at hI 0 (by decide) rfl) 4 (by decide) (wm3 76 rfl rfl) rfl d_M_node_99 ?_
      refine x_iload_n hx hb d_M_node_102 hl rfl ?_
      refine x_if_ne hx hb d_M_node_103 rfl (by omega) (fun h103 => ?_) (fun h103 => ?_)
      · exact absurd h103 (by omega)
      · refine lv_lconst (v := 0) hx hb d_M_node_106 (by decide) ?_
        refine lv_goto hx hb d_M_node_107 rfl ?_
        refine rs_9 hx hb hK hI hB hw (by omega) d_M_node_116 (fun H locs hw hB => ?_)
        first | refine x_aload_n hx hb d_M_node_117 hl rfl ?_ | refine x_aload_nQ hx hb d_M_node_117 hl rfl ?_
        refine m_get hx hb hts hown hK hw ci_M (rf_at hI 0 (by decide) rfl) 15 (by decide) (wm3 87 rfl rfl) rfl d_M_node_118 ?_
        first | refine x_aload_n hx hb d_M_node_121 hl rfl ?_ | refine x_aload_nQ hx hb d_M_node_121 hl rfl ?_
        refine m_get (v := .int (nI (σ 4 0 + 1))) hx hb hts hown hK hw ci_M (rf_at hI 0 (by decide) rfl) 4 (by decide) (wm3 76 rfl rfl) rfl d_M_node_122 ?_
        refine x_iload_n hx hb d_M_node_125 hl rfl ?_
        refine x_if_ne hx hb d_M_node_126 rfl (by omega) (fun h126 => ?_) (fun h126 => ?_)
        · exact absurd h126 (by omega)
        · refine lv_iconst (v := nI 0) hx hb d_M_node_129 (by decide) ?_
          refine lv_goto hx hb d_M_node_130 rfl ?_
          refine rs_15 hx hb hK hI hB hw (by omega) (by omega) d_M_node_139 (fun H locs hw hB => ?_)
          first | refine x_aload_n hx hb d_M_node_140 hl rfl ?_ | refine x_aload_nQ hx hb d_M_node_140 hl rfl ?_
          refine m_get hx hb hts hown hK hw ci_M (rf_at hI 0 (by decide) rfl) 10 (by decide) (wm3 82 rfl rfl) rfl d_M_node_141 ?_
          first | refine x_aload_n hx hb d_M_node_144 hl rfl ?_ | refine x_aload_nQ hx hb d_M_node_144 hl rfl ?_
          refine m_get (v := .int (nI (σ 4 0 + 1))) hx hb hts hown hK hw ci_M (rf_at hI 0 (by decide) rfl) 4 (by decide) (wm3 76 rfl rfl) rfl d_M_node_145 ?_
          refine x_iload_n hx hb d_M_node_148 hl rfl ?_
          refine x_if_ne hx hb d_M_node_149 rfl (by omega) (fun h149 => ?_) (fun h149 => ?_)
          · exact absurd h149 (by omega)
          · refine lv_iconst (v := nI 0) hx hb d_M_node_152 (by decide) ?_
            refine lv_goto hx hb d_M_node_153 rfl ?_
            refine rs_10 hx hb hK hI hB hw (by omega) (by omega) d_M_node_162 (fun H locs hw hB => ?_)
            first | refine x_aload_n hx hb d_M_node_163 hl rfl ?_ | refine x_aload_nQ hx hb d_M_node_163 hl rfl ?_
            refine m_get (v := .int (nI (σ 4 0 + 1))) hx hb hts hown hK hw ci_M (rf_at hI 0 (by decide) rfl) 4 (by decide) (wm3 76 rfl rfl) rfl d_M_node_164 ?_
            exact x_reti hQ hx hb hr hlk rfl hw (by omega) (by omega) d_M_node_167 (⟨rfl, rfl, hB⟩)

set_option maxHeartbeats 4000000 in
set_option maxRecDepth 100000 in
theorem c_M_node1 {l : Launch} {E : Ev} {σ : SS} {ad : Nat → Nat} (hI : rfI ad) (hB : rB σ) {sz : Nat} {t w old : Nat} (ht : t < 3) (hw1 : w < 128) (hn : σ 4 0 + 1 < 1300) (h0 : 0 < old) (ho : old < 1300) (hc : σ 11 old + 1 < 32768) (hz : σ 7 old < 128) : MCi l E y_M_node prog_10_method_12_code 4 (some .int) 0 0 0 0 [.ref (ad 0), .int (nI t), .int (nI w), .int (nI old)] (rfM E σ ad) sz (fun r M' => r = nI (σ 4 0 + 1) ∧ M' = rfM E (nod1 σ t w old) ad ∧ rB (nod1 σ t w old)) := by
  refine mc_of R_M rfl [some (.ref (ad 0)), some (.int (nI t)), some (.int (nI w)), some (.int (nI old))] (by decide) (Nat.le_of_ble_eq_true rfl) rfl ?_
  intro p e R s m ag below meth c ls Q A X hAe hQ hR hsz hw hl
  rw [← hAe] at hQ
  obtain ⟨⟨hx, hb, hml, hown, hts⟩, hE, hA, hr, hlk, hnm⟩ := X
  have hK := hE.1
  first | refine x_aload_n hx hb d_M_node_0 hl rfl ?_ | refine x_aload_nQ hx hb d_M_node_0 hl rfl ?_
  first | refine lv_dup hx hb d_M_node_1 rfl ?_ | refine lv_dup hx hb d_M_node_1 (va_rf_c _) ?_
  refine m_get hx hb hts hown hK hw ci_M (rf_at hI 0 (by decide) rfl) 4 (by decide) (wm3 76 rfl rfl) rfl d_M_node_2 ?_
  have hs2 := hB 4 0 (by decide) (by decide)
  refine lv_iconst (v := nI 1) hx hb d_M_node_5 (by decide) ?_
  first | refine x_iadd hx hb d_M_node_6 ?_ | refine lv_iadd hx hb d_M_node_6 ?_
  refine rp_4 hx hb hts hown hK hI hB hw (wm3 76 rfl rfl) (by omega) d_M_node_7 (fun H locs hw hB => ?_)
  first | refine x_aload_n hx hb d_M_node_10 hl rfl ?_ | refine x_aload_nQ hx hb d_M_node_10 hl rfl ?_
  refine m_get hx hb hts hown hK hw ci_M (rf_at hI 0 (by decide) rfl) 6 (by decide) (wm3 78 rfl rfl) rfl d_M_node_11 ?_
  first | refine x_aload_n hx hb d_M_node_14 hl rfl ?_ | refine x_aload_nQ hx hb d_M_node_14 hl rfl ?_
  refine m_get (v := .int (nI (σ 4 0 + 1))) hx hb hts hown hK hw ci_M (rf_at hI 0 (by decide) rfl) 4 (by decide) (wm3 76 rfl rfl) rfl d_M_node_15 ?_
  refine x_iload_n hx hb d_M_node_18 hl rfl ?_
  first | refine x_i2b hx hb d_M_node_19 (by omega) ?_ | refine lv_i2b hx hb d_M_node_19 rfl ?_
  refine rs_6 hx hb hK hI hB hw (by omega) (by omega) d_M_node_20 (fun H locs hw hB => ?_)
  first | refine x_aload_n hx hb d_M_node_21 hl rfl ?_ | refine x_aload_nQ hx hb d_M_node_21 hl rfl ?_
  refine m_get hx hb hts hown hK hw ci_M (rf_at hI 0 (by decide) rfl) 12 (by decide) (wm3 84 rfl rfl) rfl d_M_node_22 ?_
  first | refine x_aload_n hx hb d_M_node_25 hl rfl ?_ | refine x_aload_nQ hx hb d_M_node_25 hl rfl ?_
  refine m_get (v := .int (nI (σ 4 0 + 1))) hx hb hts hown hK hw ci_M (rf_at hI 0 (by decide) rfl) 4 (by decide) (wm3 76 rfl rfl) rfl d_M_node_26 ?_
  refine lv_iconst (v := -1) hx hb d_M_node_29 (by decide) ?_
  refine x_iload_n hx hb d_M_node_30 hl rfl ?_
  refine lv_isub hx hb d_M_node_31 ?_
  refine lv_i2b (v := bI (255 - t)) hx hb d_M_node_32 (bI_t ht) ?_
  refine rs_12 hx hb hK hI hB hw (by omega) (by omega) d_M_node_33 (fun H locs hw hB => ?_)
  first | refine x_aload_n hx hb d_M_node_34 hl rfl ?_ | refine x_aload_nQ hx hb d_M_node_34 hl rfl ?_
  refine m_get hx hb hts hown hK hw ci_M (rf_at hI 0 (by decide) rfl) 13 (by decide) (wm3 85 rfl rfl) rfl d_M_node_35 ?_
  first | refine x_aload_n hx hb d_M_node_38 hl rfl ?_ | refine x_aload_nQ hx hb d_M_node_38 hl rfl ?_
  refine m_get (v := .int (nI (σ 4 0 + 1))) hx hb hts hown hK hw ci_M (rf_at hI 0 (by decide) rfl) 4 (by decide) (wm3 76 rfl rfl) rfl d_M_node_39 ?_
  refine x_iload_n hx hb d_M_node_42 hl rfl ?_
  first | refine x_i2s hx hb d_M_node_43 (by omega) ?_ | refine lv_i2s hx hb d_M_node_43 rfl ?_
  refine rs_13 hx hb hK hI hB hw (by omega) (by omega) d_M_node_44 (fun H locs hw hB => ?_)
  first | refine x_aload_n hx hb d_M_node_45 hl rfl ?_ | refine x_aload_nQ hx hb d_M_node_45 hl rfl ?_
  refine m_get hx hb hts hown hK hw ci_M (rf_at hI 0 (by decide) rfl) 11 (by decide) (wm3 83 rfl rfl) rfl d_M_node_46 ?_
  first | refine x_aload_n hx hb d_M_node_49 hl rfl ?_ | refine x_aload_nQ hx hb d_M_node_49 hl rfl ?_
  refine m_get (v := .int (nI (σ 4 0 + 1))) hx hb hts hown hK hw ci_M (rf_at hI 0 (by decide) rfl) 4 (by decide) (wm3 76 rfl rfl) rfl d_M_node_50 ?_
  refine x_iload_n hx hb d_M_node_53 hl rfl ?_
  refine x_if_ne hx hb d_M_node_54 rfl (by omega) (fun h54 => ?_) (fun h54 => ?_)
  · first | refine x_aload_n hx hb d_M_node_61 hl rfl ?_ | refine x_aload_nQ hx hb d_M_node_61 hl rfl ?_
    refine m_get hx hb hts hown hK hw ci_M (rf_at hI 0 (by decide) rfl) 11 (by decide) (wm3 83 rfl rfl) rfl d_M_node_62 ?_
    refine x_iload_n hx hb d_M_node_65 hl rfl ?_
    refine rl_11 hx hb hK hI hB hw (by omega) d_M_node_66 (fun hv66 => ?_)
    refine lv_iconst (v := nI 1) hx hb d_M_node_67 (by decide) ?_
    first | refine x_iadd hx hb d_M_node_68 ?_ | refine lv_iadd hx hb d_M_node_68 ?_
    refine x_i2s hx hb d_M_node_69 (show _ from hc) ?_
    refine rs_11 hx hb hK hI hB hw (by omega) hc d_M_node_70 (fun H locs hw hB => ?_)
    first | refine x_aload_n hx hb d_M_node_71 hl rfl ?_ | refine x_aload_nQ hx hb d_M_node_71 hl rfl ?_
    refine m_get hx hb hts hown hK hw ci_M (rf_at hI 0 (by decide) rfl) 7 (by decide) (wm3 79 rfl rfl) rfl d_M_node_72 ?_
    first | refine x_aload_n hx hb d_M_node_75 hl rfl ?_ | refine x_aload_nQ hx hb d_M_node_75 hl rfl ?_
    refine m_get (v := .int (nI (σ 4 0 + 1))) hx hb hts hown hK hw ci_M (rf_at hI 0 (by decide) rfl) 4 (by decide) (wm3 76 rfl rfl) rfl d_M_node_76 ?_
    refine x_iload_n hx hb d_M_node_79 hl rfl ?_
    refine x_if_ne hx hb d_M_node_80 rfl (by omega) (fun h80 => ?_) (fun h80 => ?_)
    · first | refine x_aload_n hx hb d_M_node_87 hl rfl ?_ | refine x_aload_nQ hx hb d_M_node_87 hl rfl ?_
      refine m_get hx hb hts hown hK hw ci_M (rf_at hI 0 (by decide) rfl) 7 (by decide) (wm3 79 rfl rfl) rfl d_M_node_88 ?_
      refine x_iload_n hx hb d_M_node_91 hl rfl ?_
      refine rl_7 hx hb hK hI hB hw (by omega) d_M_node_92 (fun hv92 => ?_)
      refine rs_7 hx hb hK hI hB hw (by omega) hz d_M_node_93 (fun H locs hw hB => ?_)
      first | refine x_aload_n hx hb d_M_node_94 hl rfl ?_ | refine x_aload_nQ hx hb d_M_node_94 hl rfl ?_
      refine m_get hx hb hts hown hK hw ci_M (rf_at hI 0 (by decide) rfl) 9 (by decide) (wm3 81 rfl rfl) rfl d_M_node_95 ?_
      first | refine x_aload_n hx hb d_M_node_98 hl rfl ?_ | refine x_aload_nQ hx hb d_M_node_98 hl rfl ?_
      refine m_get (v := .int (nI (σ 4 0 + 1))) hx hb hts hown hK hw ci_M (rf_at hI 0 (by decide) rfl) 4 (by decide) (wm3 76 rfl rfl) rfl d_M_node_99 ?_
      refine x_iload_n hx hb d_M_node_102 hl rfl ?_
      refine x_if_ne hx hb d_M_node_103 rfl (by omega) (fun h103 => ?_) (fun h103 => ?_)
      · first | refine x_aload_n hx hb d_M_node_110 hl rfl ?_ | refine x_aload_nQ hx hb d_M_node_110 hl rfl ?_
        refine m_get hx hb hts hown hK hw ci_M (rf_at hI 0 (by decide) rfl) 9 (by decide) (wm3 81 rfl rfl) rfl d_M_node_111 ?_
        refine x_iload_n hx hb d_M_node_114 hl rfl ?_
        refine rl_9 hx hb hK hI hw (by omega) d_M_node_115 ?_
        refine rs_9 hx hb hK hI hB hw (by omega) d_M_node_116 (fun H locs hw hB => ?_)
        first | refine x_aload_n hx hb d_M_node_117 hl rfl ?_ | refine x_aload_nQ hx hb d_M_node_117 hl rfl ?_
        refine m_get hx hb hts hown hK hw ci_M (rf_at hI 0 (by decide) rfl) 15 (by decide) (wm3 87 rfl rfl) rfl d_M_node_118 ?_
        first | refine x_aload_n hx hb d_M_node_121 hl rfl ?_ | refine x_aload_nQ hx hb d_M_node_121 hl rfl ?_
        refine m_get (v := .int (nI (σ 4 0 + 1))) hx hb hts hown hK hw ci_M (rf_at hI 0 (by decide) rfl) 4 (by decide) (wm3 76 rfl rfl) rfl d_M_node_122 ?_
        refine x_iload_n hx hb d_M_node_125 hl rfl ?_
        refine x_if_ne hx hb d_M_node_126 rfl (by omega) (fun h126 => ?_) (fun h126 => ?_)
        · first | refine x_aload_n hx hb d_M_node_133 hl rfl ?_ | refine x_aload_nQ hx hb d_M_node_133 hl rfl ?_
          refine m_get hx hb hts hown hK hw ci_M (rf_at hI 0 (by decide) rfl) 15 (by decide) (wm3 87 rfl rfl) rfl d_M_node_134 ?_
          refine x_iload_n hx hb d_M_node_137 hl rfl ?_
          refine rl_15 hx hb hK hI hB hw (by omega) d_M_node_138 (fun hv138 => ?_)
          refine rs_15 hx hb hK hI hB hw (by omega) (by omega) d_M_node_139 (fun H locs hw hB => ?_)
          first | refine x_aload_n hx hb d_M_node_140 hl rfl ?_ | refine x_aload_nQ hx hb d_M_node_140 hl rfl ?_
          refine m_get hx hb hts hown hK hw ci_M (rf_at hI 0 (by decide) rfl) 10 (by decide) (wm3 82 rfl rfl) rfl d_M_node_141 ?_
          first | refine x_aload_n hx hb d_M_node_144 hl rfl ?_ | refine x_aload_nQ hx hb d_M_node_144 hl rfl ?_
          refine m_get (v := .int (nI (σ 4 0 + 1))) hx hb hts hown hK hw ci_M (rf_at hI 0 (by decide) rfl) 4 (by decide) (wm3 76 rfl rfl) rfl d_M_node_145 ?_
          refine x_iload_n hx hb d_M_node_148 hl rfl ?_
          refine x_if_ne hx hb d_M_node_149 rfl (by omega) (fun h149 => ?_) (fun h149 => ?_)
          · first | refine x_aload_n hx hb d_M_node_156 hl rfl ?_ | refine x_aload_nQ hx hb d_M_node_156 hl rfl ?_
            refine m_get hx hb hts hown hK hw ci_M (rf_at hI 0 (by decide) rfl) 10 (by decide) (wm3 82 rfl rfl) rfl d_M_node_157 ?_
            refine x_iload_n hx hb d_M_node_160 hl rfl ?_
            refine rl_10 hx hb hK hI hB hw (by omega) d_M_node_161 (fun hv161 => ?_)
            refine rs_10 hx hb hK hI hB hw (by omega) (by omega) d_M_node_162 (fun H locs hw hB => ?_)
            first | refine x_aload_n hx hb d_M_node_163 hl rfl ?_ | refine x_aload_nQ hx hb d_M_node_163 hl rfl ?_
            refine m_get (v := .int (nI (σ 4 0 + 1))) hx hb hts hown hK hw ci_M (rf_at hI 0 (by decide) rfl) 4 (by decide) (wm3 76 rfl rfl) rfl d_M_node_164 ?_
            exact x_reti hQ hx hb hr hlk rfl hw (by omega) (by omega) d_M_node_167 (⟨rfl, rfl, hB⟩)
          · exact absurd h149 (by omega)
        · exact absurd h126 (by omega)
      · exact absurd h103 (by omega)
    · exact absurd h80 (by omega)
  · exact absurd h54 (by omega)
end
section
theorem d_M_touch_0 : decode prog_10_method_14_code 0 = .ok (.iload_n 2, 1) := by decide +kernel
theorem d_M_touch_1 : decode prog_10_method_14_code 1 = .ok (.istore_n 3, 1) := by decide +kernel
theorem d_M_touch_2 : decode prog_10_method_14_code 2 = .ok (.iload_n 2, 1) := by decide +kernel
theorem d_M_touch_3 : decode prog_10_method_14_code 3 = .ok (.invokestatic 69, 3) := by decide +kernel
theorem d_M_touch_6 : decode prog_10_method_14_code 6 = .ok (.istore 4, 2) := by decide +kernel
theorem d_M_touch_8 : decode prog_10_method_14_code 8 = .ok (.iload 4, 2) := by decide +kernel
theorem d_M_touch_10 : decode prog_10_method_14_code 10 = .ok (.ifCond .lt 68, 3) := by decide +kernel
theorem d_M_touch_13 : decode prog_10_method_14_code 13 = .ok (.aload_n 0, 1) := by decide +kernel
theorem d_M_touch_14 : decode prog_10_method_14_code 14 = .ok (.bipush 16, 2) := by decide +kernel
theorem d_M_touch_16 : decode prog_10_method_14_code 16 = .ok (.iload_n 1, 1) := by decide +kernel
theorem d_M_touch_17 : decode prog_10_method_14_code 17 = .ok (.iadd, 1) := by decide +kernel
theorem d_M_touch_18 : decode prog_10_method_14_code 18 = .ok (.iload_n 3, 1) := by decide +kernel
theorem d_M_touch_19 : decode prog_10_method_14_code 19 = .ok (.invokevirtual 87, 3) := by decide +kernel
theorem d_M_touch_22 : decode prog_10_method_14_code 22 = .ok (.istore 5, 2) := by decide +kernel
theorem d_M_touch_24 : decode prog_10_method_14_code 24 = .ok (.aload_n 0, 1) := by decide +kernel
theorem d_M_touch_25 : decode prog_10_method_14_code 25 = .ok (.getfield 41, 3) := by decide +kernel
theorem d_M_touch_28 : decode prog_10_method_14_code 28 = .ok (.iload 5, 2) := by decide +kernel
theorem d_M_touch_30 : decode prog_10_method_14_code 30 = .ok (.baload, 1) := by decide +kernel
theorem d_M_touch_31 : decode prog_10_method_14_code 31 = .ok (.ifCond .lt 27, 3) := by decide +kernel
theorem d_M_touch_34 : decode prog_10_method_14_code 34 = .ok (.aload_n 0, 1) := by decide +kernel
theorem d_M_touch_35 : decode prog_10_method_14_code 35 = .ok (.iload_n 1, 1) := by decide +kernel
theorem d_M_touch_36 : decode prog_10_method_14_code 36 = .ok (.aload_n 0, 1) := by decide +kernel
theorem d_M_touch_37 : decode prog_10_method_14_code 37 = .ok (.getfield 21, 3) := by decide +kernel
theorem d_M_touch_40 : decode prog_10_method_14_code 40 = .ok (.iload 5, 2) := by decide +kernel
theorem d_M_touch_42 : decode prog_10_method_14_code 42 = .ok (.baload, 1) := by decide +kernel
theorem d_M_touch_43 : decode prog_10_method_14_code 43 = .ok (.iload 5, 2) := by decide +kernel
theorem d_M_touch_45 : decode prog_10_method_14_code 45 = .ok (.invokevirtual 91, 3) := by decide +kernel
theorem d_M_touch_48 : decode prog_10_method_14_code 48 = .ok (.istore 6, 2) := by decide +kernel
theorem d_M_touch_50 : decode prog_10_method_14_code 50 = .ok (.aload_n 0, 1) := by decide +kernel
theorem d_M_touch_51 : decode prog_10_method_14_code 51 = .ok (.iload_n 1, 1) := by decide +kernel
theorem d_M_touch_52 : decode prog_10_method_14_code 52 = .ok (.iload_n 3, 1) := by decide +kernel
theorem d_M_touch_53 : decode prog_10_method_14_code 53 = .ok (.iload 6, 2) := by decide +kernel
theorem d_M_touch_55 : decode prog_10_method_14_code 55 = .ok (.invokevirtual 95, 3) := by decide +kernel
theorem d_M_touch_58 : decode prog_10_method_14_code 58 = .ok (.iload 4, 2) := by decide +kernel
theorem d_M_touch_60 : decode prog_10_method_14_code 60 = .ok (.ifCond .le 10, 3) := by decide +kernel
theorem d_M_touch_63 : decode prog_10_method_14_code 63 = .ok (.iload_n 3, 1) := by decide +kernel
theorem d_M_touch_64 : decode prog_10_method_14_code 64 = .ok (.invokestatic 99, 3) := by decide +kernel
theorem d_M_touch_67 : decode prog_10_method_14_code 67 = .ok (.goto 4, 3) := by decide +kernel
theorem d_M_touch_70 : decode prog_10_method_14_code 70 = .ok (.iconst 0, 1) := by decide +kernel
theorem d_M_touch_71 : decode prog_10_method_14_code 71 = .ok (.istore_n 3, 1) := by decide +kernel
theorem d_M_touch_72 : decode prog_10_method_14_code 72 = .ok (.iinc 4 (-1), 3) := by decide +kernel
theorem d_M_touch_75 : decode prog_10_method_14_code 75 = .ok (.goto (-67), 3) := by decide +kernel
theorem d_M_touch_78 : decode prog_10_method_14_code 78 = .ok (.return_, 1) := by decide +kernel

theorem d_M_room_0 : decode prog_10_method_15_code 0 = .ok (.aload_n 0, 1) := by decide +kernel
theorem d_M_room_1 : decode prog_10_method_15_code 1 = .ok (.iload_n 1, 1) := by decide +kernel
theorem d_M_room_2 : decode prog_10_method_15_code 2 = .ok (.invokevirtual 102, 3) := by decide +kernel
theorem d_M_room_5 : decode prog_10_method_15_code 5 = .ok (.ifCond .eq 26, 3) := by decide +kernel
theorem d_M_room_8 : decode prog_10_method_15_code 8 = .ok (.iload_n 2, 1) := by decide +kernel
theorem d_M_room_9 : decode prog_10_method_15_code 9 = .ok (.invokestatic 79, 3) := by decide +kernel
theorem d_M_room_12 : decode prog_10_method_15_code 12 = .ok (.ifCond .eq 19, 3) := by decide +kernel
theorem d_M_room_15 : decode prog_10_method_15_code 15 = .ok (.iload_n 2, 1) := by decide +kernel
theorem d_M_room_16 : decode prog_10_method_15_code 16 = .ok (.ifCond .eq 15, 3) := by decide +kernel
theorem d_M_room_19 : decode prog_10_method_15_code 19 = .ok (.aload_n 0, 1) := by decide +kernel
theorem d_M_room_20 : decode prog_10_method_15_code 20 = .ok (.bipush 16, 2) := by decide +kernel
theorem d_M_room_22 : decode prog_10_method_15_code 22 = .ok (.iload_n 1, 1) := by decide +kernel
theorem d_M_room_23 : decode prog_10_method_15_code 23 = .ok (.iadd, 1) := by decide +kernel
theorem d_M_room_24 : decode prog_10_method_15_code 24 = .ok (.iload_n 2, 1) := by decide +kernel
theorem d_M_room_25 : decode prog_10_method_15_code 25 = .ok (.invokevirtual 87, 3) := by decide +kernel
theorem d_M_room_28 : decode prog_10_method_15_code 28 = .ok (.ifCond .le 5, 3) := by decide +kernel
theorem d_M_room_31 : decode prog_10_method_15_code 31 = .ok (.iconst 0, 1) := by decide +kernel
theorem d_M_room_32 : decode prog_10_method_15_code 32 = .ok (.ireturn, 1) := by decide +kernel
theorem d_M_room_33 : decode prog_10_method_15_code 33 = .ok (.aload_n 0, 1) := by decide +kernel
theorem d_M_room_34 : decode prog_10_method_15_code 34 = .ok (.bipush 16, 2) := by decide +kernel
theorem d_M_room_36 : decode prog_10_method_15_code 36 = .ok (.iload_n 1, 1) := by decide +kernel
theorem d_M_room_37 : decode prog_10_method_15_code 37 = .ok (.iadd, 1) := by decide +kernel
theorem d_M_room_38 : decode prog_10_method_15_code 38 = .ok (.iload_n 2, 1) := by decide +kernel
theorem d_M_room_39 : decode prog_10_method_15_code 39 = .ok (.invokestatic 99, 3) := by decide +kernel
theorem d_M_room_42 : decode prog_10_method_15_code 42 = .ok (.invokevirtual 87, 3) := by decide +kernel
theorem d_M_room_45 : decode prog_10_method_15_code 45 = .ok (.istore_n 3, 1) := by decide +kernel
theorem d_M_room_46 : decode prog_10_method_15_code 46 = .ok (.iload_n 3, 1) := by decide +kernel
theorem d_M_room_47 : decode prog_10_method_15_code 47 = .ok (.ifCond .le 17, 3) := by decide +kernel
theorem d_M_room_50 : decode prog_10_method_15_code 50 = .ok (.aload_n 0, 1) := by decide +kernel
theorem d_M_room_51 : decode prog_10_method_15_code 51 = .ok (.getfield 21, 3) := by decide +kernel
theorem d_M_room_54 : decode prog_10_method_15_code 54 = .ok (.iload_n 3, 1) := by decide +kernel
theorem d_M_room_55 : decode prog_10_method_15_code 55 = .ok (.baload, 1) := by decide +kernel
theorem d_M_room_56 : decode prog_10_method_15_code 56 = .ok (.iconst 1, 1) := by decide +kernel
theorem d_M_room_57 : decode prog_10_method_15_code 57 = .ok (.if_icmp .ne 7, 3) := by decide +kernel
theorem d_M_room_60 : decode prog_10_method_15_code 60 = .ok (.iconst 1, 1) := by decide +kernel
theorem d_M_room_61 : decode prog_10_method_15_code 61 = .ok (.goto 4, 3) := by decide +kernel
theorem d_M_room_64 : decode prog_10_method_15_code 64 = .ok (.iconst 0, 1) := by decide +kernel
theorem d_M_room_65 : decode prog_10_method_15_code 65 = .ok (.ireturn, 1) := by decide +kernel
theorem c_M_atN {l : Launch} {E : Ev} {σ : SS} {ad : Nat → Nat} (hI : rfI ad) (hB : rB σ) {sz : Nat} {k q : Nat} (hk : k < 19) (hq : q < 125) : MCi l E y_M_at prog_10_method_8_code 3 (some .int) 1 21 0 0 [.ref (ad 0), .int (nI k), .int (nI q)] (rfM E σ ad) sz (fun r M' => (r = nI (rat σ k q) ∧ rat σ k q < 32768) ∧ M' = rfM E σ ad) := by
  have h := c_M_at (l := l) (E := E) (sz := sz) (x := nI q) hI hB hk
  rw [ix_n hq] at h
  exact h

set_option maxHeartbeats 4000000 in
set_option maxRecDepth 100000 in
theorem c_M_touch {l : Launch} {E : Ev} {σ : SS} {ad : Nat → Nat} (hI : rfI ad) (hB : rB σ) {sz : Nat} {t n0 : Nat} (ht : t < 3) (hn0 : n0 < 125) (htk : tok (pd n0) σ t n0) : MCv l E y_M_touch prog_10_method_14_code 7 none 2 43 0 0 [.ref (ad 0), .int (nI t), .int (nI n0)] (rfM E σ ad) sz (fun M' => M' = rfM E (tch (pd n0) σ t n0) ad ∧ rB (tch (pd n0) σ t n0)) := by
  refine mc_of R_M rfl [some (.ref (ad 0)), some (.int (nI t)), some (.int (nI n0)), none, none, none, none] (by decide) (Nat.le_of_ble_eq_true rfl) rfl ?_
  intro p e R s m ag below meth c ls Q A X hAe hQ hR hsz hw hl
  rw [← hAe] at hQ
  obtain ⟨⟨hx, hb, hml, hown, hts⟩, hE, hA, hr, hlk, hnm⟩ := X
  have hK := hE.1
  have loop : ∀ (n : Nat) (τ : SS) (q : Nat) (H : Heap) (locs : List Loc) (ls : Array Slot), n ≤ 3 → rB τ → tok n τ t q → mw E.1 vwCl A s.heap (rfM E τ ad) H locs → lh ls [some (.ref (ad 0)), some (.int (nI t)), some (.int (nI n0)), some (.int (nI q)), some (.int (nI n)), none, none] → tch n τ t q = tch (pd n0) σ t n0 → W p l e R s m ag below meth c H locs 0 0 Q (F0 m 8 ls []) := by
    intro n
    induction n with
    | zero =>
      intro τ q H locs ls hn3 hB htk hw hl hT
      obtain ⟨hq, ho1, ho2, ho3, ho4⟩ := htk
      refine x_iload hx hb d_M_touch_8 hl rfl ?_
      refine x_if_lt hx hb d_M_touch_10 rfl (by omega) ?_
      first | refine x_aload_n hx hb d_M_touch_13 hl rfl ?_ | refine x_aload_nQ hx hb d_M_touch_13 hl rfl ?_
      refine lv_bipush (v := nI 16) hx hb d_M_touch_14 (by decide) ?_
      refine x_iload_n hx hb d_M_touch_16 hl rfl ?_
      first | refine x_iadd hx hb d_M_touch_17 ?_ | refine lv_iadd hx hb d_M_touch_17 ?_
      refine x_iload_n hx hb d_M_touch_18 hl rfl ?_
      refine m_calli (k_V ⟨hx, hb, hml, hown, hts⟩ hE hA hw (c_M_atN hI hB (by omega) (by omega)) (ci_M).1 rfl (rf_at hI 0 (by decide) rfl) (wm3 164 rfl rfl) (wm3 166 rfl rfl) (wmp2 7 rfl) (wm1 9 rfl rfl) (wm3 167 rfl rfl) rfl rfl ar_M_at ⟨Nat.le_trans (Nat.le_of_ble_eq_true rfl) hR.1, Nat.le_trans (Nat.le_of_ble_eq_true rfl) hR.2.1⟩ rfl hl.1 rfl (Nat.le_of_ble_eq_true rfl) d_M_touch_19 ⟨Nat.le_trans (Nat.le_of_ble_eq_true rfl) hR.2.2.1, Nat.le_trans (Nat.le_of_ble_eq_true rfl) hR.2.2.2⟩) hw (mfr_in hw hA) (fun r19 M19 H locs hP19 hw => ?_)
      obtain ⟨⟨rfl, hb19⟩, hM19⟩ := hP19
      rw [hM19] at hw
      refine x_istore hx hb d_M_touch_22 hl (Nat.le_of_ble_eq_true rfl) (lh_k (i := 4) rfl (by first | exact lk_n | exact lk_i | exact lk_r | exact lk_q | exact lk_0)) (fun ls hl => ?_)
      first | refine x_aload_n hx hb d_M_touch_24 hl rfl ?_ | refine x_aload_nQ hx hb d_M_touch_24 hl rfl ?_
      refine m_get hx hb hts hown hK hw ci_M (rf_at hI 0 (by decide) rfl) 12 (by decide) (wm3 84 rfl rfl) rfl d_M_touch_25 ?_
      refine x_iload hx hb d_M_touch_28 hl rfl ?_
      refine rl_12 hx hb hK hI hB hw (by omega) d_M_touch_30 (fun hv30 => ?_)
      refine lv_if_lt hx hb d_M_touch_31 rfl (fun h31 => ?_) (fun h31 => ?_)
      · have h31 := (bI_lt ho3).mp h31
        have htt : tst τ t q = τ := if_neg (by omega)
        refine x_iload hx hb d_M_touch_58 hl rfl ?_
        refine x_if_le hx hb d_M_touch_60 rfl (by omega) (fun h60 => ?_) (fun h60 => ?_)
        · refine lv_iconst (v := nI 0) hx hb d_M_touch_70 (by decide) ?_
          refine x_istore_n hx hb d_M_touch_71 hl (Nat.le_of_ble_eq_true rfl) (lh_k (i := 2) rfl (by first | exact lk_n | exact lk_i | exact lk_r | exact lk_q | exact lk_0)) (fun ls hl => ?_)
          refine x_iinc hx hb d_M_touch_72 hl rfl dec_0 (lh_k (i := 3) rfl (by first | exact lk_n | exact lk_i)) (fun ls hl => ?_)
          refine lv_goto hx hb d_M_touch_75 rfl ?_
          rw [← htt] at hw
          rw [← htt] at hB
          refine x_iload hx hb d_M_touch_8 hl rfl ?_
          refine lv_if_lt hx hb d_M_touch_10 rfl (fun _ => ?_) (fun h => absurd (by decide) h)
          exact x_retv hQ hx hb hr hlk hw (by omega) (by omega) d_M_touch_78 (by rw [← hT]; exact ⟨rfl, hB⟩)
        · exact absurd h60 (by omega)
      · have h31 : ¬ 128 ≤ τ 12 (rat τ (16 + t) q) := fun z => h31 ((bI_lt ho3).mpr z)
        obtain ⟨g1, g2, g3, g4⟩ := ho4 (by omega)
        have htt : tst τ t q = plc (nod1 τ t (τ 6 (rat τ (16 + t) q)) (rat τ (16 + t) q)) t q (τ 4 0 + 1) := if_pos (by omega)
        first | refine x_aload_n hx hb d_M_touch_34 hl rfl ?_ | refine x_aload_nQ hx hb d_M_touch_34 hl rfl ?_
        refine x_iload_n hx hb d_M_touch_35 hl rfl ?_
        first | refine x_aload_n hx hb d_M_touch_36 hl rfl ?_ | refine x_aload_nQ hx hb d_M_touch_36 hl rfl ?_
        refine m_get hx hb hts hown hK hw ci_M (rf_at hI 0 (by decide) rfl) 6 (by decide) (wm3 78 rfl rfl) rfl d_M_touch_37 ?_
        refine x_iload hx hb d_M_touch_40 hl rfl ?_
        refine rl_6 hx hb hK hI hB hw (by omega) d_M_touch_42 (fun hv42 => ?_)
        refine x_iload hx hb d_M_touch_43 hl rfl ?_
        refine m_calli (k_V ⟨hx, hb, hml, hown, hts⟩ hE hA hw (c_M_node1 hI hB (by omega) (by omega) (by omega) (by omega) (by omega) (by omega) (by omega)) (ci_M).1 rfl (rf_at hI 0 (by decide) rfl) (wm3 177 rfl rfl) (wm3 179 rfl rfl) (wmp2 8 rfl) (wm1 9 rfl rfl) (wm3 180 rfl rfl) rfl rfl ar_M_node ⟨Nat.le_trans (Nat.le_of_ble_eq_true rfl) hR.1, Nat.le_trans (Nat.le_of_ble_eq_true rfl) hR.2.1⟩ rfl hl.1 rfl (Nat.le_of_ble_eq_true rfl) d_M_touch_45 ⟨Nat.le_trans (Nat.le_of_ble_eq_true rfl) hR.2.2.1, Nat.le_trans (Nat.le_of_ble_eq_true rfl) hR.2.2.2⟩) hw (mfr_in hw hA) (fun r45 M45 H locs hP45 hw => ?_)
        obtain ⟨rfl, hM45, hB⟩ := hP45
        rw [hM45] at hw
        refine x_istore hx hb d_M_touch_48 hl (Nat.le_of_ble_eq_true rfl) (lh_k (i := 5) rfl (by first | exact lk_n | exact lk_i | exact lk_r | exact lk_q | exact lk_0)) (fun ls hl => ?_)
        first | refine x_aload_n hx hb d_M_touch_50 hl rfl ?_ | refine x_aload_nQ hx hb d_M_touch_50 hl rfl ?_
        refine x_iload_n hx hb d_M_touch_51 hl rfl ?_
        refine x_iload_n hx hb d_M_touch_52 hl rfl ?_
        refine x_iload hx hb d_M_touch_53 hl rfl ?_
        refine m_callv (k_V ⟨hx, hb, hml, hown, hts⟩ hE hA hw (c_M_place hI hB (by omega) (by omega) (by omega)) (ci_M).1 rfl (rf_at hI 0 (by decide) rfl) (wm3 181 rfl rfl) (wm3 183 rfl rfl) (wmp2 9 rfl) (wm1 9 rfl rfl) (wm3 184 rfl rfl) rfl rfl ar_M_place ⟨Nat.le_trans (Nat.le_of_ble_eq_true rfl) hR.1, Nat.le_trans (Nat.le_of_ble_eq_true rfl) hR.2.1⟩ rfl hl.1 rfl (Nat.le_of_ble_eq_true rfl) d_M_touch_55 ⟨Nat.le_trans (Nat.le_of_ble_eq_true rfl) hR.2.2.1, Nat.le_trans (Nat.le_of_ble_eq_true rfl) hR.2.2.2⟩) hw (mfr_in hw hA) (fun M55 H locs hP55 hw => ?_)
        obtain ⟨hM55, hB⟩ := hP55
        rw [hM55] at hw
        refine x_iload hx hb d_M_touch_58 hl rfl ?_
        refine x_if_le hx hb d_M_touch_60 rfl (by omega) (fun h60 => ?_) (fun h60 => ?_)
        · refine lv_iconst (v := nI 0) hx hb d_M_touch_70 (by decide) ?_
          refine x_istore_n hx hb d_M_touch_71 hl (Nat.le_of_ble_eq_true rfl) (lh_k (i := 2) rfl (by first | exact lk_n | exact lk_i | exact lk_r | exact lk_q | exact lk_0)) (fun ls hl => ?_)
          refine x_iinc hx hb d_M_touch_72 hl rfl dec_0 (lh_k (i := 3) rfl (by first | exact lk_n | exact lk_i)) (fun ls hl => ?_)
          refine lv_goto hx hb d_M_touch_75 rfl ?_
          rw [← htt] at hw
          rw [← htt] at hB
          refine x_iload hx hb d_M_touch_8 hl rfl ?_
          refine lv_if_lt hx hb d_M_touch_10 rfl (fun _ => ?_) (fun h => absurd (by decide) h)
          exact x_retv hQ hx hb hr hlk hw (by omega) (by omega) d_M_touch_78 (by rw [← hT]; exact ⟨rfl, hB⟩)
        · exact absurd h60 (by omega)
    | succ n ih =>
      intro τ q H locs ls hn3 hB htk hw hl hT
      obtain ⟨hq, ho1, ho2, ho3, ho4⟩ := htk.1.1
      have hq0 := pos_of_pd htk.1.2
      refine x_iload hx hb d_M_touch_8 hl rfl ?_
      refine x_if_lt hx hb d_M_touch_10 rfl (by omega) ?_
      first | refine x_aload_n hx hb d_M_touch_13 hl rfl ?_ | refine x_aload_nQ hx hb d_M_touch_13 hl rfl ?_
      refine lv_bipush (v := nI 16) hx hb d_M_touch_14 (by decide) ?_
      refine x_iload_n hx hb d_M_touch_16 hl rfl ?_
      first | refine x_iadd hx hb d_M_touch_17 ?_ | refine lv_iadd hx hb d_M_touch_17 ?_
      refine x_iload_n hx hb d_M_touch_18 hl rfl ?_
      refine m_calli (k_V ⟨hx, hb, hml, hown, hts⟩ hE hA hw (c_M_atN hI hB (by omega) (by omega)) (ci_M).1 rfl (rf_at hI 0 (by decide) rfl) (wm3 164 rfl rfl) (wm3 166 rfl rfl) (wmp2 7 rfl) (wm1 9 rfl rfl) (wm3 167 rfl rfl) rfl rfl ar_M_at ⟨Nat.le_trans (Nat.le_of_ble_eq_true rfl) hR.1, Nat.le_trans (Nat.le_of_ble_eq_true rfl) hR.2.1⟩ rfl hl.1 rfl (Nat.le_of_ble_eq_true rfl) d_M_touch_19 ⟨Nat.le_trans (Nat.le_of_ble_eq_true rfl) hR.2.2.1, Nat.le_trans (Nat.le_of_ble_eq_true rfl) hR.2.2.2⟩) hw (mfr_in hw hA) (fun r19 M19 H locs hP19 hw => ?_)
      obtain ⟨⟨rfl, hb19⟩, hM19⟩ := hP19
      rw [hM19] at hw
      refine x_istore hx hb d_M_touch_22 hl (Nat.le_of_ble_eq_true rfl) (lh_k (i := 4) rfl (by first | exact lk_n | exact lk_i | exact lk_r | exact lk_q | exact lk_0)) (fun ls hl => ?_)
      first | refine x_aload_n hx hb d_M_touch_24 hl rfl ?_ | refine x_aload_nQ hx hb d_M_touch_24 hl rfl ?_
      refine m_get hx hb hts hown hK hw ci_M (rf_at hI 0 (by decide) rfl) 12 (by decide) (wm3 84 rfl rfl) rfl d_M_touch_25 ?_
      refine x_iload hx hb d_M_touch_28 hl rfl ?_
      refine rl_12 hx hb hK hI hB hw (by omega) d_M_touch_30 (fun hv30 => ?_)
      refine lv_if_lt hx hb d_M_touch_31 rfl (fun h31 => ?_) (fun h31 => ?_)
      · have h31 := (bI_lt ho3).mp h31
        have htt : tst τ t q = τ := if_neg (by omega)
        refine x_iload hx hb d_M_touch_58 hl rfl ?_
        refine x_if_le hx hb d_M_touch_60 rfl (by omega) (fun h60 => ?_) (fun h60 => ?_)
        · exact absurd h60 (by omega)
        · refine x_iload_n hx hb d_M_touch_63 hl rfl ?_
          refine m_calli (k_S ⟨hx, hb, hml, hown, hts⟩ hE hA hw (c_M_parent (by omega) (by omega)) (wm3 168 rfl rfl) (wm3 169 rfl rfl) (wm1 9 rfl rfl) (wm3 170 rfl rfl) rfl rfl ar_M_parent ⟨Nat.le_trans (Nat.le_of_ble_eq_true rfl) hR.1, Nat.le_trans (Nat.le_of_ble_eq_true rfl) hR.2.1⟩ rfl hl.1 rfl (Nat.le_of_ble_eq_true rfl) d_M_touch_64 ⟨Nat.le_trans (Nat.le_of_ble_eq_true rfl) hR.2.2.1, Nat.le_trans (Nat.le_of_ble_eq_true rfl) hR.2.2.2⟩) hw (mfr_in hw hA) (fun r64 M64 H locs hP64 hw => ?_)
          obtain ⟨rfl, hM64⟩ := hP64
          rw [hM64] at hw
          refine lv_goto hx hb d_M_touch_67 rfl ?_
          refine x_istore_n hx hb d_M_touch_71 hl (Nat.le_of_ble_eq_true rfl) (lh_k (i := 2) rfl (by first | exact lk_n | exact lk_i | exact lk_r | exact lk_q | exact lk_0)) (fun ls hl => ?_)
          refine x_iinc hx hb d_M_touch_72 hl rfl (dec_n n) (lh_k (i := 3) rfl (by first | exact lk_n | exact lk_i)) (fun ls hl => ?_)
          refine lv_goto hx hb d_M_touch_75 rfl ?_
          rw [← htt] at hw
          rw [← htt] at hB
          exact ih _ _ H locs ls (by omega) hB htk.2 hw (lh_drop 5 (lh_drop 6 hl)) hT
      · have h31 : ¬ 128 ≤ τ 12 (rat τ (16 + t) q) := fun z => h31 ((bI_lt ho3).mpr z)
        obtain ⟨g1, g2, g3, g4⟩ := ho4 (by omega)
        have htt : tst τ t q = plc (nod1 τ t (τ 6 (rat τ (16 + t) q)) (rat τ (16 + t) q)) t q (τ 4 0 + 1) := if_pos (by omega)
        first | refine x_aload_n hx hb d_M_touch_34 hl rfl ?_ | refine x_aload_nQ hx hb d_M_touch_34 hl rfl ?_
        refine x_iload_n hx hb d_M_touch_35 hl rfl ?_
        first | refine x_aload_n hx hb d_M_touch_36 hl rfl ?_ | refine x_aload_nQ hx hb d_M_touch_36 hl rfl ?_
        refine m_get hx hb hts hown hK hw ci_M (rf_at hI 0 (by decide) rfl) 6 (by decide) (wm3 78 rfl rfl) rfl d_M_touch_37 ?_
        refine x_iload hx hb d_M_touch_40 hl rfl ?_
        refine rl_6 hx hb hK hI hB hw (by omega) d_M_touch_42 (fun hv42 => ?_)
        refine x_iload hx hb d_M_touch_43 hl rfl ?_
        refine m_calli (k_V ⟨hx, hb, hml, hown, hts⟩ hE hA hw (c_M_node1 hI hB (by omega) (by omega) (by omega) (by omega) (by omega) (by omega) (by omega)) (ci_M).1 rfl (rf_at hI 0 (by decide) rfl) (wm3 177 rfl rfl) (wm3 179 rfl rfl) (wmp2 8 rfl) (wm1 9 rfl rfl) (wm3 180 rfl rfl) rfl rfl ar_M_node ⟨Nat.le_trans (Nat.le_of_ble_eq_true rfl) hR.1, Nat.le_trans (Nat.le_of_ble_eq_true rfl) hR.2.1⟩ rfl hl.1 rfl (Nat.le_of_ble_eq_true rfl) d_M_touch_45 ⟨Nat.le_trans (Nat.le_of_ble_eq_true rfl) hR.2.2.1, Nat.le_trans (Nat.le_of_ble_eq_true rfl) hR.2.2.2⟩) hw (mfr_in hw hA) (fun r45 M45 H locs hP45 hw => ?_)
        obtain ⟨rfl, hM45, hB⟩ := hP45
        rw [hM45] at hw
        refine x_istore hx hb d_M_touch_48 hl (Nat.le_of_ble_eq_true rfl) (lh_k (i := 5) rfl (by first | exact lk_n | exact lk_i | exact lk_r | exact lk_q | exact lk_0)) (fun ls hl => ?_)
        first | refine x_aload_n hx hb d_M_touch_50 hl rfl ?_ | refine x_aload_nQ hx hb d_M_touch_50 hl rfl ?_
        refine x_iload_n hx hb d_M_touch_51 hl rfl ?_
        refine x_iload_n hx hb d_M_touch_52 hl rfl ?_
        refine x_iload hx hb d_M_touch_53 hl rfl ?_
        refine m_callv (k_V ⟨hx, hb, hml, hown, hts⟩ hE hA hw (c_M_place hI hB (by omega) (by omega) (by omega)) (ci_M).1 rfl (rf_at hI 0 (by decide) rfl) (wm3 181 rfl rfl) (wm3 183 rfl rfl) (wmp2 9 rfl) (wm1 9 rfl rfl) (wm3 184 rfl rfl) rfl rfl ar_M_place ⟨Nat.le_trans (Nat.le_of_ble_eq_true rfl) hR.1, Nat.le_trans (Nat.le_of_ble_eq_true rfl) hR.2.1⟩ rfl hl.1 rfl (Nat.le_of_ble_eq_true rfl) d_M_touch_55 ⟨Nat.le_trans (Nat.le_of_ble_eq_true rfl) hR.2.2.1, Nat.le_trans (Nat.le_of_ble_eq_true rfl) hR.2.2.2⟩) hw (mfr_in hw hA) (fun M55 H locs hP55 hw => ?_)
        obtain ⟨hM55, hB⟩ := hP55
        rw [hM55] at hw
        refine x_iload hx hb d_M_touch_58 hl rfl ?_
        refine x_if_le hx hb d_M_touch_60 rfl (by omega) (fun h60 => ?_) (fun h60 => ?_)
        · exact absurd h60 (by omega)
        · refine x_iload_n hx hb d_M_touch_63 hl rfl ?_
          refine m_calli (k_S ⟨hx, hb, hml, hown, hts⟩ hE hA hw (c_M_parent (by omega) (by omega)) (wm3 168 rfl rfl) (wm3 169 rfl rfl) (wm1 9 rfl rfl) (wm3 170 rfl rfl) rfl rfl ar_M_parent ⟨Nat.le_trans (Nat.le_of_ble_eq_true rfl) hR.1, Nat.le_trans (Nat.le_of_ble_eq_true rfl) hR.2.1⟩ rfl hl.1 rfl (Nat.le_of_ble_eq_true rfl) d_M_touch_64 ⟨Nat.le_trans (Nat.le_of_ble_eq_true rfl) hR.2.2.1, Nat.le_trans (Nat.le_of_ble_eq_true rfl) hR.2.2.2⟩) hw (mfr_in hw hA) (fun r64 M64 H locs hP64 hw => ?_)
          obtain ⟨rfl, hM64⟩ := hP64
          rw [hM64] at hw
          refine lv_goto hx hb d_M_touch_67 rfl ?_
          refine x_istore_n hx hb d_M_touch_71 hl (Nat.le_of_ble_eq_true rfl) (lh_k (i := 2) rfl (by first | exact lk_n | exact lk_i | exact lk_r | exact lk_q | exact lk_0)) (fun ls hl => ?_)
          refine x_iinc hx hb d_M_touch_72 hl rfl (dec_n n) (lh_k (i := 3) rfl (by first | exact lk_n | exact lk_i)) (fun ls hl => ?_)
          refine lv_goto hx hb d_M_touch_75 rfl ?_
          rw [← htt] at hw
          rw [← htt] at hB
          exact ih _ _ H locs ls (by omega) hB htk.2 hw (lh_drop 5 (lh_drop 6 hl)) hT
  refine x_iload_n hx hb d_M_touch_0 hl rfl ?_
  refine x_istore_n hx hb d_M_touch_1 hl (Nat.le_of_ble_eq_true rfl) (lh_k (i := 2) rfl (by first | exact lk_n | exact lk_i | exact lk_r | exact lk_q | exact lk_0)) (fun ls hl => ?_)
  refine x_iload_n hx hb d_M_touch_2 hl rfl ?_
  refine m_calli (k_S ⟨hx, hb, hml, hown, hts⟩ hE hA hw (c_M_depth (by omega)) (wm3 171 rfl rfl) (wm3 172 rfl rfl) (wm1 9 rfl rfl) (wm3 173 rfl rfl) rfl rfl ar_M_depth ⟨Nat.le_trans (Nat.le_of_ble_eq_true rfl) hR.1, Nat.le_trans (Nat.le_of_ble_eq_true rfl) hR.2.1⟩ rfl hl.1 rfl (Nat.le_of_ble_eq_true rfl) d_M_touch_3 ⟨Nat.le_trans (Nat.le_of_ble_eq_true rfl) hR.2.2.1, Nat.le_trans (Nat.le_of_ble_eq_true rfl) hR.2.2.2⟩) hw (mfr_in hw hA) (fun r3 M3 H locs hP3 hw => ?_)
  obtain ⟨rfl, hM3⟩ := hP3
  rw [hM3] at hw
  refine x_istore hx hb d_M_touch_6 hl (Nat.le_of_ble_eq_true rfl) (lh_k (i := 3) rfl (by first | exact lk_n | exact lk_i | exact lk_r | exact lk_q | exact lk_0)) (fun ls hl => ?_)
  exact loop (pd n0) σ n0 _ _ _ (pd_le n0) hB htk hw hl rfl

set_option maxHeartbeats 4000000 in
set_option maxRecDepth 100000 in
theorem c_M_room {l : Launch} {E : Ev} {σ : SS} {ad : Nat → Nat} (hI : rfI ad) (hB : rB σ) {sz : Nat} {x y : Int32} (hN : ∀ j, σ 0 j < 1300) : MCi l E y_M_room prog_10_method_15_code 4 (some .boolean) 2 43 0 0 [.ref (ad 0), .int x, .int y] (rfM E σ ad) sz (fun r M' => r = bz (rmb σ (tx x) (ix y)) ∧ M' = rfM E σ ad) := by
  refine mc_of R_M rfl [some (.ref (ad 0)), some (.int x), some (.int y), none] (by decide) (Nat.le_of_ble_eq_true rfl) rfl ?_
  intro p e R s m ag below meth c ls Q A X hAe hQ hR hsz hw hl
  rw [← hAe] at hQ
  obtain ⟨⟨hx, hb, hml, hown, hts⟩, hE, hA, hr, hlk, hnm⟩ := X
  have hK := hE.1
  first | refine x_aload_n hx hb d_M_room_0 hl rfl ?_ | refine x_aload_nQ hx hb d_M_room_0 hl rfl ?_
  refine x_iload_n hx hb d_M_room_1 hl rfl ?_
  refine m_calli (k_V ⟨hx, hb, hml, hown, hts⟩ hE hA hw (c_M_isOpen hI hB) (ci_M).1 rfl (rf_at hI 0 (by decide) rfl) (wm3 157 rfl rfl) (wm3 159 rfl rfl) (wmp2 6 rfl) (wm1 9 rfl rfl) (wm3 160 rfl rfl) rfl rfl ar_M_isOpen ⟨Nat.le_trans (Nat.le_of_ble_eq_true rfl) hR.1, Nat.le_trans (Nat.le_of_ble_eq_true rfl) hR.2.1⟩ rfl hl.1 rfl (Nat.le_of_ble_eq_true rfl) d_M_room_2 ⟨Nat.le_trans (Nat.le_of_ble_eq_true rfl) hR.2.2.1, Nat.le_trans (Nat.le_of_ble_eq_true rfl) hR.2.2.2⟩) hw (mfr_in hw hA) (fun r2 M2 H locs hP2 hw => ?_)
  obtain ⟨rfl, hM2⟩ := hP2
  rw [hM2] at hw
  refine x_if_eqB hx hb d_M_room_5 rfl (fun h5 => ?_) (fun h5 => ?_)
  · refine lv_iconst (v := nI 0) hx hb d_M_room_31 (by decide) ?_
    exact x_reti hQ hx hb hr hlk (by first | exact nar_bz | decide) hw (by omega) (by omega) d_M_room_32 (⟨by first | exact bz_f (rmb_1 h5) | exact bz_f (rmb_2 h12) | (rw [tx_n ht, ix_n hq]; exact bz_f (rmb_3 h16)) | (rw [tx_n ht, ix_n hq]; exact bz_f (rmb_4 h28)), rfl⟩)
  · obtain ⟨t, ht, rfl, ho⟩ := opb_of h5
    refine x_iload_n hx hb d_M_room_8 hl rfl ?_
    refine m_calli (k_S ⟨hx, hb, hml, hown, hts⟩ hE hA hw (c_M_good) (wm3 161 rfl rfl) (wm3 162 rfl rfl) (wm1 9 rfl rfl) (wm3 163 rfl rfl) rfl rfl ar_M_good ⟨Nat.le_trans (Nat.le_of_ble_eq_true rfl) hR.1, Nat.le_trans (Nat.le_of_ble_eq_true rfl) hR.2.1⟩ rfl hl.1 rfl (Nat.le_of_ble_eq_true rfl) d_M_room_9 ⟨Nat.le_trans (Nat.le_of_ble_eq_true rfl) hR.2.2.1, Nat.le_trans (Nat.le_of_ble_eq_true rfl) hR.2.2.2⟩) hw (mfr_in hw hA) (fun r9 M9 H locs hP9 hw => ?_)
    obtain ⟨rfl, hM9⟩ := hP9
    rw [hM9] at hw
    refine x_if_eqB hx hb d_M_room_12 rfl (fun h12 => ?_) (fun h12 => ?_)
    · refine lv_iconst (v := nI 0) hx hb d_M_room_31 (by decide) ?_
      exact x_reti hQ hx hb hr hlk (by first | exact nar_bz | decide) hw (by omega) (by omega) d_M_room_32 (⟨by first | exact bz_f (rmb_1 h5) | exact bz_f (rmb_2 h12) | (rw [tx_n ht, ix_n hq]; exact bz_f (rmb_3 h16)) | (rw [tx_n ht, ix_n hq]; exact bz_f (rmb_4 h28)), rfl⟩)
    · obtain ⟨q, hq, rfl⟩ := ix_good h12
      rw [ix_n hq] at h12
      refine x_iload_n hx hb d_M_room_15 hl rfl ?_
      refine x_if_eq hx hb d_M_room_16 rfl (by omega) (fun h16 => ?_) (fun h16 => ?_)
      · refine lv_iconst (v := nI 0) hx hb d_M_room_31 (by decide) ?_
        exact x_reti hQ hx hb hr hlk (by first | exact nar_bz | decide) hw (by omega) (by omega) d_M_room_32 (⟨by first | exact bz_f (rmb_1 h5) | exact bz_f (rmb_2 h12) | (rw [tx_n ht, ix_n hq]; exact bz_f (rmb_3 h16)) | (rw [tx_n ht, ix_n hq]; exact bz_f (rmb_4 h28)), rfl⟩)
      · first | refine x_aload_n hx hb d_M_room_19 hl rfl ?_ | refine x_aload_nQ hx hb d_M_room_19 hl rfl ?_
        refine lv_bipush (v := nI 16) hx hb d_M_room_20 (by decide) ?_
        refine x_iload_n hx hb d_M_room_22 hl rfl ?_
        first | refine x_iadd hx hb d_M_room_23 ?_ | refine lv_iadd hx hb d_M_room_23 ?_
        refine x_iload_n hx hb d_M_room_24 hl rfl ?_
        refine m_calli (k_V ⟨hx, hb, hml, hown, hts⟩ hE hA hw (c_M_atN hI hB (by omega) (by omega)) (ci_M).1 rfl (rf_at hI 0 (by decide) rfl) (wm3 164 rfl rfl) (wm3 166 rfl rfl) (wmp2 7 rfl) (wm1 9 rfl rfl) (wm3 167 rfl rfl) rfl rfl ar_M_at ⟨Nat.le_trans (Nat.le_of_ble_eq_true rfl) hR.1, Nat.le_trans (Nat.le_of_ble_eq_true rfl) hR.2.1⟩ rfl hl.1 rfl (Nat.le_of_ble_eq_true rfl) d_M_room_25 ⟨Nat.le_trans (Nat.le_of_ble_eq_true rfl) hR.2.2.1, Nat.le_trans (Nat.le_of_ble_eq_true rfl) hR.2.2.2⟩) hw (mfr_in hw hA) (fun r25 M25 H locs hP25 hw => ?_)
        obtain ⟨⟨rfl, hb25⟩, hM25⟩ := hP25
        rw [hM25] at hw
        refine x_if_le hx hb d_M_room_28 rfl (by omega) (fun h28 => ?_) (fun h28 => ?_)
        · have hq0 : 0 < q := by omega
          have hp1 := pp_lt q
          first | refine x_aload_n hx hb d_M_room_33 hl rfl ?_ | refine x_aload_nQ hx hb d_M_room_33 hl rfl ?_
          refine lv_bipush (v := nI 16) hx hb d_M_room_34 (by decide) ?_
          refine x_iload_n hx hb d_M_room_36 hl rfl ?_
          first | refine x_iadd hx hb d_M_room_37 ?_ | refine lv_iadd hx hb d_M_room_37 ?_
          refine x_iload_n hx hb d_M_room_38 hl rfl ?_
          refine m_calli (k_S ⟨hx, hb, hml, hown, hts⟩ hE hA hw (c_M_parent (by omega) (by omega)) (wm3 168 rfl rfl) (wm3 169 rfl rfl) (wm1 9 rfl rfl) (wm3 170 rfl rfl) rfl rfl ar_M_parent ⟨Nat.le_trans (Nat.le_of_ble_eq_true rfl) hR.1, Nat.le_trans (Nat.le_of_ble_eq_true rfl) hR.2.1⟩ rfl hl.1 rfl (Nat.le_of_ble_eq_true rfl) d_M_room_39 ⟨Nat.le_trans (Nat.le_of_ble_eq_true rfl) hR.2.2.1, Nat.le_trans (Nat.le_of_ble_eq_true rfl) hR.2.2.2⟩) hw (mfr_in hw hA) (fun r39 M39 H locs hP39 hw => ?_)
          obtain ⟨rfl, hM39⟩ := hP39
          rw [hM39] at hw
          refine m_calli (k_V ⟨hx, hb, hml, hown, hts⟩ hE hA hw (c_M_atN hI hB (by omega) (by omega)) (ci_M).1 rfl (rf_at hI 0 (by decide) rfl) (wm3 164 rfl rfl) (wm3 166 rfl rfl) (wmp2 7 rfl) (wm1 9 rfl rfl) (wm3 167 rfl rfl) rfl rfl ar_M_at ⟨Nat.le_trans (Nat.le_of_ble_eq_true rfl) hR.1, Nat.le_trans (Nat.le_of_ble_eq_true rfl) hR.2.1⟩ rfl hl.1 rfl (Nat.le_of_ble_eq_true rfl) d_M_room_42 ⟨Nat.le_trans (Nat.le_of_ble_eq_true rfl) hR.2.2.1, Nat.le_trans (Nat.le_of_ble_eq_true rfl) hR.2.2.2⟩) hw (mfr_in hw hA) (fun r42 M42 H locs hP42 hw => ?_)
          obtain ⟨⟨rfl, hb42⟩, hM42⟩ := hP42
          rw [hM42] at hw
          have hN2 := rat_N (k := 16 + t) (p := pp q) hN
          refine x_istore_n hx hb d_M_room_45 hl (Nat.le_of_ble_eq_true rfl) (lh_k (i := 2) rfl (by first | exact lk_n | exact lk_i | exact lk_r | exact lk_q | exact lk_0)) (fun ls hl => ?_)
          refine x_iload_n hx hb d_M_room_46 hl rfl ?_
          refine x_if_le hx hb d_M_room_47 rfl (by omega) (fun h47 => ?_) (fun h47 => ?_)
          · refine lv_iconst (v := nI 0) hx hb d_M_room_64 (by decide) ?_
            exact x_reti hQ hx hb hr hlk (by first | exact nar_bz | decide) hw (by omega) (by omega) d_M_room_65 (⟨by rw [tx_n ht, ix_n hq]; first | exact bz_f (rmb_5 h47) | exact bz_f (rmb_6 h57) | exact bz_t (rmb_t ht ho h12 hq0 h28 h47 h57), rfl⟩)
          · first | refine x_aload_n hx hb d_M_room_50 hl rfl ?_ | refine x_aload_nQ hx hb d_M_room_50 hl rfl ?_
            refine m_get hx hb hts hown hK hw ci_M (rf_at hI 0 (by decide) rfl) 6 (by decide) (wm3 78 rfl rfl) rfl d_M_room_51 ?_
            refine x_iload_n hx hb d_M_room_54 hl rfl ?_
            refine rl_6 hx hb hK hI hB hw (by omega) d_M_room_55 (fun hv55 => ?_)
            refine lv_iconst (v := nI 1) hx hb d_M_room_56 (by decide) ?_
            refine x_icmp_ne hx hb d_M_room_57 rfl (by omega) (by omega) (fun h57 => ?_) (fun h57 => ?_)
            · refine lv_iconst (v := nI 0) hx hb d_M_room_64 (by decide) ?_
              exact x_reti hQ hx hb hr hlk (by first | exact nar_bz | decide) hw (by omega) (by omega) d_M_room_65 (⟨by rw [tx_n ht, ix_n hq]; first | exact bz_f (rmb_5 h47) | exact bz_f (rmb_6 h57) | exact bz_t (rmb_t ht ho h12 hq0 h28 h47 h57), rfl⟩)
            · refine lv_iconst (v := nI 1) hx hb d_M_room_60 (by decide) ?_
              refine lv_goto hx hb d_M_room_61 rfl ?_
              exact x_reti hQ hx hb hr hlk (by first | exact nar_bz | decide) hw (by omega) (by omega) d_M_room_65 (⟨by rw [tx_n ht, ix_n hq]; first | exact bz_f (rmb_5 h47) | exact bz_f (rmb_6 h57) | exact bz_t (rmb_t ht ho h12 hq0 h28 h47 h57), rfl⟩)
        · refine lv_iconst (v := nI 0) hx hb d_M_room_31 (by decide) ?_
          exact x_reti hQ hx hb hr hlk (by first | exact nar_bz | decide) hw (by omega) (by omega) d_M_room_32 (⟨by first | exact bz_f (rmb_1 h5) | exact bz_f (rmb_2 h12) | (rw [tx_n ht, ix_n hq]; exact bz_f (rmb_3 h16)) | (rw [tx_n ht, ix_n hq]; exact bz_f (rmb_4 h28)), rfl⟩)
end
section
/-! what the calls do, as functions of the state -/
section OP
theorem rmb_of {σ : SS} {x y : Int32} (h : rmb σ (tx x) (ix y) = true) : ∃ t, t < 3 ∧ x = nI t ∧ ∃ q, q < 125 ∧ y = nI q ∧ 0 < q := by
  unfold rmb at h
  simp only [Bool.and_eq_true, decide_eq_true_eq] at h
  obtain ⟨⟨⟨⟨⟨h1, h2⟩, h3⟩, -⟩, -⟩, -⟩ := h
  obtain ⟨t, ht, rfl, -⟩ := opb_of h1
  obtain ⟨q, hq, rfl⟩ := ix_good h2
  rw [ix_n hq] at h3
  exact ⟨t, ht, rfl, q, hq, rfl, by omega⟩
def mk4 (σ : SS) (t q w : Nat) : SS := plc (sp (sp (nod0 σ t w) 5 0 (σ 5 0 + 1)) 10 (σ 4 0 + 1) (σ 5 0 + 1)) t q (σ 4 0 + 1)
def mkO (σ : SS) (t q : Nat) (b : Bool) : SS := if rmb σ t q = true then tch (pd (pp q)) (mk4 σ t q (if b = true then 1 else 2)) t (pp q) else σ
theorem mkO_f {σ : SS} {t q : Nat} {b : Bool} (h : rmb σ t q = false) : mkO σ t q b = σ := if_neg (by rw [h]; decide)
theorem mkO_t {σ : SS} {t q : Nat} {b : Bool} (h : rmb σ t q = true) : mkO σ t q b = tch (pd (pp q)) (mk4 σ t q (if b = true then 1 else 2)) t (pp q) := if_pos h
end OP
end
section
theorem d_M_make_0 : decode prog_10_method_16_code 0 = .ok (.aload_n 0, 1) := by decide +kernel
theorem d_M_make_1 : decode prog_10_method_16_code 1 = .ok (.iload_n 1, 1) := by decide +kernel
theorem d_M_make_2 : decode prog_10_method_16_code 2 = .ok (.iload_n 2, 1) := by decide +kernel
theorem d_M_make_3 : decode prog_10_method_16_code 3 = .ok (.invokevirtual 105, 3) := by decide +kernel
theorem d_M_make_6 : decode prog_10_method_16_code 6 = .ok (.ifCond .ne 5, 3) := by decide +kernel
theorem d_M_make_9 : decode prog_10_method_16_code 9 = .ok (.iconst 0, 1) := by decide +kernel
theorem d_M_make_10 : decode prog_10_method_16_code 10 = .ok (.ireturn, 1) := by decide +kernel
theorem d_M_make_11 : decode prog_10_method_16_code 11 = .ok (.aload_n 0, 1) := by decide +kernel
theorem d_M_make_12 : decode prog_10_method_16_code 12 = .ok (.iload_n 1, 1) := by decide +kernel
theorem d_M_make_13 : decode prog_10_method_16_code 13 = .ok (.iload_n 3, 1) := by decide +kernel
theorem d_M_make_14 : decode prog_10_method_16_code 14 = .ok (.ifCond .eq 7, 3) := by decide +kernel
theorem d_M_make_17 : decode prog_10_method_16_code 17 = .ok (.iconst 1, 1) := by decide +kernel
theorem d_M_make_18 : decode prog_10_method_16_code 18 = .ok (.goto 4, 3) := by decide +kernel
theorem d_M_make_21 : decode prog_10_method_16_code 21 = .ok (.iconst 2, 1) := by decide +kernel
theorem d_M_make_22 : decode prog_10_method_16_code 22 = .ok (.iconst 0, 1) := by decide +kernel
theorem d_M_make_23 : decode prog_10_method_16_code 23 = .ok (.invokevirtual 91, 3) := by decide +kernel
theorem d_M_make_26 : decode prog_10_method_16_code 26 = .ok (.istore 4, 2) := by decide +kernel
theorem d_M_make_28 : decode prog_10_method_16_code 28 = .ok (.aload_n 0, 1) := by decide +kernel
theorem d_M_make_29 : decode prog_10_method_16_code 29 = .ok (.dup, 1) := by decide +kernel
theorem d_M_make_30 : decode prog_10_method_16_code 30 = .ok (.getfield 109, 3) := by decide +kernel
theorem d_M_make_33 : decode prog_10_method_16_code 33 = .ok (.iconst 1, 1) := by decide +kernel
theorem d_M_make_34 : decode prog_10_method_16_code 34 = .ok (.iadd, 1) := by decide +kernel
theorem d_M_make_35 : decode prog_10_method_16_code 35 = .ok (.putfield 109, 3) := by decide +kernel
theorem d_M_make_38 : decode prog_10_method_16_code 38 = .ok (.aload_n 0, 1) := by decide +kernel
theorem d_M_make_39 : decode prog_10_method_16_code 39 = .ok (.getfield 35, 3) := by decide +kernel
theorem d_M_make_42 : decode prog_10_method_16_code 42 = .ok (.iload 4, 2) := by decide +kernel
theorem d_M_make_44 : decode prog_10_method_16_code 44 = .ok (.aload_n 0, 1) := by decide +kernel
theorem d_M_make_45 : decode prog_10_method_16_code 45 = .ok (.getfield 109, 3) := by decide +kernel
theorem d_M_make_48 : decode prog_10_method_16_code 48 = .ok (.i2s, 1) := by decide +kernel
theorem d_M_make_49 : decode prog_10_method_16_code 49 = .ok (.sastore, 1) := by decide +kernel
theorem d_M_make_50 : decode prog_10_method_16_code 50 = .ok (.aload_n 0, 1) := by decide +kernel
theorem d_M_make_51 : decode prog_10_method_16_code 51 = .ok (.iload_n 1, 1) := by decide +kernel
theorem d_M_make_52 : decode prog_10_method_16_code 52 = .ok (.iload_n 2, 1) := by decide +kernel
theorem d_M_make_53 : decode prog_10_method_16_code 53 = .ok (.iload 4, 2) := by decide +kernel
theorem d_M_make_55 : decode prog_10_method_16_code 55 = .ok (.invokevirtual 95, 3) := by decide +kernel
theorem d_M_make_58 : decode prog_10_method_16_code 58 = .ok (.aload_n 0, 1) := by decide +kernel
theorem d_M_make_59 : decode prog_10_method_16_code 59 = .ok (.iload_n 1, 1) := by decide +kernel
theorem d_M_make_60 : decode prog_10_method_16_code 60 = .ok (.iload_n 2, 1) := by decide +kernel
theorem d_M_make_61 : decode prog_10_method_16_code 61 = .ok (.invokestatic 99, 3) := by decide +kernel
theorem d_M_make_64 : decode prog_10_method_16_code 64 = .ok (.invokevirtual 112, 3) := by decide +kernel
theorem d_M_make_67 : decode prog_10_method_16_code 67 = .ok (.iconst 1, 1) := by decide +kernel
theorem d_M_make_68 : decode prog_10_method_16_code 68 = .ok (.ireturn, 1) := by decide +kernel
set_option maxHeartbeats 4000000 in
set_option maxRecDepth 100000 in
theorem c_M_make {l : Launch} {E : Ev} {σ : SS} {ad : Nat → Nat} (hI : rfI ad) (hB : rB σ) {sz : Nat} {x y : Int32} {b : Bool} (hN : ∀ j, σ 0 j < 1300) (hk : rmb σ (tx x) (ix y) = true → σ 4 0 + 1 < 1300 ∧ σ 5 0 + 1 < 32768 ∧ tok (pd (pp (ix y))) (mk4 σ (tx x) (ix y) (if b = true then 1 else 2)) (tx x) (pp (ix y))) : MCi l E y_M_make prog_10_method_16_code 5 (some .boolean) 3 69 0 0 [.ref (ad 0), .int x, .int y, .int (bz b)] (rfM E σ ad) sz (fun r M' => r = bz (rmb σ (tx x) (ix y)) ∧ M' = rfM E (mkO σ (tx x) (ix y) b) ad ∧ rB (mkO σ (tx x) (ix y) b)) := by
  refine mc_of R_M rfl [some (.ref (ad 0)), some (.int x), some (.int y), some (.int (bz b)), none] (by decide) (Nat.le_of_ble_eq_true rfl) rfl ?_
  intro p e R s m ag below meth c ls Q A X hAe hQ hR hsz hw hl
  rw [← hAe] at hQ
  obtain ⟨⟨hx, hb, hml, hown, hts⟩, hE, hA, hr, hlk, hnm⟩ := X
  have hK := hE.1
  first | refine x_aload_n hx hb d_M_make_0 hl rfl ?_ | refine x_aload_nQ hx hb d_M_make_0 hl rfl ?_
  refine x_iload_n hx hb d_M_make_1 hl rfl ?_
  refine x_iload_n hx hb d_M_make_2 hl rfl ?_
  refine m_calli (k_V ⟨hx, hb, hml, hown, hts⟩ hE hA hw (c_M_room hI hB hN) (ci_M).1 rfl (rf_at hI 0 (by decide) rfl) (wm3 153 rfl rfl) (wm3 155 rfl rfl) (wmp2 5 rfl) (wm1 9 rfl rfl) (wm3 156 rfl rfl) rfl rfl ar_M_room ⟨Nat.le_trans (Nat.le_of_ble_eq_true rfl) hR.1, Nat.le_trans (Nat.le_of_ble_eq_true rfl) hR.2.1⟩ rfl hl.1 rfl (Nat.le_of_ble_eq_true rfl) d_M_make_3 ⟨Nat.le_trans (Nat.le_of_ble_eq_true rfl) hR.2.2.1, Nat.le_trans (Nat.le_of_ble_eq_true rfl) hR.2.2.2⟩) hw (mfr_in hw hA) (fun r3 M3 H locs hP3 hw => ?_)
  obtain ⟨rfl, hM3⟩ := hP3
  rw [hM3] at hw
  refine x_if_neB hx hb d_M_make_6 rfl (fun h6 => ?_) (fun h6 => ?_)
  · obtain ⟨t, ht, rfl, q, hq, rfl, hq0⟩ := rmb_of h6
    rw [tx_n ht, ix_n hq] at h6
    obtain ⟨k1, k2, k3⟩ := hk (by rw [tx_n ht, ix_n hq]; exact h6)
    rw [tx_n ht, ix_n hq] at k3
    have hp1 := pp_lt q
    first | refine x_aload_n hx hb d_M_make_11 hl rfl ?_ | refine x_aload_nQ hx hb d_M_make_11 hl rfl ?_
    refine x_iload_n hx hb d_M_make_12 hl rfl ?_
    refine x_iload_n hx hb d_M_make_13 hl rfl ?_
    refine x_if_eqB hx hb d_M_make_14 rfl (fun h14 => ?_) (fun h14 => ?_)
    · subst h14
      refine lv_iconst (v := nI 2) hx hb d_M_make_21 (by decide) ?_
      refine lv_iconst (v := nI 0) hx hb d_M_make_22 (by decide) ?_
      refine m_calli (k_V ⟨hx, hb, hml, hown, hts⟩ hE hA hw (c_M_node0 hI hB (by omega) (by omega) (by omega)) (ci_M).1 rfl (rf_at hI 0 (by decide) rfl) (wm3 177 rfl rfl) (wm3 179 rfl rfl) (wmp2 8 rfl) (wm1 9 rfl rfl) (wm3 180 rfl rfl) rfl rfl ar_M_node ⟨Nat.le_trans (Nat.le_of_ble_eq_true rfl) hR.1, Nat.le_trans (Nat.le_of_ble_eq_true rfl) hR.2.1⟩ rfl hl.1 rfl (Nat.le_of_ble_eq_true rfl) d_M_make_23 ⟨Nat.le_trans (Nat.le_of_ble_eq_true rfl) hR.2.2.1, Nat.le_trans (Nat.le_of_ble_eq_true rfl) hR.2.2.2⟩) hw (mfr_in hw hA) (fun r23 M23 H locs hP23 hw => ?_)
      obtain ⟨rfl, hM23, hB⟩ := hP23
      rw [hM23] at hw
      refine x_istore hx hb d_M_make_26 hl (Nat.le_of_ble_eq_true rfl) (lh_k (i := 3) rfl (by first | exact lk_n | exact lk_i | exact lk_r | exact lk_q | exact lk_0)) (fun ls hl => ?_)
      first | refine x_aload_n hx hb d_M_make_28 hl rfl ?_ | refine x_aload_nQ hx hb d_M_make_28 hl rfl ?_
      first | refine lv_dup hx hb d_M_make_29 rfl ?_ | refine lv_dup hx hb d_M_make_29 (va_rf_c _) ?_
      refine m_get (v := .int (nI (σ 5 0))) hx hb hts hown hK hw ci_M (rf_at hI 0 (by decide) rfl) 5 (by decide) (wm3 77 rfl rfl) rfl d_M_make_30 ?_
      refine lv_iconst (v := nI 1) hx hb d_M_make_33 (by decide) ?_
      first | refine x_iadd hx hb d_M_make_34 ?_ | refine lv_iadd hx hb d_M_make_34 ?_
      refine rp_5 hx hb hts hown hK hI hB hw (wm3 77 rfl rfl) (by omega) d_M_make_35 (fun H locs hw hB => ?_)
      first | refine x_aload_n hx hb d_M_make_38 hl rfl ?_ | refine x_aload_nQ hx hb d_M_make_38 hl rfl ?_
      refine m_get hx hb hts hown hK hw ci_M (rf_at hI 0 (by decide) rfl) 10 (by decide) (wm3 82 rfl rfl) rfl d_M_make_39 ?_
      refine x_iload hx hb d_M_make_42 hl rfl ?_
      first | refine x_aload_n hx hb d_M_make_44 hl rfl ?_ | refine x_aload_nQ hx hb d_M_make_44 hl rfl ?_
      refine m_get (v := .int (nI (σ 5 0 + 1))) hx hb hts hown hK hw ci_M (rf_at hI 0 (by decide) rfl) 5 (by decide) (wm3 77 rfl rfl) rfl d_M_make_45 ?_
      first | refine x_i2s hx hb d_M_make_48 (by omega) ?_ | refine lv_i2s hx hb d_M_make_48 rfl ?_
      refine rs_10 hx hb hK hI hB hw (by omega) (by omega) d_M_make_49 (fun H locs hw hB => ?_)
      first | refine x_aload_n hx hb d_M_make_50 hl rfl ?_ | refine x_aload_nQ hx hb d_M_make_50 hl rfl ?_
      refine x_iload_n hx hb d_M_make_51 hl rfl ?_
      refine x_iload_n hx hb d_M_make_52 hl rfl ?_
      refine x_iload hx hb d_M_make_53 hl rfl ?_
      refine m_callv (k_V ⟨hx, hb, hml, hown, hts⟩ hE hA hw (c_M_place hI hB (by omega) (by omega) (by omega)) (ci_M).1 rfl (rf_at hI 0 (by decide) rfl) (wm3 181 rfl rfl) (wm3 183 rfl rfl) (wmp2 9 rfl) (wm1 9 rfl rfl) (wm3 184 rfl rfl) rfl rfl ar_M_place ⟨Nat.le_trans (Nat.le_of_ble_eq_true rfl) hR.1, Nat.le_trans (Nat.le_of_ble_eq_true rfl) hR.2.1⟩ rfl hl.1 rfl (Nat.le_of_ble_eq_true rfl) d_M_make_55 ⟨Nat.le_trans (Nat.le_of_ble_eq_true rfl) hR.2.2.1, Nat.le_trans (Nat.le_of_ble_eq_true rfl) hR.2.2.2⟩) hw (mfr_in hw hA) (fun M55 H locs hP55 hw => ?_)
      obtain ⟨hM55, hB⟩ := hP55
      rw [hM55] at hw
      first | refine x_aload_n hx hb d_M_make_58 hl rfl ?_ | refine x_aload_nQ hx hb d_M_make_58 hl rfl ?_
      refine x_iload_n hx hb d_M_make_59 hl rfl ?_
      refine x_iload_n hx hb d_M_make_60 hl rfl ?_
      refine m_calli (k_S ⟨hx, hb, hml, hown, hts⟩ hE hA hw (c_M_parent (by omega) (by omega)) (wm3 168 rfl rfl) (wm3 169 rfl rfl) (wm1 9 rfl rfl) (wm3 170 rfl rfl) rfl rfl ar_M_parent ⟨Nat.le_trans (Nat.le_of_ble_eq_true rfl) hR.1, Nat.le_trans (Nat.le_of_ble_eq_true rfl) hR.2.1⟩ rfl hl.1 rfl (Nat.le_of_ble_eq_true rfl) d_M_make_61 ⟨Nat.le_trans (Nat.le_of_ble_eq_true rfl) hR.2.2.1, Nat.le_trans (Nat.le_of_ble_eq_true rfl) hR.2.2.2⟩) hw (mfr_in hw hA) (fun r61 M61 H locs hP61 hw => ?_)
      obtain ⟨rfl, hM61⟩ := hP61
      rw [hM61] at hw
      refine m_callv (k_V ⟨hx, hb, hml, hown, hts⟩ hE hA hw (c_M_touch hI hB (by omega) (by omega) k3) (ci_M).1 rfl (rf_at hI 0 (by decide) rfl) (wm3 185 rfl rfl) (wm3 187 rfl rfl) (wmp2 10 rfl) (wm1 9 rfl rfl) (wm3 188 rfl rfl) rfl rfl ar_M_touch ⟨Nat.le_trans (Nat.le_of_ble_eq_true rfl) hR.1, Nat.le_trans (Nat.le_of_ble_eq_true rfl) hR.2.1⟩ rfl hl.1 rfl (Nat.le_of_ble_eq_true rfl) d_M_make_64 ⟨Nat.le_trans (Nat.le_of_ble_eq_true rfl) hR.2.2.1, Nat.le_trans (Nat.le_of_ble_eq_true rfl) hR.2.2.2⟩) hw (mfr_in hw hA) (fun M64 H locs hP64 hw => ?_)
      obtain ⟨hM64, hB⟩ := hP64
      rw [hM64] at hw
      refine lv_iconst (v := nI 1) hx hb d_M_make_67 (by decide) ?_
      exact x_reti hQ hx hb hr hlk (by first | exact nar_bz | decide) hw (by omega) (by omega) d_M_make_68 (by rw [tx_n ht, ix_n hq, mkO_t h6]; exact ⟨bz_t h6, rfl, hB⟩)
    · subst h14
      refine lv_iconst (v := nI 1) hx hb d_M_make_17 (by decide) ?_
      refine lv_goto hx hb d_M_make_18 rfl ?_
      refine lv_iconst (v := nI 0) hx hb d_M_make_22 (by decide) ?_
      refine m_calli (k_V ⟨hx, hb, hml, hown, hts⟩ hE hA hw (c_M_node0 hI hB (by omega) (by omega) (by omega)) (ci_M).1 rfl (rf_at hI 0 (by decide) rfl) (wm3 177 rfl rfl) (wm3 179 rfl rfl) (wmp2 8 rfl) (wm1 9 rfl rfl) (wm3 180 rfl rfl) rfl rfl ar_M_node ⟨Nat.le_trans (Nat.le_of_ble_eq_true rfl) hR.1, Nat.le_trans (Nat.le_of_ble_eq_true rfl) hR.2.1⟩ rfl hl.1 rfl (Nat.le_of_ble_eq_true rfl) d_M_make_23 ⟨Nat.le_trans (Nat.le_of_ble_eq_true rfl) hR.2.2.1, Nat.le_trans (Nat.le_of_ble_eq_true rfl) hR.2.2.2⟩) hw (mfr_in hw hA) (fun r23 M23 H locs hP23 hw => ?_)
      obtain ⟨rfl, hM23, hB⟩ := hP23
      rw [hM23] at hw
      refine x_istore hx hb d_M_make_26 hl (Nat.le_of_ble_eq_true rfl) (lh_k (i := 3) rfl (by first | exact lk_n | exact lk_i | exact lk_r | exact lk_q | exact lk_0)) (fun ls hl => ?_)
      first | refine x_aload_n hx hb d_M_make_28 hl rfl ?_ | refine x_aload_nQ hx hb d_M_make_28 hl rfl ?_
      first | refine lv_dup hx hb d_M_make_29 rfl ?_ | refine lv_dup hx hb d_M_make_29 (va_rf_c _) ?_
      refine m_get (v := .int (nI (σ 5 0))) hx hb hts hown hK hw ci_M (rf_at hI 0 (by decide) rfl) 5 (by decide) (wm3 77 rfl rfl) rfl d_M_make_30 ?_
      refine lv_iconst (v := nI 1) hx hb d_M_make_33 (by decide) ?_
      first | refine x_iadd hx hb d_M_make_34 ?_ | refine lv_iadd hx hb d_M_make_34 ?_
      refine rp_5 hx hb hts hown hK hI hB hw (wm3 77 rfl rfl) (by omega) d_M_make_35 (fun H locs hw hB => ?_)
      first | refine x_aload_n hx hb d_M_make_38 hl rfl ?_ | refine x_aload_nQ hx hb d_M_make_38 hl rfl ?_
      refine m_get hx hb hts hown hK hw ci_M (rf_at hI 0 (by decide) rfl) 10 (by decide) (wm3 82 rfl rfl) rfl d_M_make_39 ?_
      refine x_iload hx hb d_M_make_42 hl rfl ?_
      first | refine x_aload_n hx hb d_M_make_44 hl rfl ?_ | refine x_aload_nQ hx hb d_M_make_44 hl rfl ?_
      refine m_get (v := .int (nI (σ 5 0 + 1))) hx hb hts hown hK hw ci_M (rf_at hI 0 (by decide) rfl) 5 (by decide) (wm3 77 rfl rfl) rfl d_M_make_45 ?_
      first | refine x_i2s hx hb d_M_make_48 (by omega) ?_ | refine lv_i2s hx hb d_M_make_48 rfl ?_
      refine rs_10 hx hb hK hI hB hw (by omega) (by omega) d_M_make_49 (fun H locs hw hB => ?_)
      first | refine x_aload_n hx hb d_M_make_50 hl rfl ?_ | refine x_aload_nQ hx hb d_M_make_50 hl rfl ?_
      refine x_iload_n hx hb d_M_make_51 hl rfl ?_
      refine x_iload_n hx hb d_M_make_52 hl rfl ?_
      refine x_iload hx hb d_M_make_53 hl rfl ?_
      refine m_callv (k_V ⟨hx, hb, hml, hown, hts⟩ hE hA hw (c_M_place hI hB (by omega) (by omega) (by omega)) (ci_M).1 rfl (rf_at hI 0 (by decide) rfl) (wm3 181 rfl rfl) (wm3 183 rfl rfl) (wmp2 9 rfl) (wm1 9 rfl rfl) (wm3 184 rfl rfl) rfl rfl ar_M_place ⟨Nat.le_trans (Nat.le_of_ble_eq_true rfl) hR.1, Nat.le_trans (Nat.le_of_ble_eq_true rfl) hR.2.1⟩ rfl hl.1 rfl (Nat.le_of_ble_eq_true rfl) d_M_make_55 ⟨Nat.le_trans (Nat.le_of_ble_eq_true rfl) hR.2.2.1, Nat.le_trans (Nat.le_of_ble_eq_true rfl) hR.2.2.2⟩) hw (mfr_in hw hA) (fun M55 H locs hP55 hw => ?_)
      obtain ⟨hM55, hB⟩ := hP55
      rw [hM55] at hw
      first | refine x_aload_n hx hb d_M_make_58 hl rfl ?_ | refine x_aload_nQ hx hb d_M_make_58 hl rfl ?_
      refine x_iload_n hx hb d_M_make_59 hl rfl ?_
      refine x_iload_n hx hb d_M_make_60 hl rfl ?_
      refine m_calli (k_S ⟨hx, hb, hml, hown, hts⟩ hE hA hw (c_M_parent (by omega) (by omega)) (wm3 168 rfl rfl) (wm3 169 rfl rfl) (wm1 9 rfl rfl) (wm3 170 rfl rfl) rfl rfl ar_M_parent ⟨Nat.le_trans (Nat.le_of_ble_eq_true rfl) hR.1, Nat.le_trans (Nat.le_of_ble_eq_true rfl) hR.2.1⟩ rfl hl.1 rfl (Nat.le_of_ble_eq_true rfl) d_M_make_61 ⟨Nat.le_trans (Nat.le_of_ble_eq_true rfl) hR.2.2.1, Nat.le_trans (Nat.le_of_ble_eq_true rfl) hR.2.2.2⟩) hw (mfr_in hw hA) (fun r61 M61 H locs hP61 hw => ?_)
      obtain ⟨rfl, hM61⟩ := hP61
      rw [hM61] at hw
      refine m_callv (k_V ⟨hx, hb, hml, hown, hts⟩ hE hA hw (c_M_touch hI hB (by omega) (by omega) k3) (ci_M).1 rfl (rf_at hI 0 (by decide) rfl) (wm3 185 rfl rfl) (wm3 187 rfl rfl) (wmp2 10 rfl) (wm1 9 rfl rfl) (wm3 188 rfl rfl) rfl rfl ar_M_touch ⟨Nat.le_trans (Nat.le_of_ble_eq_true rfl) hR.1, Nat.le_trans (Nat.le_of_ble_eq_true rfl) hR.2.1⟩ rfl hl.1 rfl (Nat.le_of_ble_eq_true rfl) d_M_make_64 ⟨Nat.le_trans (Nat.le_of_ble_eq_true rfl) hR.2.2.1, Nat.le_trans (Nat.le_of_ble_eq_true rfl) hR.2.2.2⟩) hw (mfr_in hw hA) (fun M64 H locs hP64 hw => ?_)
      obtain ⟨hM64, hB⟩ := hP64
      rw [hM64] at hw
      refine lv_iconst (v := nI 1) hx hb d_M_make_67 (by decide) ?_
      exact x_reti hQ hx hb hr hlk (by first | exact nar_bz | decide) hw (by omega) (by omega) d_M_make_68 (by rw [tx_n ht, ix_n hq, mkO_t h6]; exact ⟨bz_t h6, rfl, hB⟩)
  · refine lv_iconst (v := nI 0) hx hb d_M_make_9 (by decide) ?_
    exact x_reti hQ hx hb hr hlk (by first | exact nar_bz | decide) hw (by omega) (by omega) d_M_make_10 (⟨bz_f (by rw [h6]; decide), by rw [mkO_f h6], by rw [mkO_f h6]; exact hB⟩)
end
section
/-! answers of the reading calls -/
section AN
/-- the table of revision or transaction x: 19 where there is none -/
def tbn (σ : SS) (x : Int32) : Nat := if 0 ≤ x then (if x ≤ nI (σ 1 0) then x.toNatClampNeg else 19) else if opb σ (tx (-1 - x)) = true then 16 + tx (-1 - x) else 19
def tI (n : Nat) : Int32 := if n = 19 then -1 else nI n
def fI (n : Nat) : Int32 := if n = 40000 then -1 else nI n
def fd (σ : SS) (x y : Int32) : Nat := if tbn σ x = 19 then 40000 else rat σ (tbn σ x) (ix y)
theorem tI_n {n : Nat} (h : n ≠ 19) : tI n = nI n := if_neg h
theorem fI_n {n : Nat} (h : n ≠ 40000) : fI n = nI n := if_neg h
theorem fI_ge {v : Nat} (h : 0 ≤ fI v) : v ≠ 40000 := by rintro rfl; exact absurd h (by decide)
theorem fI_nge {v : Nat} (hv : v < 2 ^ 31) (h : ¬ 0 ≤ fI v) : v = 40000 := by
  rcases Nat.decEq v 40000 with z | z
  · rw [fI_n z] at h
    exact absurd (nI_pos' hv) h
  · exact z
theorem fI_le {v : Nat} (hv : v < 2 ^ 31) (h : fI v ≤ 0) : v = 40000 ∨ v = 0 := by
  rcases Nat.decEq v 40000 with z | z
  · rw [fI_n z] at h
    exact Or.inr ((nI_q hv).mp h)
  · exact Or.inl z
theorem fI_nle {v : Nat} (hv : v < 2 ^ 31) (h : ¬ fI v ≤ 0) : v ≠ 40000 ∧ 0 < v := by
  have h1 : v ≠ 40000 := by rintro rfl; exact h (by decide)
  refine ⟨h1, ?_⟩
  rw [fI_n h1] at h
  rcases Nat.eq_zero_or_pos v with z | z
  · exact absurd ((nI_q hv).mpr z) h
  · exact z
theorem tI_ge {v : Nat} (h : 0 ≤ tI v) : v ≠ 19 := by rintro rfl; exact absurd h (by decide)
theorem tI_nge {v : Nat} (hv : v < 2 ^ 31) (h : ¬ 0 ≤ tI v) : v = 19 := by
  rcases Nat.decEq v 19 with z | z
  · rw [tI_n z] at h
    exact absurd (nI_pos' hv) h
  · exact z
theorem ge_of {x : Int32} (h : ¬ x < 0) : 0 ≤ x := by
  rw [Int32.le_iff_toInt_le]
  rw [Int32.lt_iff_toInt_lt] at h
  omega
theorem le_of {x y : Int32} (h : ¬ y < x) : x ≤ y := by
  rw [Int32.le_iff_toInt_le]
  rw [Int32.lt_iff_toInt_lt] at h
  omega
theorem nge_of {x : Int32} (h : x < 0) : ¬ 0 ≤ x := by
  rw [Int32.le_iff_toInt_le]
  rw [Int32.lt_iff_toInt_lt] at h
  omega
theorem nle_of {x y : Int32} (h : y < x) : ¬ x ≤ y := by
  rw [Int32.le_iff_toInt_le]
  rw [Int32.lt_iff_toInt_lt] at h
  omega
theorem tb_1 {σ : SS} {x : Int32} (hy : σ 1 0 ≤ 15) (h1 : ¬ x < 0) (h2 : ¬ nI (σ 1 0) < x) : tbn σ x ≤ 15 ∧ x = nI (tbn σ x) := by
  obtain ⟨k, hk, rfl⟩ := nI_of2b (M := nI (σ 1 0)) (n := σ 1 0) (nI_toInt (by omega)) h1 h2
  unfold tbn
  rw [if_pos (ge_of h1), if_pos (le_of h2), nI_clamp (by omega)]
  exact ⟨by omega, rfl⟩
theorem tb_2 {σ : SS} {x : Int32} (h1 : 0 ≤ x) (h2 : nI (σ 1 0) < x) : tbn σ x = 19 := by
  unfold tbn
  rw [if_pos h1, if_neg (nle_of h2)]
theorem neg3 {x : Int32} (h1 : ¬ 0 ≤ x) (h2 : ¬ x < -3) : ∃ t, t < 3 ∧ x = -1 - nI t := by
  rw [Int32.le_iff_toInt_le] at h1
  rw [Int32.lt_iff_toInt_lt] at h2
  have e0 : (0 : Int32).toInt = 0 := by decide
  have e3 : (-3 : Int32).toInt = -3 := by decide
  rw [e0] at h1
  rw [e3] at h2
  rcases (show x.toInt = -1 ∨ x.toInt = -2 ∨ x.toInt = -3 by omega) with h | h | h
  · exact ⟨0, by omega, Int32.toInt_inj.mp (h.trans (by decide))⟩
  · exact ⟨1, by omega, Int32.toInt_inj.mp (h.trans (by decide))⟩
  · exact ⟨2, by omega, Int32.toInt_inj.mp (h.trans (by decide))⟩
theorem neg_t {t : Nat} (h : t < 3) : -1 - (-1 - nI t) = nI t := by
  rcases (show t = 0 ∨ t = 1 ∨ t = 2 by omega) with rfl | rfl | rfl <;> decide
theorem neg_u {t : Nat} (h : t < 3) : nI 15 - (-1 - nI t) = nI (16 + t) := by
  rcases (show t = 0 ∨ t = 1 ∨ t = 2 by omega) with rfl | rfl | rfl <;> decide
theorem neg_l {t : Nat} (h : t < 3) : ¬ (0 : Int32) ≤ -1 - nI t := by
  rcases (show t = 0 ∨ t = 1 ∨ t = 2 by omega) with rfl | rfl | rfl <;> decide
theorem tb_4 {σ : SS} {t : Nat} (ht : t < 3) (h : σ 2 t = 0) : tbn σ (-1 - nI t) = 19 := by
  unfold tbn
  rw [if_neg (neg_l ht), neg_t ht, tx_n ht, if_neg (opb_f h)]
theorem tb_5 {σ : SS} {t : Nat} (ht : t < 3) (h : σ 2 t ≠ 0) : tbn σ (-1 - nI t) = 16 + t := by
  unfold tbn
  rw [if_neg (neg_l ht), neg_t ht, tx_n ht, if_pos (opb_t ht h)]
theorem tx_bad {x : Int32} (h : x < -3) : tx (-1 - x) = 3 := by
  apply tx_gt
  rw [Int32.lt_iff_toInt_lt] at h ⊢
  have e3 : (-3 : Int32).toInt = -3 := by decide
  have e2 : (nI 2).toInt = 2 := by decide
  have e1 : (-1 : Int32).toInt = -1 := by decide
  have hlo := Int32.le_toInt x
  rw [e3] at h
  rw [e2, Int32.toInt_sub, e1, Int.bmod_eq_of_le (by omega) (by omega)]
  omega
theorem tb_3 {σ : SS} {x : Int32} (h1 : ¬ 0 ≤ x) (h : x < -3) : tbn σ x = 19 := by
  unfold tbn
  rw [if_neg h1, tx_bad h, if_neg opb_3]
theorem tbn_le {σ : SS} (hy : σ 1 0 ≤ 15) (x : Int32) : tbn σ x ≤ 19 := by
  unfold tbn
  split
  · split
    · next h1 h2 =>
      obtain ⟨k, hk, rfl⟩ := nI_of2 (M := nI (σ 1 0)) (n := σ 1 0) (nI_toInt (by omega)) (fun z => nge_of z h1) h2
      rw [nI_clamp (by omega)]
      omega
    · omega
  · split
    · next h1 h2 =>
      obtain ⟨t, ht, e, -⟩ := opb_of h2
      rw [e, tx_n ht]
      omega
    · omega
theorem fd_N {σ : SS} (h : ∀ j, σ 0 j < 1300) (x y : Int32) : fd σ x y = 40000 ∨ fd σ x y < 1300 := by
  unfold fd
  split
  · exact Or.inl rfl
  · exact Or.inr (rat_N h)
/-- is node n a file -/
def flb (σ : SS) (n : Nat) : Bool := decide (n ≠ 40000) && decide (n ≠ 0) && decide (σ 6 n = 2)
theorem flb_1 {σ : SS} {n : Nat} (h : n = 40000 ∨ n = 0) : ¬ flb σ n = true := by rcases h with rfl | rfl <;> simp [flb]
theorem flb_2 {σ : SS} {n : Nat} (h : σ 6 n ≠ 2) : ¬ flb σ n = true := by simp [flb, h]
theorem flb_t {σ : SS} {n : Nat} (h : n ≠ 40000 ∧ 0 < n) (h2 : σ 6 n = 2) : flb σ n = true := by
  have h3 : n ≠ 0 := by omega
  simp [flb, h.1, h3, h2]
theorem flb_of {σ : SS} {n : Nat} (h : flb σ n = true) : n ≠ 40000 ∧ 0 < n ∧ σ 6 n = 2 := by
  simp only [flb, Bool.and_eq_true, decide_eq_true_eq] at h
  exact ⟨h.1.1, by omega, h.2⟩
def aKind (σ : SS) (n : Nat) : Int32 := if n = 40000 then -1 else nI (σ 6 n)
def aText (σ : SS) (n : Nat) : Int64 := if flb σ n = true then lN (σ 9 n) else -1
def aLen (σ : SS) (n : Nat) : Int32 := if flb σ n = true then nI (σ 7 n) else -1
def aLine (σ : SS) (n : Nat) : Int32 := if n = 40000 ∨ n = 0 then -1 else nI (σ 10 n)
def aCount (σ : SS) (n : Nat) : Int32 := if n = 40000 ∨ n = 0 then -1 else nI (σ 11 n)
def aBorn (σ : SS) (n : Nat) : Int32 := if (n = 40000 ∨ n = 0) ∨ 128 ≤ σ 12 n then -1 else nI (σ 12 n)
/-- the revision of an int: 16 where it is none -/
def rvn (σ : SS) (x : Int32) : Nat := if 0 ≤ x ∧ x ≤ nI (σ 1 0) then x.toNatClampNeg else 16
def aRep (σ : SS) (x y : Int32) : Int32 := if rvn σ x = 16 then -1 else if flb σ (rat σ (rvn σ x) (ix y)) = true ∧ 0 < σ 15 (rat σ (rvn σ x) (ix y)) then nI (σ 15 (rat σ (rvn σ x) (ix y)) - 1) else -1
theorem rv_1 {σ : SS} {x : Int32} (hy : σ 1 0 ≤ 15) (h1 : ¬ x < 0) (h2 : x ≤ nI (σ 1 0)) : ∃ r, r ≤ σ 1 0 ∧ x = nI r ∧ rvn σ x = r := by
  obtain ⟨k, hk, rfl⟩ := nI_of2 (M := nI (σ 1 0)) (n := σ 1 0) (nI_toInt (by omega)) h1 h2
  refine ⟨k, hk, rfl, ?_⟩
  unfold rvn
  rw [if_pos ⟨ge_of h1, h2⟩, nI_clamp (by omega)]
theorem rv_2 {σ : SS} {x : Int32} (h : x < 0) : rvn σ x = 16 := if_neg (fun z => nge_of h z.1)
theorem rv_3 {σ : SS} {x : Int32} (h : ¬ x ≤ nI (σ 1 0)) : rvn σ x = 16 := if_neg (fun z => h z.2)
def abO (σ : SS) (t : Nat) : SS := if opb σ t = true then sp σ 2 t 0 else σ
theorem abO_f {σ : SS} {t : Nat} (h : opb σ t = false) : abO σ t = σ := if_neg (by rw [h]; decide)
theorem abO_t {σ : SS} {t : Nat} (h : opb σ t = true) : abO σ t = sp σ 2 t 0 := if_pos h
end AN
end
section
theorem d_M_table_0 : decode prog_10_method_7_code 0 = .ok (.iload_n 1, 1) := by decide +kernel
theorem d_M_table_1 : decode prog_10_method_7_code 1 = .ok (.ifCond .lt 15, 3) := by decide +kernel
theorem d_M_table_4 : decode prog_10_method_7_code 4 = .ok (.iload_n 1, 1) := by decide +kernel
theorem d_M_table_5 : decode prog_10_method_7_code 5 = .ok (.aload_n 0, 1) := by decide +kernel
theorem d_M_table_6 : decode prog_10_method_7_code 6 = .ok (.getfield 76, 3) := by decide +kernel
theorem d_M_table_9 : decode prog_10_method_7_code 9 = .ok (.if_icmp .gt 7, 3) := by decide +kernel
theorem d_M_table_12 : decode prog_10_method_7_code 12 = .ok (.iload_n 1, 1) := by decide +kernel
theorem d_M_table_13 : decode prog_10_method_7_code 13 = .ok (.goto 32, 3) := by decide +kernel
theorem d_M_table_16 : decode prog_10_method_7_code 16 = .ok (.iload_n 1, 1) := by decide +kernel
theorem d_M_table_17 : decode prog_10_method_7_code 17 = .ok (.ifCond .ge 27, 3) := by decide +kernel
theorem d_M_table_20 : decode prog_10_method_7_code 20 = .ok (.iload_n 1, 1) := by decide +kernel
theorem d_M_table_21 : decode prog_10_method_7_code 21 = .ok (.bipush (-3), 2) := by decide +kernel
theorem d_M_table_23 : decode prog_10_method_7_code 23 = .ok (.if_icmp .lt 21, 3) := by decide +kernel
theorem d_M_table_26 : decode prog_10_method_7_code 26 = .ok (.aload_n 0, 1) := by decide +kernel
theorem d_M_table_27 : decode prog_10_method_7_code 27 = .ok (.getfield 13, 3) := by decide +kernel
theorem d_M_table_30 : decode prog_10_method_7_code 30 = .ok (.iconst (-1), 1) := by decide +kernel
theorem d_M_table_31 : decode prog_10_method_7_code 31 = .ok (.iload_n 1, 1) := by decide +kernel
theorem d_M_table_32 : decode prog_10_method_7_code 32 = .ok (.isub, 1) := by decide +kernel
theorem d_M_table_33 : decode prog_10_method_7_code 33 = .ok (.baload, 1) := by decide +kernel
theorem d_M_table_34 : decode prog_10_method_7_code 34 = .ok (.ifCond .eq 10, 3) := by decide +kernel
theorem d_M_table_37 : decode prog_10_method_7_code 37 = .ok (.bipush 15, 2) := by decide +kernel
theorem d_M_table_39 : decode prog_10_method_7_code 39 = .ok (.iload_n 1, 1) := by decide +kernel
theorem d_M_table_40 : decode prog_10_method_7_code 40 = .ok (.isub, 1) := by decide +kernel
theorem d_M_table_41 : decode prog_10_method_7_code 41 = .ok (.goto 4, 3) := by decide +kernel
theorem d_M_table_44 : decode prog_10_method_7_code 44 = .ok (.iconst (-1), 1) := by decide +kernel
theorem d_M_table_45 : decode prog_10_method_7_code 45 = .ok (.ireturn, 1) := by decide +kernel

theorem d_M_find_0 : decode prog_10_method_31_code 0 = .ok (.aload_n 0, 1) := by decide +kernel
theorem d_M_find_1 : decode prog_10_method_31_code 1 = .ok (.iload_n 1, 1) := by decide +kernel
theorem d_M_find_2 : decode prog_10_method_31_code 2 = .ok (.invokevirtual 148, 3) := by decide +kernel
theorem d_M_find_5 : decode prog_10_method_31_code 5 = .ok (.istore_n 3, 1) := by decide +kernel
theorem d_M_find_6 : decode prog_10_method_31_code 6 = .ok (.iload_n 3, 1) := by decide +kernel
theorem d_M_find_7 : decode prog_10_method_31_code 7 = .ok (.ifCond .ge 7, 3) := by decide +kernel
theorem d_M_find_10 : decode prog_10_method_31_code 10 = .ok (.iconst (-1), 1) := by decide +kernel
theorem d_M_find_11 : decode prog_10_method_31_code 11 = .ok (.goto 9, 3) := by decide +kernel
theorem d_M_find_14 : decode prog_10_method_31_code 14 = .ok (.aload_n 0, 1) := by decide +kernel
theorem d_M_find_15 : decode prog_10_method_31_code 15 = .ok (.iload_n 3, 1) := by decide +kernel
theorem d_M_find_16 : decode prog_10_method_31_code 16 = .ok (.iload_n 2, 1) := by decide +kernel
theorem d_M_find_17 : decode prog_10_method_31_code 17 = .ok (.invokevirtual 87, 3) := by decide +kernel
theorem d_M_find_20 : decode prog_10_method_31_code 20 = .ok (.ireturn, 1) := by decide +kernel

theorem d_M_kind_0 : decode prog_10_method_32_code 0 = .ok (.aload_n 0, 1) := by decide +kernel
theorem d_M_kind_1 : decode prog_10_method_32_code 1 = .ok (.iload_n 1, 1) := by decide +kernel
theorem d_M_kind_2 : decode prog_10_method_32_code 2 = .ok (.iload_n 2, 1) := by decide +kernel
theorem d_M_kind_3 : decode prog_10_method_32_code 3 = .ok (.invokevirtual 151, 3) := by decide +kernel
theorem d_M_kind_6 : decode prog_10_method_32_code 6 = .ok (.istore_n 3, 1) := by decide +kernel
theorem d_M_kind_7 : decode prog_10_method_32_code 7 = .ok (.iload_n 3, 1) := by decide +kernel
theorem d_M_kind_8 : decode prog_10_method_32_code 8 = .ok (.ifCond .ge 7, 3) := by decide +kernel
theorem d_M_kind_11 : decode prog_10_method_32_code 11 = .ok (.iconst (-1), 1) := by decide +kernel
theorem d_M_kind_12 : decode prog_10_method_32_code 12 = .ok (.goto 9, 3) := by decide +kernel
theorem d_M_kind_15 : decode prog_10_method_32_code 15 = .ok (.aload_n 0, 1) := by decide +kernel
theorem d_M_kind_16 : decode prog_10_method_32_code 16 = .ok (.getfield 21, 3) := by decide +kernel
theorem d_M_kind_19 : decode prog_10_method_32_code 19 = .ok (.iload_n 3, 1) := by decide +kernel
theorem d_M_kind_20 : decode prog_10_method_32_code 20 = .ok (.baload, 1) := by decide +kernel
theorem d_M_kind_21 : decode prog_10_method_32_code 21 = .ok (.ireturn, 1) := by decide +kernel

theorem d_M_isFile_0 : decode prog_10_method_33_code 0 = .ok (.iload_n 1, 1) := by decide +kernel
theorem d_M_isFile_1 : decode prog_10_method_33_code 1 = .ok (.ifCond .le 17, 3) := by decide +kernel
theorem d_M_isFile_4 : decode prog_10_method_33_code 4 = .ok (.aload_n 0, 1) := by decide +kernel
theorem d_M_isFile_5 : decode prog_10_method_33_code 5 = .ok (.getfield 21, 3) := by decide +kernel
theorem d_M_isFile_8 : decode prog_10_method_33_code 8 = .ok (.iload_n 1, 1) := by decide +kernel
theorem d_M_isFile_9 : decode prog_10_method_33_code 9 = .ok (.baload, 1) := by decide +kernel
theorem d_M_isFile_10 : decode prog_10_method_33_code 10 = .ok (.iconst 2, 1) := by decide +kernel
theorem d_M_isFile_11 : decode prog_10_method_33_code 11 = .ok (.if_icmp .ne 7, 3) := by decide +kernel
theorem d_M_isFile_14 : decode prog_10_method_33_code 14 = .ok (.iconst 1, 1) := by decide +kernel
theorem d_M_isFile_15 : decode prog_10_method_33_code 15 = .ok (.goto 4, 3) := by decide +kernel
theorem d_M_isFile_18 : decode prog_10_method_33_code 18 = .ok (.iconst 0, 1) := by decide +kernel
theorem d_M_isFile_19 : decode prog_10_method_33_code 19 = .ok (.ireturn, 1) := by decide +kernel

theorem d_M_text_0 : decode prog_10_method_34_code 0 = .ok (.aload_n 0, 1) := by decide +kernel
theorem d_M_text_1 : decode prog_10_method_34_code 1 = .ok (.iload_n 1, 1) := by decide +kernel
theorem d_M_text_2 : decode prog_10_method_34_code 2 = .ok (.iload_n 2, 1) := by decide +kernel
theorem d_M_text_3 : decode prog_10_method_34_code 3 = .ok (.invokevirtual 151, 3) := by decide +kernel
theorem d_M_text_6 : decode prog_10_method_34_code 6 = .ok (.istore_n 3, 1) := by decide +kernel
theorem d_M_text_7 : decode prog_10_method_34_code 7 = .ok (.aload_n 0, 1) := by decide +kernel
theorem d_M_text_8 : decode prog_10_method_34_code 8 = .ok (.iload_n 3, 1) := by decide +kernel
theorem d_M_text_9 : decode prog_10_method_34_code 9 = .ok (.invokevirtual 154, 3) := by decide +kernel
theorem d_M_text_12 : decode prog_10_method_34_code 12 = .ok (.ifCond .eq 12, 3) := by decide +kernel
theorem d_M_text_15 : decode prog_10_method_34_code 15 = .ok (.aload_n 0, 1) := by decide +kernel
theorem d_M_text_16 : decode prog_10_method_34_code 16 = .ok (.getfield 31, 3) := by decide +kernel
theorem d_M_text_19 : decode prog_10_method_34_code 19 = .ok (.iload_n 3, 1) := by decide +kernel
theorem d_M_text_20 : decode prog_10_method_34_code 20 = .ok (.laload, 1) := by decide +kernel
theorem d_M_text_21 : decode prog_10_method_34_code 21 = .ok (.goto 6, 3) := by decide +kernel
theorem d_M_text_24 : decode prog_10_method_34_code 24 = .ok (.ldc2_w 157, 3) := by decide +kernel
theorem d_M_text_27 : decode prog_10_method_34_code 27 = .ok (.lreturn, 1) := by decide +kernel

theorem d_M_length_0 : decode prog_10_method_35_code 0 = .ok (.aload_n 0, 1) := by decide +kernel
theorem d_M_length_1 : decode prog_10_method_35_code 1 = .ok (.iload_n 1, 1) := by decide +kernel
theorem d_M_length_2 : decode prog_10_method_35_code 2 = .ok (.iload_n 2, 1) := by decide +kernel
theorem d_M_length_3 : decode prog_10_method_35_code 3 = .ok (.invokevirtual 151, 3) := by decide +kernel
theorem d_M_length_6 : decode prog_10_method_35_code 6 = .ok (.istore_n 3, 1) := by decide +kernel
theorem d_M_length_7 : decode prog_10_method_35_code 7 = .ok (.aload_n 0, 1) := by decide +kernel
theorem d_M_length_8 : decode prog_10_method_35_code 8 = .ok (.iload_n 3, 1) := by decide +kernel
theorem d_M_length_9 : decode prog_10_method_35_code 9 = .ok (.invokevirtual 154, 3) := by decide +kernel
theorem d_M_length_12 : decode prog_10_method_35_code 12 = .ok (.ifCond .eq 12, 3) := by decide +kernel
theorem d_M_length_15 : decode prog_10_method_35_code 15 = .ok (.aload_n 0, 1) := by decide +kernel
theorem d_M_length_16 : decode prog_10_method_35_code 16 = .ok (.getfield 25, 3) := by decide +kernel
theorem d_M_length_19 : decode prog_10_method_35_code 19 = .ok (.iload_n 3, 1) := by decide +kernel
theorem d_M_length_20 : decode prog_10_method_35_code 20 = .ok (.baload, 1) := by decide +kernel
theorem d_M_length_21 : decode prog_10_method_35_code 21 = .ok (.goto 4, 3) := by decide +kernel
theorem d_M_length_24 : decode prog_10_method_35_code 24 = .ok (.iconst (-1), 1) := by decide +kernel
theorem d_M_length_25 : decode prog_10_method_35_code 25 = .ok (.ireturn, 1) := by decide +kernel

theorem d_M_line_0 : decode prog_10_method_36_code 0 = .ok (.aload_n 0, 1) := by decide +kernel
theorem d_M_line_1 : decode prog_10_method_36_code 1 = .ok (.iload_n 1, 1) := by decide +kernel
theorem d_M_line_2 : decode prog_10_method_36_code 2 = .ok (.iload_n 2, 1) := by decide +kernel
theorem d_M_line_3 : decode prog_10_method_36_code 3 = .ok (.invokevirtual 151, 3) := by decide +kernel
theorem d_M_line_6 : decode prog_10_method_36_code 6 = .ok (.istore_n 3, 1) := by decide +kernel
theorem d_M_line_7 : decode prog_10_method_36_code 7 = .ok (.iload_n 3, 1) := by decide +kernel
theorem d_M_line_8 : decode prog_10_method_36_code 8 = .ok (.ifCond .le 12, 3) := by decide +kernel
theorem d_M_line_11 : decode prog_10_method_36_code 11 = .ok (.aload_n 0, 1) := by decide +kernel
theorem d_M_line_12 : decode prog_10_method_36_code 12 = .ok (.getfield 35, 3) := by decide +kernel
theorem d_M_line_15 : decode prog_10_method_36_code 15 = .ok (.iload_n 3, 1) := by decide +kernel
theorem d_M_line_16 : decode prog_10_method_36_code 16 = .ok (.saload, 1) := by decide +kernel
theorem d_M_line_17 : decode prog_10_method_36_code 17 = .ok (.goto 4, 3) := by decide +kernel
theorem d_M_line_20 : decode prog_10_method_36_code 20 = .ok (.iconst (-1), 1) := by decide +kernel
theorem d_M_line_21 : decode prog_10_method_36_code 21 = .ok (.ireturn, 1) := by decide +kernel

theorem d_M_count_0 : decode prog_10_method_37_code 0 = .ok (.aload_n 0, 1) := by decide +kernel
theorem d_M_count_1 : decode prog_10_method_37_code 1 = .ok (.iload_n 1, 1) := by decide +kernel
theorem d_M_count_2 : decode prog_10_method_37_code 2 = .ok (.iload_n 2, 1) := by decide +kernel
theorem d_M_count_3 : decode prog_10_method_37_code 3 = .ok (.invokevirtual 151, 3) := by decide +kernel
theorem d_M_count_6 : decode prog_10_method_37_code 6 = .ok (.istore_n 3, 1) := by decide +kernel
theorem d_M_count_7 : decode prog_10_method_37_code 7 = .ok (.iload_n 3, 1) := by decide +kernel
theorem d_M_count_8 : decode prog_10_method_37_code 8 = .ok (.ifCond .le 12, 3) := by decide +kernel
theorem d_M_count_11 : decode prog_10_method_37_code 11 = .ok (.aload_n 0, 1) := by decide +kernel
theorem d_M_count_12 : decode prog_10_method_37_code 12 = .ok (.getfield 38, 3) := by decide +kernel
theorem d_M_count_15 : decode prog_10_method_37_code 15 = .ok (.iload_n 3, 1) := by decide +kernel
theorem d_M_count_16 : decode prog_10_method_37_code 16 = .ok (.saload, 1) := by decide +kernel
theorem d_M_count_17 : decode prog_10_method_37_code 17 = .ok (.goto 4, 3) := by decide +kernel
theorem d_M_count_20 : decode prog_10_method_37_code 20 = .ok (.iconst (-1), 1) := by decide +kernel
theorem d_M_count_21 : decode prog_10_method_37_code 21 = .ok (.ireturn, 1) := by decide +kernel

theorem d_M_created_0 : decode prog_10_method_38_code 0 = .ok (.aload_n 0, 1) := by decide +kernel
theorem d_M_created_1 : decode prog_10_method_38_code 1 = .ok (.iload_n 1, 1) := by decide +kernel
theorem d_M_created_2 : decode prog_10_method_38_code 2 = .ok (.iload_n 2, 1) := by decide +kernel
theorem d_M_created_3 : decode prog_10_method_38_code 3 = .ok (.invokevirtual 151, 3) := by decide +kernel
theorem d_M_created_6 : decode prog_10_method_38_code 6 = .ok (.istore_n 3, 1) := by decide +kernel
theorem d_M_created_7 : decode prog_10_method_38_code 7 = .ok (.iload_n 3, 1) := by decide +kernel
theorem d_M_created_8 : decode prog_10_method_38_code 8 = .ok (.ifCond .le 21, 3) := by decide +kernel
theorem d_M_created_11 : decode prog_10_method_38_code 11 = .ok (.aload_n 0, 1) := by decide +kernel
theorem d_M_created_12 : decode prog_10_method_38_code 12 = .ok (.getfield 41, 3) := by decide +kernel
theorem d_M_created_15 : decode prog_10_method_38_code 15 = .ok (.iload_n 3, 1) := by decide +kernel
theorem d_M_created_16 : decode prog_10_method_38_code 16 = .ok (.baload, 1) := by decide +kernel
theorem d_M_created_17 : decode prog_10_method_38_code 17 = .ok (.ifCond .lt 12, 3) := by decide +kernel
theorem d_M_created_20 : decode prog_10_method_38_code 20 = .ok (.aload_n 0, 1) := by decide +kernel
theorem d_M_created_21 : decode prog_10_method_38_code 21 = .ok (.getfield 41, 3) := by decide +kernel
theorem d_M_created_24 : decode prog_10_method_38_code 24 = .ok (.iload_n 3, 1) := by decide +kernel
theorem d_M_created_25 : decode prog_10_method_38_code 25 = .ok (.baload, 1) := by decide +kernel
theorem d_M_created_26 : decode prog_10_method_38_code 26 = .ok (.goto 4, 3) := by decide +kernel
theorem d_M_created_29 : decode prog_10_method_38_code 29 = .ok (.iconst (-1), 1) := by decide +kernel
theorem d_M_created_30 : decode prog_10_method_38_code 30 = .ok (.ireturn, 1) := by decide +kernel

theorem d_M_youngest_0 : decode prog_10_method_30_code 0 = .ok (.aload_n 0, 1) := by decide +kernel
theorem d_M_youngest_1 : decode prog_10_method_30_code 1 = .ok (.getfield 76, 3) := by decide +kernel
theorem d_M_youngest_4 : decode prog_10_method_30_code 4 = .ok (.ireturn, 1) := by decide +kernel

theorem d_M_representations_0 : decode prog_10_method_42_code 0 = .ok (.aload_n 0, 1) := by decide +kernel
theorem d_M_representations_1 : decode prog_10_method_42_code 1 = .ok (.getfield 142, 3) := by decide +kernel
theorem d_M_representations_4 : decode prog_10_method_42_code 4 = .ok (.ireturn, 1) := by decide +kernel

theorem d_M_abort_0 : decode prog_10_method_29_code 0 = .ok (.aload_n 0, 1) := by decide +kernel
theorem d_M_abort_1 : decode prog_10_method_29_code 1 = .ok (.iload_n 1, 1) := by decide +kernel
theorem d_M_abort_2 : decode prog_10_method_29_code 2 = .ok (.invokevirtual 102, 3) := by decide +kernel
theorem d_M_abort_5 : decode prog_10_method_29_code 5 = .ok (.ifCond .ne 5, 3) := by decide +kernel
theorem d_M_abort_8 : decode prog_10_method_29_code 8 = .ok (.iconst 0, 1) := by decide +kernel
theorem d_M_abort_9 : decode prog_10_method_29_code 9 = .ok (.ireturn, 1) := by decide +kernel
theorem d_M_abort_10 : decode prog_10_method_29_code 10 = .ok (.aload_n 0, 1) := by decide +kernel
theorem d_M_abort_11 : decode prog_10_method_29_code 11 = .ok (.getfield 13, 3) := by decide +kernel
theorem d_M_abort_14 : decode prog_10_method_29_code 14 = .ok (.iload_n 1, 1) := by decide +kernel
theorem d_M_abort_15 : decode prog_10_method_29_code 15 = .ok (.iconst 0, 1) := by decide +kernel
theorem d_M_abort_16 : decode prog_10_method_29_code 16 = .ok (.bastore, 1) := by decide +kernel
theorem d_M_abort_17 : decode prog_10_method_29_code 17 = .ok (.iconst 1, 1) := by decide +kernel
theorem d_M_abort_18 : decode prog_10_method_29_code 18 = .ok (.ireturn, 1) := by decide +kernel
set_option maxHeartbeats 4000000 in
set_option maxRecDepth 100000 in
theorem c_M_table {l : Launch} {E : Ev} {σ : SS} {ad : Nat → Nat} (hI : rfI ad) (hB : rB σ) {sz : Nat} {x : Int32} (hy : σ 1 0 ≤ 15) : MCi l E y_M_table prog_10_method_7_code 2 (some .int) 0 0 0 0 [.ref (ad 0), .int x] (rfM E σ ad) sz (fun r M' => r = tI (tbn σ x) ∧ M' = rfM E σ ad) := by
  refine mc_of R_M rfl [some (.ref (ad 0)), some (.int x)] (by decide) (Nat.le_of_ble_eq_true rfl) rfl ?_
  intro p e R s m ag below meth c ls Q A X hAe hQ hR hsz hw hl
  rw [← hAe] at hQ
  obtain ⟨⟨hx, hb, hml, hown, hts⟩, hE, hA, hr, hlk, hnm⟩ := X
  have hK := hE.1
  refine x_iload_n hx hb d_M_table_0 hl rfl ?_
  refine lv_if_lt hx hb d_M_table_1 rfl (fun h1 => ?_) (fun h1 => ?_)
  · refine x_iload_n hx hb d_M_table_16 hl rfl ?_
    refine lv_if_ge hx hb d_M_table_17 rfl (fun h17 => ?_) (fun h17 => ?_)
    · refine lv_iconst (v := -1) hx hb d_M_table_44 (by decide) ?_
      exact x_reti hQ hx hb hr hlk rfl hw (by omega) (by omega) d_M_table_45 (⟨by first | (have z := tb_1 hy h1 h9; rw [tI_n (by omega)]; exact z.2) | (rw [tb_2 h17 h9]; rfl) | exact absurd h17 (nge_of h1) | (rw [tb_3 h17 h23]; rfl) | (rw [tb_4 ht h34]; rfl) | (rw [tb_5 ht h34, tI_n (by omega)]), rfl⟩)
    · refine x_iload_n hx hb d_M_table_20 hl rfl ?_
      refine lv_bipush (v := (-3)) hx hb d_M_table_21 (by decide) ?_
      refine lv_icmp_lt hx hb d_M_table_23 rfl (fun h23 => ?_) (fun h23 => ?_)
      · refine lv_iconst (v := -1) hx hb d_M_table_44 (by decide) ?_
        exact x_reti hQ hx hb hr hlk rfl hw (by omega) (by omega) d_M_table_45 (⟨by first | (have z := tb_1 hy h1 h9; rw [tI_n (by omega)]; exact z.2) | (rw [tb_2 h17 h9]; rfl) | exact absurd h17 (nge_of h1) | (rw [tb_3 h17 h23]; rfl) | (rw [tb_4 ht h34]; rfl) | (rw [tb_5 ht h34, tI_n (by omega)]), rfl⟩)
      · obtain ⟨t, ht, rfl⟩ := neg3 h17 h23
        first | refine x_aload_n hx hb d_M_table_26 hl rfl ?_ | refine x_aload_nQ hx hb d_M_table_26 hl rfl ?_
        refine m_get hx hb hts hown hK hw ci_M (rf_at hI 0 (by decide) rfl) 2 (by decide) (wm3 74 rfl rfl) rfl d_M_table_27 ?_
        refine lv_iconst (v := -1) hx hb d_M_table_30 (by decide) ?_
        refine x_iload_n hx hb d_M_table_31 hl rfl ?_
        refine lv_isub hx hb d_M_table_32 ?_
        rw [neg_t ht]
        refine rl_2 hx hb hK hI hB hw (by omega) d_M_table_33 (fun hv33 => ?_)
        refine x_if_eq hx hb d_M_table_34 rfl (by omega) (fun h34 => ?_) (fun h34 => ?_)
        · refine lv_iconst (v := -1) hx hb d_M_table_44 (by decide) ?_
          exact x_reti hQ hx hb hr hlk rfl hw (by omega) (by omega) d_M_table_45 (⟨by first | (have z := tb_1 hy h1 h9; rw [tI_n (by omega)]; exact z.2) | (rw [tb_2 h17 h9]; rfl) | exact absurd h17 (nge_of h1) | (rw [tb_3 h17 h23]; rfl) | (rw [tb_4 ht h34]; rfl) | (rw [tb_5 ht h34, tI_n (by omega)]), rfl⟩)
        · refine lv_bipush (v := nI 15) hx hb d_M_table_37 (by decide) ?_
          refine x_iload_n hx hb d_M_table_39 hl rfl ?_
          refine lv_isub hx hb d_M_table_40 ?_
          rw [neg_u ht]
          refine lv_goto hx hb d_M_table_41 rfl ?_
          exact x_reti hQ hx hb hr hlk rfl hw (by omega) (by omega) d_M_table_45 (⟨by first | (have z := tb_1 hy h1 h9; rw [tI_n (by omega)]; exact z.2) | (rw [tb_2 h17 h9]; rfl) | exact absurd h17 (nge_of h1) | (rw [tb_3 h17 h23]; rfl) | (rw [tb_4 ht h34]; rfl) | (rw [tb_5 ht h34, tI_n (by omega)]), rfl⟩)
  · refine x_iload_n hx hb d_M_table_4 hl rfl ?_
    first | refine x_aload_n hx hb d_M_table_5 hl rfl ?_ | refine x_aload_nQ hx hb d_M_table_5 hl rfl ?_
    refine m_get hx hb hts hown hK hw ci_M (rf_at hI 0 (by decide) rfl) 1 (by decide) (wm3 73 rfl rfl) rfl d_M_table_6 ?_
    have hs6 := hB 1 0 (by decide) (by decide)
    refine lv_icmp_gt hx hb d_M_table_9 rfl (fun h9 => ?_) (fun h9 => ?_)
    · refine x_iload_n hx hb d_M_table_16 hl rfl ?_
      refine lv_if_ge hx hb d_M_table_17 rfl (fun h17 => ?_) (fun h17 => ?_)
      · refine lv_iconst (v := -1) hx hb d_M_table_44 (by decide) ?_
        exact x_reti hQ hx hb hr hlk rfl hw (by omega) (by omega) d_M_table_45 (⟨by first | (have z := tb_1 hy h1 h9; rw [tI_n (by omega)]; exact z.2) | (rw [tb_2 h17 h9]; rfl) | exact absurd h17 (nge_of h1) | (rw [tb_3 h17 h23]; rfl) | (rw [tb_4 ht h34]; rfl) | (rw [tb_5 ht h34, tI_n (by omega)]), rfl⟩)
      · refine x_iload_n hx hb d_M_table_20 hl rfl ?_
        refine lv_bipush (v := (-3)) hx hb d_M_table_21 (by decide) ?_
        refine lv_icmp_lt hx hb d_M_table_23 rfl (fun h23 => ?_) (fun h23 => ?_)
        · refine lv_iconst (v := -1) hx hb d_M_table_44 (by decide) ?_
          exact x_reti hQ hx hb hr hlk rfl hw (by omega) (by omega) d_M_table_45 (⟨by first | (have z := tb_1 hy h1 h9; rw [tI_n (by omega)]; exact z.2) | (rw [tb_2 h17 h9]; rfl) | exact absurd h17 (nge_of h1) | (rw [tb_3 h17 h23]; rfl) | (rw [tb_4 ht h34]; rfl) | (rw [tb_5 ht h34, tI_n (by omega)]), rfl⟩)
        · obtain ⟨t, ht, rfl⟩ := neg3 h17 h23
          first | refine x_aload_n hx hb d_M_table_26 hl rfl ?_ | refine x_aload_nQ hx hb d_M_table_26 hl rfl ?_
          refine m_get hx hb hts hown hK hw ci_M (rf_at hI 0 (by decide) rfl) 2 (by decide) (wm3 74 rfl rfl) rfl d_M_table_27 ?_
          refine lv_iconst (v := -1) hx hb d_M_table_30 (by decide) ?_
          refine x_iload_n hx hb d_M_table_31 hl rfl ?_
          refine lv_isub hx hb d_M_table_32 ?_
          rw [neg_t ht]
          refine rl_2 hx hb hK hI hB hw (by omega) d_M_table_33 (fun hv33 => ?_)
          refine x_if_eq hx hb d_M_table_34 rfl (by omega) (fun h34 => ?_) (fun h34 => ?_)
          · refine lv_iconst (v := -1) hx hb d_M_table_44 (by decide) ?_
            exact x_reti hQ hx hb hr hlk rfl hw (by omega) (by omega) d_M_table_45 (⟨by first | (have z := tb_1 hy h1 h9; rw [tI_n (by omega)]; exact z.2) | (rw [tb_2 h17 h9]; rfl) | exact absurd h17 (nge_of h1) | (rw [tb_3 h17 h23]; rfl) | (rw [tb_4 ht h34]; rfl) | (rw [tb_5 ht h34, tI_n (by omega)]), rfl⟩)
          · refine lv_bipush (v := nI 15) hx hb d_M_table_37 (by decide) ?_
            refine x_iload_n hx hb d_M_table_39 hl rfl ?_
            refine lv_isub hx hb d_M_table_40 ?_
            rw [neg_u ht]
            refine lv_goto hx hb d_M_table_41 rfl ?_
            exact x_reti hQ hx hb hr hlk rfl hw (by omega) (by omega) d_M_table_45 (⟨by first | (have z := tb_1 hy h1 h9; rw [tI_n (by omega)]; exact z.2) | (rw [tb_2 h17 h9]; rfl) | exact absurd h17 (nge_of h1) | (rw [tb_3 h17 h23]; rfl) | (rw [tb_4 ht h34]; rfl) | (rw [tb_5 ht h34, tI_n (by omega)]), rfl⟩)
    · refine x_iload_n hx hb d_M_table_12 hl rfl ?_
      refine lv_goto hx hb d_M_table_13 rfl ?_
      exact x_reti hQ hx hb hr hlk rfl hw (by omega) (by omega) d_M_table_45 (⟨by first | (have z := tb_1 hy h1 h9; rw [tI_n (by omega)]; exact z.2) | (rw [tb_2 h17 h9]; rfl) | exact absurd h17 (nge_of h1) | (rw [tb_3 h17 h23]; rfl) | (rw [tb_4 ht h34]; rfl) | (rw [tb_5 ht h34, tI_n (by omega)]), rfl⟩)

set_option maxHeartbeats 4000000 in
set_option maxRecDepth 100000 in
theorem c_M_find {l : Launch} {E : Ev} {σ : SS} {ad : Nat → Nat} (hI : rfI ad) (hB : rB σ) {sz : Nat} {x y : Int32} (hy : σ 1 0 ≤ 15) : MCi l E y_M_find prog_10_method_31_code 4 (some .int) 2 43 0 0 [.ref (ad 0), .int x, .int y] (rfM E σ ad) sz (fun r M' => r = fI (fd σ x y) ∧ M' = rfM E σ ad) := by
  refine mc_of R_M rfl [some (.ref (ad 0)), some (.int x), some (.int y), none] (by decide) (Nat.le_of_ble_eq_true rfl) rfl ?_
  intro p e R s m ag below meth c ls Q A X hAe hQ hR hsz hw hl
  rw [← hAe] at hQ
  obtain ⟨⟨hx, hb, hml, hown, hts⟩, hE, hA, hr, hlk, hnm⟩ := X
  have hK := hE.1
  first | refine x_aload_n hx hb d_M_find_0 hl rfl ?_ | refine x_aload_nQ hx hb d_M_find_0 hl rfl ?_
  refine x_iload_n hx hb d_M_find_1 hl rfl ?_
  refine m_calli (k_V ⟨hx, hb, hml, hown, hts⟩ hE hA hw (c_M_table hI hB hy) (ci_M).1 rfl (rf_at hI 0 (by decide) rfl) (wm4 14 rfl rfl) (wm4 16 rfl rfl) (wmp3 2 rfl) (wm1 9 rfl rfl) (wm4 17 rfl rfl) rfl rfl ar_M_table ⟨Nat.le_trans (Nat.le_of_ble_eq_true rfl) hR.1, Nat.le_trans (Nat.le_of_ble_eq_true rfl) hR.2.1⟩ rfl hl.1 rfl (Nat.le_of_ble_eq_true rfl) d_M_find_2 ⟨Nat.le_trans (Nat.le_of_ble_eq_true rfl) hR.2.2.1, Nat.le_trans (Nat.le_of_ble_eq_true rfl) hR.2.2.2⟩) hw (mfr_in hw hA) (fun r2 M2 H locs hP2 hw => ?_)
  obtain ⟨rfl, hM2⟩ := hP2
  rw [hM2] at hw
  refine x_istore_n hx hb d_M_find_5 hl (Nat.le_of_ble_eq_true rfl) (lh_k (i := 2) rfl (by first | exact lk_n | exact lk_i | exact lk_r | exact lk_q | exact lk_0)) (fun ls hl => ?_)
  refine x_iload_n hx hb d_M_find_6 hl rfl ?_
  refine lv_if_ge hx hb d_M_find_7 rfl (fun h7 => ?_) (fun h7 => ?_)
  · have hz := tI_ge h7
    have hz2 := tbn_le hy x
    rw [tI_n hz] at hl
    first | refine x_aload_n hx hb d_M_find_14 hl rfl ?_ | refine x_aload_nQ hx hb d_M_find_14 hl rfl ?_
    refine x_iload_n hx hb d_M_find_15 hl rfl ?_
    refine x_iload_n hx hb d_M_find_16 hl rfl ?_
    refine m_calli (k_V ⟨hx, hb, hml, hown, hts⟩ hE hA hw (c_M_at hI hB (by omega)) (ci_M).1 rfl (rf_at hI 0 (by decide) rfl) (wm3 164 rfl rfl) (wm3 166 rfl rfl) (wmp2 7 rfl) (wm1 9 rfl rfl) (wm3 167 rfl rfl) rfl rfl ar_M_at ⟨Nat.le_trans (Nat.le_of_ble_eq_true rfl) hR.1, Nat.le_trans (Nat.le_of_ble_eq_true rfl) hR.2.1⟩ rfl hl.1 rfl (Nat.le_of_ble_eq_true rfl) d_M_find_17 ⟨Nat.le_trans (Nat.le_of_ble_eq_true rfl) hR.2.2.1, Nat.le_trans (Nat.le_of_ble_eq_true rfl) hR.2.2.2⟩) hw (mfr_in hw hA) (fun r17 M17 H locs hP17 hw => ?_)
    obtain ⟨⟨rfl, hb17⟩, hM17⟩ := hP17
    rw [hM17] at hw
    exact x_reti hQ hx hb hr hlk rfl hw (by omega) (by omega) d_M_find_20 (⟨by first | (unfold fd; rw [if_pos hz]; rfl) | (unfold fd; rw [if_neg hz, fI_n (by omega)]), rfl⟩)
  · have hz := tI_nge (by have := tbn_le hy x; omega) h7
    refine lv_iconst (v := -1) hx hb d_M_find_10 (by decide) ?_
    refine lv_goto hx hb d_M_find_11 rfl ?_
    exact x_reti hQ hx hb hr hlk rfl hw (by omega) (by omega) d_M_find_20 (⟨by first | (unfold fd; rw [if_pos hz]; rfl) | (unfold fd; rw [if_neg hz, fI_n (by omega)]), rfl⟩)

set_option maxHeartbeats 4000000 in
set_option maxRecDepth 100000 in
theorem c_M_kind {l : Launch} {E : Ev} {σ : SS} {ad : Nat → Nat} (hI : rfI ad) (hB : rB σ) {sz : Nat} {x y : Int32} (hy : σ 1 0 ≤ 15) (hN : ∀ j, σ 0 j < 1300) : MCi l E y_M_kind prog_10_method_32_code 4 (some .int) 3 66 0 0 [.ref (ad 0), .int x, .int y] (rfM E σ ad) sz (fun r M' => r = aKind σ (fd σ x y) ∧ M' = rfM E σ ad) := by
  refine mc_of R_M rfl [some (.ref (ad 0)), some (.int x), some (.int y), none] (by decide) (Nat.le_of_ble_eq_true rfl) rfl ?_
  intro p e R s m ag below meth c ls Q A X hAe hQ hR hsz hw hl
  rw [← hAe] at hQ
  obtain ⟨⟨hx, hb, hml, hown, hts⟩, hE, hA, hr, hlk, hnm⟩ := X
  have hK := hE.1
  have hf := fd_N hN x y
  first | refine x_aload_n hx hb d_M_kind_0 hl rfl ?_ | refine x_aload_nQ hx hb d_M_kind_0 hl rfl ?_
  refine x_iload_n hx hb d_M_kind_1 hl rfl ?_
  refine x_iload_n hx hb d_M_kind_2 hl rfl ?_
  refine m_calli (k_V ⟨hx, hb, hml, hown, hts⟩ hE hA hw (c_M_find hI hB hy) (ci_M).1 rfl (rf_at hI 0 (by decide) rfl) (wm4 10 rfl rfl) (wm4 12 rfl rfl) (wmp3 1 rfl) (wm1 9 rfl rfl) (wm4 13 rfl rfl) rfl rfl ar_M_find ⟨Nat.le_trans (Nat.le_of_ble_eq_true rfl) hR.1, Nat.le_trans (Nat.le_of_ble_eq_true rfl) hR.2.1⟩ rfl hl.1 rfl (Nat.le_of_ble_eq_true rfl) d_M_kind_3 ⟨Nat.le_trans (Nat.le_of_ble_eq_true rfl) hR.2.2.1, Nat.le_trans (Nat.le_of_ble_eq_true rfl) hR.2.2.2⟩) hw (mfr_in hw hA) (fun r3 M3 H locs hP3 hw => ?_)
  obtain ⟨rfl, hM3⟩ := hP3
  rw [hM3] at hw
  refine x_istore_n hx hb d_M_kind_6 hl (Nat.le_of_ble_eq_true rfl) (lh_k (i := 2) rfl (by first | exact lk_n | exact lk_i | exact lk_r | exact lk_q | exact lk_0)) (fun ls hl => ?_)
  refine x_iload_n hx hb d_M_kind_7 hl rfl ?_
  refine lv_if_ge hx hb d_M_kind_8 rfl (fun h8 => ?_) (fun h8 => ?_)
  · have hz := fI_ge h8
    rw [fI_n hz] at hl
    first | refine x_aload_n hx hb d_M_kind_15 hl rfl ?_ | refine x_aload_nQ hx hb d_M_kind_15 hl rfl ?_
    refine m_get hx hb hts hown hK hw ci_M (rf_at hI 0 (by decide) rfl) 6 (by decide) (wm3 78 rfl rfl) rfl d_M_kind_16 ?_
    refine x_iload_n hx hb d_M_kind_19 hl rfl ?_
    refine rl_6 hx hb hK hI hB hw (by omega) d_M_kind_20 (fun hv20 => ?_)
    exact x_reti hQ hx hb hr hlk rfl hw (by omega) (by omega) d_M_kind_21 (⟨by unfold aKind; first | rw [if_pos hz] | rw [if_neg hz], rfl⟩)
  · have hz := fI_nge (by omega) h8
    refine lv_iconst (v := -1) hx hb d_M_kind_11 (by decide) ?_
    refine lv_goto hx hb d_M_kind_12 rfl ?_
    exact x_reti hQ hx hb hr hlk rfl hw (by omega) (by omega) d_M_kind_21 (⟨by unfold aKind; first | rw [if_pos hz] | rw [if_neg hz], rfl⟩)

set_option maxHeartbeats 4000000 in
set_option maxRecDepth 100000 in
theorem c_M_isFile {l : Launch} {E : Ev} {σ : SS} {ad : Nat → Nat} (hI : rfI ad) (hB : rB σ) {sz : Nat} {v : Nat} (hv : v = 40000 ∨ v < 1300) : MCi l E y_M_isFile prog_10_method_33_code 2 (some .boolean) 0 0 0 0 [.ref (ad 0), .int (fI v)] (rfM E σ ad) sz (fun r M' => r = bz (flb σ v) ∧ M' = rfM E σ ad) := by
  refine mc_of R_M rfl [some (.ref (ad 0)), some (.int (fI v))] (by decide) (Nat.le_of_ble_eq_true rfl) rfl ?_
  intro p e R s m ag below meth c ls Q A X hAe hQ hR hsz hw hl
  rw [← hAe] at hQ
  obtain ⟨⟨hx, hb, hml, hown, hts⟩, hE, hA, hr, hlk, hnm⟩ := X
  have hK := hE.1
  refine x_iload_n hx hb d_M_isFile_0 hl rfl ?_
  refine lv_if_le hx hb d_M_isFile_1 rfl (fun h1 => ?_) (fun h1 => ?_)
  · have hz := fI_le (by omega) h1
    refine lv_iconst (v := nI 0) hx hb d_M_isFile_18 (by decide) ?_
    exact x_reti hQ hx hb hr hlk (by first | exact nar_bz | decide) hw (by omega) (by omega) d_M_isFile_19 (⟨by first | exact bz_f (flb_1 hz) | exact bz_f (flb_2 h11) | exact bz_t (flb_t hz h11), rfl⟩)
  · have hz := fI_nle (by omega) h1
    rw [fI_n hz.1] at hl
    first | refine x_aload_n hx hb d_M_isFile_4 hl rfl ?_ | refine x_aload_nQ hx hb d_M_isFile_4 hl rfl ?_
    refine m_get hx hb hts hown hK hw ci_M (rf_at hI 0 (by decide) rfl) 6 (by decide) (wm3 78 rfl rfl) rfl d_M_isFile_5 ?_
    refine x_iload_n hx hb d_M_isFile_8 hl rfl ?_
    refine rl_6 hx hb hK hI hB hw (by omega) d_M_isFile_9 (fun hv9 => ?_)
    refine lv_iconst (v := nI 2) hx hb d_M_isFile_10 (by decide) ?_
    refine x_icmp_ne hx hb d_M_isFile_11 rfl (by omega) (by omega) (fun h11 => ?_) (fun h11 => ?_)
    · refine lv_iconst (v := nI 0) hx hb d_M_isFile_18 (by decide) ?_
      exact x_reti hQ hx hb hr hlk (by first | exact nar_bz | decide) hw (by omega) (by omega) d_M_isFile_19 (⟨by first | exact bz_f (flb_1 hz) | exact bz_f (flb_2 h11) | exact bz_t (flb_t hz h11), rfl⟩)
    · refine lv_iconst (v := nI 1) hx hb d_M_isFile_14 (by decide) ?_
      refine lv_goto hx hb d_M_isFile_15 rfl ?_
      exact x_reti hQ hx hb hr hlk (by first | exact nar_bz | decide) hw (by omega) (by omega) d_M_isFile_19 (⟨by first | exact bz_f (flb_1 hz) | exact bz_f (flb_2 h11) | exact bz_t (flb_t hz h11), rfl⟩)

set_option maxHeartbeats 4000000 in
set_option maxRecDepth 100000 in
theorem c_M_text {l : Launch} {E : Ev} {σ : SS} {ad : Nat → Nat} (hI : rfI ad) (hB : rB σ) {sz : Nat} {x y : Int32} (hy : σ 1 0 ≤ 15) (hN : ∀ j, σ 0 j < 1300) : MCl l E y_M_text prog_10_method_34_code 4 (some .long) 3 66 0 0 [.ref (ad 0), .int x, .int y] (rfM E σ ad) sz (fun r M' => r = aText σ (fd σ x y) ∧ M' = rfM E σ ad) := by
  refine mc_of R_M rfl [some (.ref (ad 0)), some (.int x), some (.int y), none] (by decide) (Nat.le_of_ble_eq_true rfl) rfl ?_
  intro p e R s m ag below meth c ls Q A X hAe hQ hR hsz hw hl
  rw [← hAe] at hQ
  obtain ⟨⟨hx, hb, hml, hown, hts⟩, hE, hA, hr, hlk, hnm⟩ := X
  have hK := hE.1
  have hf := fd_N hN x y
  first | refine x_aload_n hx hb d_M_text_0 hl rfl ?_ | refine x_aload_nQ hx hb d_M_text_0 hl rfl ?_
  refine x_iload_n hx hb d_M_text_1 hl rfl ?_
  refine x_iload_n hx hb d_M_text_2 hl rfl ?_
  refine m_calli (k_V ⟨hx, hb, hml, hown, hts⟩ hE hA hw (c_M_find hI hB hy) (ci_M).1 rfl (rf_at hI 0 (by decide) rfl) (wm4 10 rfl rfl) (wm4 12 rfl rfl) (wmp3 1 rfl) (wm1 9 rfl rfl) (wm4 13 rfl rfl) rfl rfl ar_M_find ⟨Nat.le_trans (Nat.le_of_ble_eq_true rfl) hR.1, Nat.le_trans (Nat.le_of_ble_eq_true rfl) hR.2.1⟩ rfl hl.1 rfl (Nat.le_of_ble_eq_true rfl) d_M_text_3 ⟨Nat.le_trans (Nat.le_of_ble_eq_true rfl) hR.2.2.1, Nat.le_trans (Nat.le_of_ble_eq_true rfl) hR.2.2.2⟩) hw (mfr_in hw hA) (fun r3 M3 H locs hP3 hw => ?_)
  obtain ⟨rfl, hM3⟩ := hP3
  rw [hM3] at hw
  refine x_istore_n hx hb d_M_text_6 hl (Nat.le_of_ble_eq_true rfl) (lh_k (i := 2) rfl (by first | exact lk_n | exact lk_i | exact lk_r | exact lk_q | exact lk_0)) (fun ls hl => ?_)
  first | refine x_aload_n hx hb d_M_text_7 hl rfl ?_ | refine x_aload_nQ hx hb d_M_text_7 hl rfl ?_
  refine x_iload_n hx hb d_M_text_8 hl rfl ?_
  refine m_calli (k_V ⟨hx, hb, hml, hown, hts⟩ hE hA hw (c_M_isFile hI hB hf) (ci_M).1 rfl (rf_at hI 0 (by decide) rfl) (wm4 22 rfl rfl) (wm4 24 rfl rfl) (wmp3 3 rfl) (wm1 9 rfl rfl) (wm4 25 rfl rfl) rfl rfl ar_M_isFile ⟨Nat.le_trans (Nat.le_of_ble_eq_true rfl) hR.1, Nat.le_trans (Nat.le_of_ble_eq_true rfl) hR.2.1⟩ rfl hl.1 rfl (Nat.le_of_ble_eq_true rfl) d_M_text_9 ⟨Nat.le_trans (Nat.le_of_ble_eq_true rfl) hR.2.2.1, Nat.le_trans (Nat.le_of_ble_eq_true rfl) hR.2.2.2⟩) hw (mfr_in hw hA) (fun r9 M9 H locs hP9 hw => ?_)
  obtain ⟨rfl, hM9⟩ := hP9
  rw [hM9] at hw
  refine x_if_eqB hx hb d_M_text_12 rfl (fun h12 => ?_) (fun h12 => ?_)
  · refine lv_ldc2 (v := -1) hx hb hown (hts _ (wm4 26 rfl rfl)) d_M_text_24 ?_
    exact x_retl hQ hx hb hr hlk hw (by omega) (by omega) d_M_text_27 (⟨by unfold aText; first | rw [if_pos h12] | rw [if_neg (by rw [h12]; decide)], rfl⟩)
  · obtain ⟨hz, hz2, hz3⟩ := flb_of h12
    rw [fI_n hz] at hl
    first | refine x_aload_n hx hb d_M_text_15 hl rfl ?_ | refine x_aload_nQ hx hb d_M_text_15 hl rfl ?_
    refine m_get hx hb hts hown hK hw ci_M (rf_at hI 0 (by decide) rfl) 9 (by decide) (wm3 81 rfl rfl) rfl d_M_text_16 ?_
    refine x_iload_n hx hb d_M_text_19 hl rfl ?_
    refine rl_9 hx hb hK hI hw (by omega) d_M_text_20 ?_
    refine lv_goto hx hb d_M_text_21 rfl ?_
    exact x_retl hQ hx hb hr hlk hw (by omega) (by omega) d_M_text_27 (⟨by unfold aText; first | rw [if_pos h12] | rw [if_neg (by rw [h12]; decide)], rfl⟩)

set_option maxHeartbeats 4000000 in
set_option maxRecDepth 100000 in
theorem c_M_length {l : Launch} {E : Ev} {σ : SS} {ad : Nat → Nat} (hI : rfI ad) (hB : rB σ) {sz : Nat} {x y : Int32} (hy : σ 1 0 ≤ 15) (hN : ∀ j, σ 0 j < 1300) : MCi l E y_M_length prog_10_method_35_code 4 (some .int) 3 66 0 0 [.ref (ad 0), .int x, .int y] (rfM E σ ad) sz (fun r M' => r = aLen σ (fd σ x y) ∧ M' = rfM E σ ad) := by
  refine mc_of R_M rfl [some (.ref (ad 0)), some (.int x), some (.int y), none] (by decide) (Nat.le_of_ble_eq_true rfl) rfl ?_
  intro p e R s m ag below meth c ls Q A X hAe hQ hR hsz hw hl
  rw [← hAe] at hQ
  obtain ⟨⟨hx, hb, hml, hown, hts⟩, hE, hA, hr, hlk, hnm⟩ := X
  have hK := hE.1
  have hf := fd_N hN x y
  first | refine x_aload_n hx hb d_M_length_0 hl rfl ?_ | refine x_aload_nQ hx hb d_M_length_0 hl rfl ?_
  refine x_iload_n hx hb d_M_length_1 hl rfl ?_
  refine x_iload_n hx hb d_M_length_2 hl rfl ?_
  refine m_calli (k_V ⟨hx, hb, hml, hown, hts⟩ hE hA hw (c_M_find hI hB hy) (ci_M).1 rfl (rf_at hI 0 (by decide) rfl) (wm4 10 rfl rfl) (wm4 12 rfl rfl) (wmp3 1 rfl) (wm1 9 rfl rfl) (wm4 13 rfl rfl) rfl rfl ar_M_find ⟨Nat.le_trans (Nat.le_of_ble_eq_true rfl) hR.1, Nat.le_trans (Nat.le_of_ble_eq_true rfl) hR.2.1⟩ rfl hl.1 rfl (Nat.le_of_ble_eq_true rfl) d_M_length_3 ⟨Nat.le_trans (Nat.le_of_ble_eq_true rfl) hR.2.2.1, Nat.le_trans (Nat.le_of_ble_eq_true rfl) hR.2.2.2⟩) hw (mfr_in hw hA) (fun r3 M3 H locs hP3 hw => ?_)
  obtain ⟨rfl, hM3⟩ := hP3
  rw [hM3] at hw
  refine x_istore_n hx hb d_M_length_6 hl (Nat.le_of_ble_eq_true rfl) (lh_k (i := 2) rfl (by first | exact lk_n | exact lk_i | exact lk_r | exact lk_q | exact lk_0)) (fun ls hl => ?_)
  first | refine x_aload_n hx hb d_M_length_7 hl rfl ?_ | refine x_aload_nQ hx hb d_M_length_7 hl rfl ?_
  refine x_iload_n hx hb d_M_length_8 hl rfl ?_
  refine m_calli (k_V ⟨hx, hb, hml, hown, hts⟩ hE hA hw (c_M_isFile hI hB hf) (ci_M).1 rfl (rf_at hI 0 (by decide) rfl) (wm4 22 rfl rfl) (wm4 24 rfl rfl) (wmp3 3 rfl) (wm1 9 rfl rfl) (wm4 25 rfl rfl) rfl rfl ar_M_isFile ⟨Nat.le_trans (Nat.le_of_ble_eq_true rfl) hR.1, Nat.le_trans (Nat.le_of_ble_eq_true rfl) hR.2.1⟩ rfl hl.1 rfl (Nat.le_of_ble_eq_true rfl) d_M_length_9 ⟨Nat.le_trans (Nat.le_of_ble_eq_true rfl) hR.2.2.1, Nat.le_trans (Nat.le_of_ble_eq_true rfl) hR.2.2.2⟩) hw (mfr_in hw hA) (fun r9 M9 H locs hP9 hw => ?_)
  obtain ⟨rfl, hM9⟩ := hP9
  rw [hM9] at hw
  refine x_if_eqB hx hb d_M_length_12 rfl (fun h12 => ?_) (fun h12 => ?_)
  · refine lv_iconst (v := -1) hx hb d_M_length_24 (by decide) ?_
    exact x_reti hQ hx hb hr hlk rfl hw (by omega) (by omega) d_M_length_25 (⟨by unfold aLen; first | rw [if_pos h12] | rw [if_neg (by rw [h12]; decide)], rfl⟩)
  · obtain ⟨hz, hz2, hz3⟩ := flb_of h12
    rw [fI_n hz] at hl
    first | refine x_aload_n hx hb d_M_length_15 hl rfl ?_ | refine x_aload_nQ hx hb d_M_length_15 hl rfl ?_
    refine m_get hx hb hts hown hK hw ci_M (rf_at hI 0 (by decide) rfl) 7 (by decide) (wm3 79 rfl rfl) rfl d_M_length_16 ?_
    refine x_iload_n hx hb d_M_length_19 hl rfl ?_
    refine rl_7 hx hb hK hI hB hw (by omega) d_M_length_20 (fun hv20 => ?_)
    refine lv_goto hx hb d_M_length_21 rfl ?_
    exact x_reti hQ hx hb hr hlk rfl hw (by omega) (by omega) d_M_length_25 (⟨by unfold aLen; first | rw [if_pos h12] | rw [if_neg (by rw [h12]; decide)], rfl⟩)

set_option maxHeartbeats 4000000 in
set_option maxRecDepth 100000 in
theorem c_M_line {l : Launch} {E : Ev} {σ : SS} {ad : Nat → Nat} (hI : rfI ad) (hB : rB σ) {sz : Nat} {x y : Int32} (hy : σ 1 0 ≤ 15) (hN : ∀ j, σ 0 j < 1300) : MCi l E y_M_line prog_10_method_36_code 4 (some .int) 3 66 0 0 [.ref (ad 0), .int x, .int y] (rfM E σ ad) sz (fun r M' => r = aLine σ (fd σ x y) ∧ M' = rfM E σ ad) := by
  refine mc_of R_M rfl [some (.ref (ad 0)), some (.int x), some (.int y), none] (by decide) (Nat.le_of_ble_eq_true rfl) rfl ?_
  intro p e R s m ag below meth c ls Q A X hAe hQ hR hsz hw hl
  rw [← hAe] at hQ
  obtain ⟨⟨hx, hb, hml, hown, hts⟩, hE, hA, hr, hlk, hnm⟩ := X
  have hK := hE.1
  have hf := fd_N hN x y
  first | refine x_aload_n hx hb d_M_line_0 hl rfl ?_ | refine x_aload_nQ hx hb d_M_line_0 hl rfl ?_
  refine x_iload_n hx hb d_M_line_1 hl rfl ?_
  refine x_iload_n hx hb d_M_line_2 hl rfl ?_
  refine m_calli (k_V ⟨hx, hb, hml, hown, hts⟩ hE hA hw (c_M_find hI hB hy) (ci_M).1 rfl (rf_at hI 0 (by decide) rfl) (wm4 10 rfl rfl) (wm4 12 rfl rfl) (wmp3 1 rfl) (wm1 9 rfl rfl) (wm4 13 rfl rfl) rfl rfl ar_M_find ⟨Nat.le_trans (Nat.le_of_ble_eq_true rfl) hR.1, Nat.le_trans (Nat.le_of_ble_eq_true rfl) hR.2.1⟩ rfl hl.1 rfl (Nat.le_of_ble_eq_true rfl) d_M_line_3 ⟨Nat.le_trans (Nat.le_of_ble_eq_true rfl) hR.2.2.1, Nat.le_trans (Nat.le_of_ble_eq_true rfl) hR.2.2.2⟩) hw (mfr_in hw hA) (fun r3 M3 H locs hP3 hw => ?_)
  obtain ⟨rfl, hM3⟩ := hP3
  rw [hM3] at hw
  refine x_istore_n hx hb d_M_line_6 hl (Nat.le_of_ble_eq_true rfl) (lh_k (i := 2) rfl (by first | exact lk_n | exact lk_i | exact lk_r | exact lk_q | exact lk_0)) (fun ls hl => ?_)
  refine x_iload_n hx hb d_M_line_7 hl rfl ?_
  refine lv_if_le hx hb d_M_line_8 rfl (fun h8 => ?_) (fun h8 => ?_)
  · have hz := fI_le (by omega) h8
    refine lv_iconst (v := -1) hx hb d_M_line_20 (by decide) ?_
    exact x_reti hQ hx hb hr hlk rfl hw (by omega) (by omega) d_M_line_21 (⟨by unfold aLine; first | rw [if_pos hz] | rw [if_neg (by omega)], rfl⟩)
  · have hz := fI_nle (by omega) h8
    rw [fI_n hz.1] at hl
    first | refine x_aload_n hx hb d_M_line_11 hl rfl ?_ | refine x_aload_nQ hx hb d_M_line_11 hl rfl ?_
    refine m_get hx hb hts hown hK hw ci_M (rf_at hI 0 (by decide) rfl) 10 (by decide) (wm3 82 rfl rfl) rfl d_M_line_12 ?_
    refine x_iload_n hx hb d_M_line_15 hl rfl ?_
    refine rl_10 hx hb hK hI hB hw (by omega) d_M_line_16 (fun hv16 => ?_)
    refine lv_goto hx hb d_M_line_17 rfl ?_
    exact x_reti hQ hx hb hr hlk rfl hw (by omega) (by omega) d_M_line_21 (⟨by unfold aLine; first | rw [if_pos hz] | rw [if_neg (by omega)], rfl⟩)

set_option maxHeartbeats 4000000 in
set_option maxRecDepth 100000 in
theorem c_M_count {l : Launch} {E : Ev} {σ : SS} {ad : Nat → Nat} (hI : rfI ad) (hB : rB σ) {sz : Nat} {x y : Int32} (hy : σ 1 0 ≤ 15) (hN : ∀ j, σ 0 j < 1300) : MCi l E y_M_count prog_10_method_37_code 4 (some .int) 3 66 0 0 [.ref (ad 0), .int x, .int y] (rfM E σ ad) sz (fun r M' => r = aCount σ (fd σ x y) ∧ M' = rfM E σ ad) := by
  refine mc_of R_M rfl [some (.ref (ad 0)), some (.int x), some (.int y), none] (by decide) (Nat.le_of_ble_eq_true rfl) rfl ?_
  intro p e R s m ag below meth c ls Q A X hAe hQ hR hsz hw hl
  rw [← hAe] at hQ
  obtain ⟨⟨hx, hb, hml, hown, hts⟩, hE, hA, hr, hlk, hnm⟩ := X
  have hK := hE.1
  have hf := fd_N hN x y
  first | refine x_aload_n hx hb d_M_count_0 hl rfl ?_ | refine x_aload_nQ hx hb d_M_count_0 hl rfl ?_
  refine x_iload_n hx hb d_M_count_1 hl rfl ?_
  refine x_iload_n hx hb d_M_count_2 hl rfl ?_
  refine m_calli (k_V ⟨hx, hb, hml, hown, hts⟩ hE hA hw (c_M_find hI hB hy) (ci_M).1 rfl (rf_at hI 0 (by decide) rfl) (wm4 10 rfl rfl) (wm4 12 rfl rfl) (wmp3 1 rfl) (wm1 9 rfl rfl) (wm4 13 rfl rfl) rfl rfl ar_M_find ⟨Nat.le_trans (Nat.le_of_ble_eq_true rfl) hR.1, Nat.le_trans (Nat.le_of_ble_eq_true rfl) hR.2.1⟩ rfl hl.1 rfl (Nat.le_of_ble_eq_true rfl) d_M_count_3 ⟨Nat.le_trans (Nat.le_of_ble_eq_true rfl) hR.2.2.1, Nat.le_trans (Nat.le_of_ble_eq_true rfl) hR.2.2.2⟩) hw (mfr_in hw hA) (fun r3 M3 H locs hP3 hw => ?_)
  obtain ⟨rfl, hM3⟩ := hP3
  rw [hM3] at hw
  refine x_istore_n hx hb d_M_count_6 hl (Nat.le_of_ble_eq_true rfl) (lh_k (i := 2) rfl (by first | exact lk_n | exact lk_i | exact lk_r | exact lk_q | exact lk_0)) (fun ls hl => ?_)
  refine x_iload_n hx hb d_M_count_7 hl rfl ?_
  refine lv_if_le hx hb d_M_count_8 rfl (fun h8 => ?_) (fun h8 => ?_)
  · have hz := fI_le (by omega) h8
    refine lv_iconst (v := -1) hx hb d_M_count_20 (by decide) ?_
    exact x_reti hQ hx hb hr hlk rfl hw (by omega) (by omega) d_M_count_21 (⟨by unfold aCount; first | rw [if_pos hz] | rw [if_neg (by omega)], rfl⟩)
  · have hz := fI_nle (by omega) h8
    rw [fI_n hz.1] at hl
    first | refine x_aload_n hx hb d_M_count_11 hl rfl ?_ | refine x_aload_nQ hx hb d_M_count_11 hl rfl ?_
    refine m_get hx hb hts hown hK hw ci_M (rf_at hI 0 (by decide) rfl) 11 (by decide) (wm3 83 rfl rfl) rfl d_M_count_12 ?_
    refine x_iload_n hx hb d_M_count_15 hl rfl ?_
    refine rl_11 hx hb hK hI hB hw (by omega) d_M_count_16 (fun hv16 => ?_)
    refine lv_goto hx hb d_M_count_17 rfl ?_
    exact x_reti hQ hx hb hr hlk rfl hw (by omega) (by omega) d_M_count_21 (⟨by unfold aCount; first | rw [if_pos hz] | rw [if_neg (by omega)], rfl⟩)

set_option maxHeartbeats 4000000 in
set_option maxRecDepth 100000 in
theorem c_M_created {l : Launch} {E : Ev} {σ : SS} {ad : Nat → Nat} (hI : rfI ad) (hB : rB σ) {sz : Nat} {x y : Int32} (hy : σ 1 0 ≤ 15) (hN : ∀ j, σ 0 j < 1300) (hb9 : ∀ j, σ 12 j < 256) : MCi l E y_M_created prog_10_method_38_code 4 (some .int) 3 66 0 0 [.ref (ad 0), .int x, .int y] (rfM E σ ad) sz (fun r M' => r = aBorn σ (fd σ x y) ∧ M' = rfM E σ ad) := by
  refine mc_of R_M rfl [some (.ref (ad 0)), some (.int x), some (.int y), none] (by decide) (Nat.le_of_ble_eq_true rfl) rfl ?_
  intro p e R s m ag below meth c ls Q A X hAe hQ hR hsz hw hl
  rw [← hAe] at hQ
  obtain ⟨⟨hx, hb, hml, hown, hts⟩, hE, hA, hr, hlk, hnm⟩ := X
  have hK := hE.1
  have hf := fd_N hN x y
  first | refine x_aload_n hx hb d_M_created_0 hl rfl ?_ | refine x_aload_nQ hx hb d_M_created_0 hl rfl ?_
  refine x_iload_n hx hb d_M_created_1 hl rfl ?_
  refine x_iload_n hx hb d_M_created_2 hl rfl ?_
  refine m_calli (k_V ⟨hx, hb, hml, hown, hts⟩ hE hA hw (c_M_find hI hB hy) (ci_M).1 rfl (rf_at hI 0 (by decide) rfl) (wm4 10 rfl rfl) (wm4 12 rfl rfl) (wmp3 1 rfl) (wm1 9 rfl rfl) (wm4 13 rfl rfl) rfl rfl ar_M_find ⟨Nat.le_trans (Nat.le_of_ble_eq_true rfl) hR.1, Nat.le_trans (Nat.le_of_ble_eq_true rfl) hR.2.1⟩ rfl hl.1 rfl (Nat.le_of_ble_eq_true rfl) d_M_created_3 ⟨Nat.le_trans (Nat.le_of_ble_eq_true rfl) hR.2.2.1, Nat.le_trans (Nat.le_of_ble_eq_true rfl) hR.2.2.2⟩) hw (mfr_in hw hA) (fun r3 M3 H locs hP3 hw => ?_)
  obtain ⟨rfl, hM3⟩ := hP3
  rw [hM3] at hw
  refine x_istore_n hx hb d_M_created_6 hl (Nat.le_of_ble_eq_true rfl) (lh_k (i := 2) rfl (by first | exact lk_n | exact lk_i | exact lk_r | exact lk_q | exact lk_0)) (fun ls hl => ?_)
  refine x_iload_n hx hb d_M_created_7 hl rfl ?_
  refine lv_if_le hx hb d_M_created_8 rfl (fun h8 => ?_) (fun h8 => ?_)
  · have hz := fI_le (by omega) h8
    refine lv_iconst (v := -1) hx hb d_M_created_29 (by decide) ?_
    exact x_reti hQ hx hb hr hlk rfl hw (by omega) (by omega) d_M_created_30 (⟨by unfold aBorn; first | rw [if_pos (Or.inl hz)] | rw [if_pos (Or.inr h17)] | (rw [if_neg (by omega)]; exact bI_n (by omega)), rfl⟩)
  · have hz := fI_nle (by omega) h8
    rw [fI_n hz.1] at hl
    first | refine x_aload_n hx hb d_M_created_11 hl rfl ?_ | refine x_aload_nQ hx hb d_M_created_11 hl rfl ?_
    refine m_get hx hb hts hown hK hw ci_M (rf_at hI 0 (by decide) rfl) 12 (by decide) (wm3 84 rfl rfl) rfl d_M_created_12 ?_
    refine x_iload_n hx hb d_M_created_15 hl rfl ?_
    refine rl_12 hx hb hK hI hB hw (by omega) d_M_created_16 (fun hv16 => ?_)
    refine lv_if_lt hx hb d_M_created_17 rfl (fun h17 => ?_) (fun h17 => ?_)
    · have h17 := (bI_lt (hb9 _)).mp h17
      refine lv_iconst (v := -1) hx hb d_M_created_29 (by decide) ?_
      exact x_reti hQ hx hb hr hlk rfl hw (by omega) (by omega) d_M_created_30 (⟨by unfold aBorn; first | rw [if_pos (Or.inl hz)] | rw [if_pos (Or.inr h17)] | (rw [if_neg (by omega)]; exact bI_n (by omega)), rfl⟩)
    · have h17 : ¬ 128 ≤ _ := fun z => h17 ((bI_lt (hb9 _)).mpr z)
      first | refine x_aload_n hx hb d_M_created_20 hl rfl ?_ | refine x_aload_nQ hx hb d_M_created_20 hl rfl ?_
      refine m_get hx hb hts hown hK hw ci_M (rf_at hI 0 (by decide) rfl) 12 (by decide) (wm3 84 rfl rfl) rfl d_M_created_21 ?_
      refine x_iload_n hx hb d_M_created_24 hl rfl ?_
      refine rl_12 hx hb hK hI hB hw (by omega) d_M_created_25 (fun hv25 => ?_)
      refine lv_goto hx hb d_M_created_26 rfl ?_
      exact x_reti hQ hx hb hr hlk rfl hw (by omega) (by omega) d_M_created_30 (⟨by unfold aBorn; first | rw [if_pos (Or.inl hz)] | rw [if_pos (Or.inr h17)] | (rw [if_neg (by omega)]; exact bI_n (by omega)), rfl⟩)

set_option maxHeartbeats 4000000 in
set_option maxRecDepth 100000 in
theorem c_M_youngest {l : Launch} {E : Ev} {σ : SS} {ad : Nat → Nat} (hI : rfI ad) (hB : rB σ) {sz : Nat}  : MCi l E y_M_youngest prog_10_method_30_code 1 (some .int) 0 0 0 0 [.ref (ad 0)] (rfM E σ ad) sz (fun r M' => r = nI (σ 1 0) ∧ M' = rfM E σ ad) := by
  refine mc_of R_M rfl [some (.ref (ad 0))] (by decide) (Nat.le_of_ble_eq_true rfl) rfl ?_
  intro p e R s m ag below meth c ls Q A X hAe hQ hR hsz hw hl
  rw [← hAe] at hQ
  obtain ⟨⟨hx, hb, hml, hown, hts⟩, hE, hA, hr, hlk, hnm⟩ := X
  have hK := hE.1
  first | refine x_aload_n hx hb d_M_youngest_0 hl rfl ?_ | refine x_aload_nQ hx hb d_M_youngest_0 hl rfl ?_
  refine m_get hx hb hts hown hK hw ci_M (rf_at hI 0 (by decide) rfl) 1 (by decide) (wm3 73 rfl rfl) rfl d_M_youngest_1 ?_
  have hs1 := hB 1 0 (by decide) (by decide)
  exact x_reti hQ hx hb hr hlk rfl hw (by omega) (by omega) d_M_youngest_4 (⟨rfl, rfl⟩)

set_option maxHeartbeats 4000000 in
set_option maxRecDepth 100000 in
theorem c_M_reps {l : Launch} {E : Ev} {σ : SS} {ad : Nat → Nat} (hI : rfI ad) (hB : rB σ) {sz : Nat}  : MCi l E y_M_representations prog_10_method_42_code 1 (some .int) 0 0 0 0 [.ref (ad 0)] (rfM E σ ad) sz (fun r M' => r = nI (σ 16 0) ∧ M' = rfM E σ ad) := by
  refine mc_of R_M rfl [some (.ref (ad 0))] (by decide) (Nat.le_of_ble_eq_true rfl) rfl ?_
  intro p e R s m ag below meth c ls Q A X hAe hQ hR hsz hw hl
  rw [← hAe] at hQ
  obtain ⟨⟨hx, hb, hml, hown, hts⟩, hE, hA, hr, hlk, hnm⟩ := X
  have hK := hE.1
  first | refine x_aload_n hx hb d_M_representations_0 hl rfl ?_ | refine x_aload_nQ hx hb d_M_representations_0 hl rfl ?_
  refine m_get hx hb hts hown hK hw ci_M (rf_at hI 0 (by decide) rfl) 16 (by decide) (wm3 88 rfl rfl) rfl d_M_representations_1 ?_
  have hs1 := hB 16 0 (by decide) (by decide)
  exact x_reti hQ hx hb hr hlk rfl hw (by omega) (by omega) d_M_representations_4 (⟨rfl, rfl⟩)

set_option maxHeartbeats 4000000 in
set_option maxRecDepth 100000 in
theorem c_M_abort {l : Launch} {E : Ev} {σ : SS} {ad : Nat → Nat} (hI : rfI ad) (hB : rB σ) {sz : Nat} {x : Int32} : MCi l E y_M_abort prog_10_method_29_code 2 (some .boolean) 1 21 0 0 [.ref (ad 0), .int x] (rfM E σ ad) sz (fun r M' => r = bz (opb σ (tx x)) ∧ M' = rfM E (abO σ (tx x)) ad ∧ rB (abO σ (tx x))) := by
  refine mc_of R_M rfl [some (.ref (ad 0)), some (.int x)] (by decide) (Nat.le_of_ble_eq_true rfl) rfl ?_
  intro p e R s m ag below meth c ls Q A X hAe hQ hR hsz hw hl
  rw [← hAe] at hQ
  obtain ⟨⟨hx, hb, hml, hown, hts⟩, hE, hA, hr, hlk, hnm⟩ := X
  have hK := hE.1
  first | refine x_aload_n hx hb d_M_abort_0 hl rfl ?_ | refine x_aload_nQ hx hb d_M_abort_0 hl rfl ?_
  refine x_iload_n hx hb d_M_abort_1 hl rfl ?_
  refine m_calli (k_V ⟨hx, hb, hml, hown, hts⟩ hE hA hw (c_M_isOpen hI hB) (ci_M).1 rfl (rf_at hI 0 (by decide) rfl) (wm3 157 rfl rfl) (wm3 159 rfl rfl) (wmp2 6 rfl) (wm1 9 rfl rfl) (wm3 160 rfl rfl) rfl rfl ar_M_isOpen ⟨Nat.le_trans (Nat.le_of_ble_eq_true rfl) hR.1, Nat.le_trans (Nat.le_of_ble_eq_true rfl) hR.2.1⟩ rfl hl.1 rfl (Nat.le_of_ble_eq_true rfl) d_M_abort_2 ⟨Nat.le_trans (Nat.le_of_ble_eq_true rfl) hR.2.2.1, Nat.le_trans (Nat.le_of_ble_eq_true rfl) hR.2.2.2⟩) hw (mfr_in hw hA) (fun r2 M2 H locs hP2 hw => ?_)
  obtain ⟨rfl, hM2⟩ := hP2
  rw [hM2] at hw
  refine x_if_neB hx hb d_M_abort_5 rfl (fun h5 => ?_) (fun h5 => ?_)
  · obtain ⟨t, ht, rfl, ho⟩ := opb_of h5
    first | refine x_aload_n hx hb d_M_abort_10 hl rfl ?_ | refine x_aload_nQ hx hb d_M_abort_10 hl rfl ?_
    refine m_get hx hb hts hown hK hw ci_M (rf_at hI 0 (by decide) rfl) 2 (by decide) (wm3 74 rfl rfl) rfl d_M_abort_11 ?_
    refine x_iload_n hx hb d_M_abort_14 hl rfl ?_
    refine lv_iconst (v := nI 0) hx hb d_M_abort_15 (by decide) ?_
    refine rs_2 hx hb hK hI hB hw (by omega) (by omega) d_M_abort_16 (fun H locs hw hB => ?_)
    refine lv_iconst (v := nI 1) hx hb d_M_abort_17 (by decide) ?_
    exact x_reti hQ hx hb hr hlk (by first | exact nar_bz | decide) hw (by omega) (by omega) d_M_abort_18 (⟨bz_t h5, by rw [abO_t h5, tx_n ht], by rw [abO_t h5, tx_n ht]; exact hB⟩)
  · refine lv_iconst (v := nI 0) hx hb d_M_abort_8 (by decide) ?_
    exact x_reti hQ hx hb hr hlk (by first | exact nar_bz | decide) hw (by omega) (by omega) d_M_abort_9 (⟨bz_f (by rw [h5]; decide), by rw [abO_f h5], by rw [abO_f h5]; exact hB⟩)
end
section
section BITS
/-! ===== lN n to 2^64: shifts, and, or, masks, one bit ===== -/
theorem wb_tb (n : Nat) : (lN n).toBitVec = BitVec.ofNat 64 n := rfl
theorem wb_inj {a b : Int64} (h : a.toBitVec = b.toBitVec) : a = b := Int64.toBitVec_inj.mp h
theorem wb_tn {n : Nat} (h : n < 2 ^ 64) : (lN n).toBitVec.toNat = n := by rw [wb_tb, BitVec.toNat_ofNat, Nat.mod_eq_of_lt h]
theorem wb_of (x : Int64) : ∃ n, n < 2 ^ 64 ∧ x = lN n := ⟨x.toBitVec.toNat, x.toBitVec.isLt, wb_inj (by rw [wb_tb]; simp)⟩
theorem wb_of32 (x : Int32) : ∃ n, n < 2 ^ 32 ∧ x = nI n := ⟨x.toBitVec.toNat, x.toBitVec.isLt, Int32.toBitVec_inj.mp (by show _ = BitVec.ofNat 32 _; simp)⟩
theorem wb_c : ∀ k, k < 64 → ((nI k).toInt64 &&& 63) = lN k := by decide +kernel
theorem wb_cu : ∀ k, k < 64 → ((nI k).toInt64.toUInt64 &&& Int64.toUInt64 63) = UInt64.ofNat k := by decide +kernel
theorem wb_sm : ∀ k, k < 64 → (BitVec.ofNat 64 k).smod 64 = BitVec.ofNat 64 k := by decide +kernel
theorem wb_pw {a b : Nat} (h : a ≤ b) : 2 ^ b = 2 ^ a * 2 ^ (b - a) := by rw [← Nat.pow_add]; congr 1; omega
theorem wb_lt2 {a b : Nat} (h : a < b) : 2 ^ a < 2 ^ b := Nat.pow_lt_pow_right (by decide) h
theorem wb_mod (n : Nat) : lN n = lN (n % 2 ^ 64) := wb_inj (by rw [wb_tb, wb_tb]; apply BitVec.eq_of_toNat_eq; rw [BitVec.toNat_ofNat, BitVec.toNat_ofNat, Nat.mod_mod])
theorem wb_shr {n k : Nat} (hn : n < 2 ^ 64) (hk : k < 64) : ((lN n).toUInt64 >>> ((nI k).toInt64.toUInt64 &&& Int64.toUInt64 63)).toInt64 = lN (n / 2 ^ k) := by
  rw [wb_cu k hk]
  apply wb_inj
  apply BitVec.eq_of_toNat_eq
  show ((lN n).toUInt64 >>> UInt64.ofNat k).toNat = (BitVec.ofNat 64 _).toNat
  have h1 : (UInt64.ofNat k).toNat = k := by
    show (BitVec.ofNat 64 k).toNat = k
    rw [BitVec.toNat_ofNat, Nat.mod_eq_of_lt (by omega)]
  have h2 : (lN n).toUInt64.toNat = n := wb_tn hn
  rw [UInt64.toNat_shiftRight, h1, h2, Nat.mod_eq_of_lt hk, Nat.shiftRight_eq_div_pow, BitVec.toNat_ofNat, Nat.mod_eq_of_lt (Nat.lt_of_le_of_lt (Nat.div_le_self _ _) hn)]
theorem wb_shl (n : Nat) {k : Nat} (hk : k < 64) : lN n <<< ((nI k).toInt64 &&& 63) = lN (n * 2 ^ k) := by
  rw [wb_c k hk]
  apply wb_inj
  rw [Int64.toBitVec_shiftLeft, wb_tb, wb_tb, wb_tb, wb_sm k hk]
  apply BitVec.eq_of_toNat_eq
  rw [BitVec.shiftLeft_eq', BitVec.toNat_shiftLeft, BitVec.toNat_ofNat, BitVec.toNat_ofNat, BitVec.toNat_ofNat, Nat.mod_eq_of_lt (show k < 2 ^ 64 by omega), Nat.shiftLeft_eq, Nat.mul_mod, Nat.mod_mod, ← Nat.mul_mod]
theorem wb_and {a b : Nat} (ha : a < 2 ^ 64) (hb : b < 2 ^ 64) : lN a &&& lN b = lN (a &&& b) := by
  apply wb_inj
  rw [Int64.toBitVec_and, wb_tb, wb_tb, wb_tb]
  apply BitVec.eq_of_toNat_eq
  rw [BitVec.toNat_and, BitVec.toNat_ofNat, BitVec.toNat_ofNat, BitVec.toNat_ofNat, Nat.mod_eq_of_lt ha, Nat.mod_eq_of_lt hb, Nat.mod_eq_of_lt (Nat.and_lt_two_pow _ hb)]
theorem wb_or {a b : Nat} (ha : a < 2 ^ 64) (hb : b < 2 ^ 64) : lN a ||| lN b = lN (a ||| b) := by
  apply wb_inj
  rw [Int64.toBitVec_or, wb_tb, wb_tb, wb_tb]
  apply BitVec.eq_of_toNat_eq
  rw [BitVec.toNat_or, BitVec.toNat_ofNat, BitVec.toNat_ofNat, BitVec.toNat_ofNat, Nat.mod_eq_of_lt ha, Nat.mod_eq_of_lt hb, Nat.mod_eq_of_lt (Nat.or_lt_two_pow ha hb)]
theorem wb_mask {n k : Nat} (hn : n < 2 ^ 64) (hk : k < 64) : lN n &&& lN (2 ^ k - 1) = lN (n % 2 ^ k) := by
  rw [wb_and hn (by have := wb_lt2 hk; omega), Nat.and_two_pow_sub_one_eq_mod]
theorem wb_a1 {n : Nat} (hn : n < 2 ^ 64) : lN n &&& 1 = lN (n % 2) := wb_mask (k := 1) hn (by decide)
theorem wb_bit {n k : Nat} (hn : n < 2 ^ 64) (hk : k < 64) : ((lN n).toUInt64 >>> ((nI k).toInt64.toUInt64 &&& Int64.toUInt64 63)).toInt64 &&& 1 = lN (n / 2 ^ k % 2) := by
  rw [wb_shr hn hk, wb_a1 (Nat.lt_of_le_of_lt (Nat.div_le_self _ _) hn)]
theorem wb_xor {q k : Nat} (hk : k < 63) (h : 2 ^ k ≤ q) (h2 : q < 2 ^ (k + 1)) : lN q ^^^ lN (2 ^ k) = lN (q - 2 ^ k) := by
  obtain ⟨r, rfl⟩ : ∃ r, q = 2 ^ k + r := ⟨q - 2 ^ k, by omega⟩
  have hr : r < 2 ^ k := by rw [Nat.pow_succ] at h2; omega
  have hx : (2 ^ k + r) ^^^ 2 ^ k = r := by
    apply Nat.eq_of_testBit_eq
    intro i
    rw [Nat.testBit_xor, Nat.testBit_two_pow]
    rcases Nat.lt_trichotomy i k with h | h | h
    · rw [Nat.testBit_two_pow_add_gt h]
      simp [show ¬ k = i by omega]
    · subst h
      rw [Nat.testBit_two_pow_add_eq]
      simp
    · have a1 : 2 ^ (k + 1) ≤ 2 ^ i := Nat.pow_le_pow_right (by decide) h
      rw [Nat.testBit_lt_two_pow (show 2 ^ k + r < 2 ^ i by omega), Nat.testBit_lt_two_pow (show r < 2 ^ i by omega)]
      simp [show ¬ k = i by omega]
  have b1 := wb_lt2 (show k + 1 < 64 by omega)
  have b2 := wb_lt2 (show k < 64 by omega)
  apply wb_inj
  rw [Int64.toBitVec_xor, wb_tb, wb_tb, wb_tb]
  apply BitVec.eq_of_toNat_eq
  rw [BitVec.toNat_xor, BitVec.toNat_ofNat, BitVec.toNat_ofNat, BitVec.toNat_ofNat, Nat.mod_eq_of_lt (by omega : 2 ^ k + r < 2 ^ 64), Nat.mod_eq_of_lt b2, hx, Nat.add_sub_cancel_left, Nat.mod_eq_of_lt (by omega)]
/-! ===== lN to 2^62 under >> and >>> ===== -/
theorem pf_lI {a : Nat} (h : a < 2 ^ 63) : (lN a).toInt = (a : Int) := lg_ofNat_toInt h
theorem pf_shr {a d : Nat} {D : Int64} (hD : (D.toBitVec.smod 64).toNat = d) (h : a < 2 ^ 62) : lN a >>> D = lN (a / 2 ^ d) := by
  have hd : a / 2 ^ d ≤ a := Nat.div_le_self _ _
  apply Int64.toInt_inj.mp
  have e : (lN a >>> D).toInt = (lN a).toInt >>> d := by
    rw [← hD]
    exact BitVec.toInt_sshiftRight ..
  rw [e, Int.shiftRight_eq_div_pow, pf_lI (by omega), pf_lI (by omega)]
  rfl
theorem pf_ushr {a d : Nat} {D : UInt64} (hD : D.toNat % 64 = d) (h : a < 2 ^ 62) : ((lN a).toUInt64 >>> D).toInt64 = lN (a / 2 ^ d) := by
  have hd : a / 2 ^ d ≤ a := Nat.div_le_self _ _
  have e : (lN a).toUInt64 >>> D = UInt64.ofNat (a / 2 ^ d) := UInt64.toNat_inj.mp (by
    rw [UInt64.toNat_shiftRight, hD, Nat.shiftRight_eq_div_pow, UInt64.toNat_ofNat']
    show (UInt64.ofNat a).toNat / 2 ^ d = _
    rw [UInt64.toNat_ofNat', Nat.mod_eq_of_lt (by omega), Nat.mod_eq_of_lt (by omega)])
  rw [e]
  rfl
theorem pf_andw (x : Int64) : ∃ m, m < 2 ^ 32 ∧ x &&& 4294967295 = lN m := ⟨x.toBitVec.toNat % 2 ^ 32, Nat.mod_lt _ (by decide), Int64.toBitVec_inj.mp (BitVec.eq_of_toNat_eq (by
  show (x.toBitVec &&& 4294967295#64).toNat = (BitVec.ofNat 64 (x.toBitVec.toNat % 2 ^ 32)).toNat
  rw [BitVec.toNat_and, show (4294967295#64).toNat = 2 ^ 32 - 1 from by decide, Nat.and_two_pow_sub_one_eq_mod, BitVec.toNat_ofNat]
  omega))⟩
end BITS
end
section
/-! begin, remove, write as functions of the state -/
section OP2
def bgb (σ : SS) (t : Nat) : Bool := decide (t < 3) && decide (σ 2 t = 0)
theorem bgb_3 {σ : SS} : ¬ bgb σ 3 = true := by simp [bgb]
theorem bgb_f {σ : SS} {t : Nat} (h : σ 2 t ≠ 0) : ¬ bgb σ t = true := by simp [bgb, h]
theorem bgb_t {σ : SS} {t : Nat} (ht : t < 3) (h : σ 2 t = 0) : bgb σ t = true := by simp [bgb, h, ht]
def bgO (σ : SS) (t : Nat) : SS := if bgb σ t = true then fil (sp (sp σ 2 t 1) 3 t (σ 1 0)) (16 + t) (σ 1 0) 125 else σ
theorem bgO_f {σ : SS} {t : Nat} (h : ¬ bgb σ t = true) : bgO σ t = σ := if_neg h
theorem bgO_t {σ : SS} {t : Nat} (h : bgb σ t = true) : bgO σ t = fil (sp (sp σ 2 t 1) 3 t (σ 1 0)) (16 + t) (σ 1 0) 125 := if_pos h
/-- of the first i places of transaction t those at and below q are empty -/
def clr (σ : SS) (t q i : Nat) : SS := upf σ 0 (fun j => if 2000 + 125 * t ≤ j ∧ j < 2000 + 125 * t + i ∧ pun (j - (2000 + 125 * t)) q = true then 0 else σ 0 j)
theorem clr_0 {σ : SS} {t q : Nat} : clr σ t q 0 = σ := by
  funext f j
  unfold clr upf
  by_cases h : f = 0
  · subst h
    rw [if_pos rfl, if_neg (by omega)]
  · rw [if_neg h]
theorem clr_t {σ : SS} {t q i : Nat} (h : pun i q = true) : plc (clr σ t q i) t i 0 = clr σ t q (i + 1) := by
  funext f j
  unfold plc
  rw [sp_at]
  by_cases hf : f = 0
  · subst hf
    simp only [clr, upf, if_true, true_and]
    by_cases hj : j = 2000 + 125 * t + i
    · subst hj
      rw [if_pos rfl, if_pos ⟨by omega, by omega, by rw [show 2000 + 125 * t + i - (2000 + 125 * t) = i by omega]; exact h⟩]
    · rw [if_neg hj]
      by_cases h2 : 2000 + 125 * t ≤ j ∧ j < 2000 + 125 * t + i ∧ pun (j - (2000 + 125 * t)) q = true
      · rw [if_pos h2, if_pos ⟨h2.1, by omega, h2.2.2⟩]
      · rw [if_neg h2, if_neg (fun z => h2 ⟨z.1, by omega, z.2.2⟩)]
  · rw [if_neg (by omega)]
    simp only [clr, upf, if_neg hf]
theorem clr_f {σ : SS} {t q i : Nat} (h : pun i q = false) : clr σ t q i = clr σ t q (i + 1) := by
  funext f j
  by_cases hf : f = 0
  · subst hf
    simp only [clr, upf, if_true]
    by_cases h2 : 2000 + 125 * t ≤ j ∧ j < 2000 + 125 * t + i ∧ pun (j - (2000 + 125 * t)) q = true
    · rw [if_pos h2, if_pos ⟨h2.1, by omega, h2.2.2⟩]
    · rw [if_neg h2, if_neg]
      rintro ⟨z1, z2, z3⟩
      by_cases hj : j = 2000 + 125 * t + i
      · subst hj
        rw [show 2000 + 125 * t + i - (2000 + 125 * t) = i by omega, h] at z3
        cases z3
      · exact h2 ⟨z1, by omega, z3⟩
  · simp only [clr, upf, if_neg hf]
theorem rB_clr {σ : SS} {t q i : Nat} (h : rB σ) : rB (clr σ t q i) := by
  intro f j h1 h2
  unfold clr upf
  split
  · show (if _ then 0 else σ 0 j) < 32768
    split
    · omega
    · exact h _ _ (by decide) (by decide)
  · exact h f j h1 h2
theorem rat_good {σ : SS} {k p : Nat} (h : rat σ k p ≠ 0) : pgb p = true := by
  unfold rat at h
  by_cases hp : pgb p = true
  · exact hp
  · rw [if_neg hp] at h
    exact absurd rfl h
def rvb (σ : SS) (t q : Nat) : Bool := opb σ t && decide (q ≠ 0) && decide (rat σ (16 + t) q ≠ 0)
theorem rvb_1 {σ : SS} {t q : Nat} (h : opb σ t = false) : ¬ rvb σ t q = true := by simp [rvb, h]
theorem rvb_2 {σ : SS} {t q : Nat} (h : q = 0) : ¬ rvb σ t q = true := by simp [rvb, h]
theorem rvb_3 {σ : SS} {t q : Nat} (h : rat σ (16 + t) q = 0) : ¬ rvb σ t q = true := by simp [rvb, h]
theorem rvb_t {σ : SS} {t q : Nat} (h : opb σ t = true) (h2 : q ≠ 0) (h3 : rat σ (16 + t) q ≠ 0) : rvb σ t q = true := by simp [rvb, h, h2, h3]
def rmO (σ : SS) (t q : Nat) : SS := if rvb σ t q = true then tch (pd (pp q)) (clr σ t q 125) t (pp q) else σ
theorem rmO_f {σ : SS} {t q : Nat} (h : ¬ rvb σ t q = true) : rmO σ t q = σ := if_neg h
theorem rmO_t {σ : SS} {t q : Nat} (h : rvb σ t q = true) : rmO σ t q = tch (pd (pp q)) (clr σ t q 125) t (pp q) := if_pos h
theorem ix_0 : ix 0 = 0 := ix_n (k := 0) (by decide)
/-- the number of digits of a text: 13 where the int is none -/
def zn (x : Int32) : Nat := if 0 ≤ x ∧ x ≤ nI 12 then x.toNatClampNeg else 13
theorem zn_n {k : Nat} (h : k < 13) : zn (nI k) = k := by
  unfold zn
  rw [if_pos ⟨nI_pos' (by omega), nI_le (by omega) (by decide)⟩, nI_clamp (by omega)]
theorem zn_lt {x : Int32} (h : x < 0) : zn x = 13 := if_neg (fun z => nge_of h z.1)
theorem zn_gt {x : Int32} (h : nI 12 < x) : zn x = 13 := if_neg (fun z => nle_of h z.2)
def wrb (σ : SS) (t q z : Nat) : Bool := opb σ t && decide (z < 13) && decide (rat σ (16 + t) q ≠ 0) && decide (σ 6 (rat σ (16 + t) q) = 2)
theorem wrb_1 {σ : SS} {t q z : Nat} (h : opb σ t = false) : ¬ wrb σ t q z = true := by simp [wrb, h]
theorem wrb_2 {σ : SS} {t q z : Nat} (h : z = 13) : ¬ wrb σ t q z = true := by simp [wrb, h]
theorem wrb_3 {σ : SS} {t q z : Nat} (h : rat σ (16 + t) q = 0) : ¬ wrb σ t q z = true := by simp [wrb, h]
theorem wrb_4 {σ : SS} {t q z : Nat} (h : σ 6 (rat σ (16 + t) q) ≠ 2) : ¬ wrb σ t q z = true := by simp [wrb, h]
theorem wrb_t {σ : SS} {t q z : Nat} (h : opb σ t = true) (h1 : z < 13) (h2 : rat σ (16 + t) q ≠ 0) (h3 : σ 6 (rat σ (16 + t) q) = 2) : wrb σ t q z = true := by simp [wrb, h, h1, h2, h3]
/-- node n gets the text D of z digits -/
def wr3 (σ : SS) (n D z : Nat) : SS := sp (sp (sp σ 8 n 1) 7 n z) 9 n (D % 2 ^ (4 * z))
def wrO (σ : SS) (t q D z : Nat) : SS := if wrb σ t q z = true then wr3 (tch (pd q) σ t q) (rat (tch (pd q) σ t q) (16 + t) q) D z else σ
theorem wrO_f {σ : SS} {t q D z : Nat} (h : ¬ wrb σ t q z = true) : wrO σ t q D z = σ := if_neg h
theorem wrO_t {σ : SS} {t q D z : Nat} (h : wrb σ t q z = true) : wrO σ t q D z = wr3 (tch (pd q) σ t q) (rat (tch (pd q) σ t q) (16 + t) q) D z := if_pos h
theorem msk {D z : Nat} (hD : D < 2 ^ 64) (hz : z < 13) : lN D &&& ((1 : Int64) <<< ((nI (4 * z)).toInt64 &&& 63) - 1) = lN (D % 2 ^ (4 * z)) := by
  have h1 : (1 : Int64) = lN 1 := by decide
  have h2 : (1 : Int64) <<< ((nI (4 * z)).toInt64 &&& 63) = lN (2 ^ (4 * z)) := by
    rw [h1, wb_shl 1 (by omega), Nat.one_mul]
  have h3 : 1 ≤ 2 ^ (4 * z) := Nat.one_le_two_pow
  rw [h2, h1, lN_sub h3, wb_mask hD (by omega)]
end OP2
end
section
theorem d_M_begin_0 : decode prog_10_method_11_code 0 = .ok (.iload_n 1, 1) := by decide +kernel
theorem d_M_begin_1 : decode prog_10_method_11_code 1 = .ok (.ifCond .lt 17, 3) := by decide +kernel
theorem d_M_begin_4 : decode prog_10_method_11_code 4 = .ok (.iload_n 1, 1) := by decide +kernel
theorem d_M_begin_5 : decode prog_10_method_11_code 5 = .ok (.iconst 2, 1) := by decide +kernel
theorem d_M_begin_6 : decode prog_10_method_11_code 6 = .ok (.if_icmp .gt 12, 3) := by decide +kernel
theorem d_M_begin_9 : decode prog_10_method_11_code 9 = .ok (.aload_n 0, 1) := by decide +kernel
theorem d_M_begin_10 : decode prog_10_method_11_code 10 = .ok (.getfield 13, 3) := by decide +kernel
theorem d_M_begin_13 : decode prog_10_method_11_code 13 = .ok (.iload_n 1, 1) := by decide +kernel
theorem d_M_begin_14 : decode prog_10_method_11_code 14 = .ok (.baload, 1) := by decide +kernel
theorem d_M_begin_15 : decode prog_10_method_11_code 15 = .ok (.ifCond .eq 5, 3) := by decide +kernel
theorem d_M_begin_18 : decode prog_10_method_11_code 18 = .ok (.iconst 0, 1) := by decide +kernel
theorem d_M_begin_19 : decode prog_10_method_11_code 19 = .ok (.ireturn, 1) := by decide +kernel
theorem d_M_begin_20 : decode prog_10_method_11_code 20 = .ok (.aload_n 0, 1) := by decide +kernel
theorem d_M_begin_21 : decode prog_10_method_11_code 21 = .ok (.getfield 13, 3) := by decide +kernel
theorem d_M_begin_24 : decode prog_10_method_11_code 24 = .ok (.iload_n 1, 1) := by decide +kernel
theorem d_M_begin_25 : decode prog_10_method_11_code 25 = .ok (.iconst 1, 1) := by decide +kernel
theorem d_M_begin_26 : decode prog_10_method_11_code 26 = .ok (.bastore, 1) := by decide +kernel
theorem d_M_begin_27 : decode prog_10_method_11_code 27 = .ok (.aload_n 0, 1) := by decide +kernel
theorem d_M_begin_28 : decode prog_10_method_11_code 28 = .ok (.getfield 17, 3) := by decide +kernel
theorem d_M_begin_31 : decode prog_10_method_11_code 31 = .ok (.iload_n 1, 1) := by decide +kernel
theorem d_M_begin_32 : decode prog_10_method_11_code 32 = .ok (.aload_n 0, 1) := by decide +kernel
theorem d_M_begin_33 : decode prog_10_method_11_code 33 = .ok (.getfield 76, 3) := by decide +kernel
theorem d_M_begin_36 : decode prog_10_method_11_code 36 = .ok (.iastore, 1) := by decide +kernel
theorem d_M_begin_37 : decode prog_10_method_11_code 37 = .ok (.aload_n 0, 1) := by decide +kernel
theorem d_M_begin_38 : decode prog_10_method_11_code 38 = .ok (.bipush 16, 2) := by decide +kernel
theorem d_M_begin_40 : decode prog_10_method_11_code 40 = .ok (.iload_n 1, 1) := by decide +kernel
theorem d_M_begin_41 : decode prog_10_method_11_code 41 = .ok (.iadd, 1) := by decide +kernel
theorem d_M_begin_42 : decode prog_10_method_11_code 42 = .ok (.aload_n 0, 1) := by decide +kernel
theorem d_M_begin_43 : decode prog_10_method_11_code 43 = .ok (.getfield 76, 3) := by decide +kernel
theorem d_M_begin_46 : decode prog_10_method_11_code 46 = .ok (.invokevirtual 83, 3) := by decide +kernel
theorem d_M_begin_49 : decode prog_10_method_11_code 49 = .ok (.iconst 1, 1) := by decide +kernel
theorem d_M_begin_50 : decode prog_10_method_11_code 50 = .ok (.ireturn, 1) := by decide +kernel

theorem d_M_remove_0 : decode prog_10_method_17_code 0 = .ok (.aload_n 0, 1) := by decide +kernel
theorem d_M_remove_1 : decode prog_10_method_17_code 1 = .ok (.iload_n 1, 1) := by decide +kernel
theorem d_M_remove_2 : decode prog_10_method_17_code 2 = .ok (.invokevirtual 102, 3) := by decide +kernel
theorem d_M_remove_5 : decode prog_10_method_17_code 5 = .ok (.ifCond .eq 19, 3) := by decide +kernel
theorem d_M_remove_8 : decode prog_10_method_17_code 8 = .ok (.iload_n 2, 1) := by decide +kernel
theorem d_M_remove_9 : decode prog_10_method_17_code 9 = .ok (.ifCond .eq 15, 3) := by decide +kernel
theorem d_M_remove_12 : decode prog_10_method_17_code 12 = .ok (.aload_n 0, 1) := by decide +kernel
theorem d_M_remove_13 : decode prog_10_method_17_code 13 = .ok (.bipush 16, 2) := by decide +kernel
theorem d_M_remove_15 : decode prog_10_method_17_code 15 = .ok (.iload_n 1, 1) := by decide +kernel
theorem d_M_remove_16 : decode prog_10_method_17_code 16 = .ok (.iadd, 1) := by decide +kernel
theorem d_M_remove_17 : decode prog_10_method_17_code 17 = .ok (.iload_n 2, 1) := by decide +kernel
theorem d_M_remove_18 : decode prog_10_method_17_code 18 = .ok (.invokevirtual 87, 3) := by decide +kernel
theorem d_M_remove_21 : decode prog_10_method_17_code 21 = .ok (.ifCond .ne 5, 3) := by decide +kernel
theorem d_M_remove_24 : decode prog_10_method_17_code 24 = .ok (.iconst 0, 1) := by decide +kernel
theorem d_M_remove_25 : decode prog_10_method_17_code 25 = .ok (.ireturn, 1) := by decide +kernel
theorem d_M_remove_26 : decode prog_10_method_17_code 26 = .ok (.iconst 0, 1) := by decide +kernel
theorem d_M_remove_27 : decode prog_10_method_17_code 27 = .ok (.istore_n 3, 1) := by decide +kernel
theorem d_M_remove_28 : decode prog_10_method_17_code 28 = .ok (.iload_n 3, 1) := by decide +kernel
theorem d_M_remove_29 : decode prog_10_method_17_code 29 = .ok (.bipush 125, 2) := by decide +kernel
theorem d_M_remove_31 : decode prog_10_method_17_code 31 = .ok (.if_icmp .ge 24, 3) := by decide +kernel
theorem d_M_remove_34 : decode prog_10_method_17_code 34 = .ok (.iload_n 3, 1) := by decide +kernel
theorem d_M_remove_35 : decode prog_10_method_17_code 35 = .ok (.iload_n 2, 1) := by decide +kernel
theorem d_M_remove_36 : decode prog_10_method_17_code 36 = .ok (.invokestatic 115, 3) := by decide +kernel
theorem d_M_remove_39 : decode prog_10_method_17_code 39 = .ok (.ifCond .eq 10, 3) := by decide +kernel
theorem d_M_remove_42 : decode prog_10_method_17_code 42 = .ok (.aload_n 0, 1) := by decide +kernel
theorem d_M_remove_43 : decode prog_10_method_17_code 43 = .ok (.iload_n 1, 1) := by decide +kernel
theorem d_M_remove_44 : decode prog_10_method_17_code 44 = .ok (.iload_n 3, 1) := by decide +kernel
theorem d_M_remove_45 : decode prog_10_method_17_code 45 = .ok (.iconst 0, 1) := by decide +kernel
theorem d_M_remove_46 : decode prog_10_method_17_code 46 = .ok (.invokevirtual 95, 3) := by decide +kernel
theorem d_M_remove_49 : decode prog_10_method_17_code 49 = .ok (.iinc 3 1, 3) := by decide +kernel
theorem d_M_remove_52 : decode prog_10_method_17_code 52 = .ok (.goto (-24), 3) := by decide +kernel
theorem d_M_remove_55 : decode prog_10_method_17_code 55 = .ok (.aload_n 0, 1) := by decide +kernel
theorem d_M_remove_56 : decode prog_10_method_17_code 56 = .ok (.iload_n 1, 1) := by decide +kernel
theorem d_M_remove_57 : decode prog_10_method_17_code 57 = .ok (.iload_n 2, 1) := by decide +kernel
theorem d_M_remove_58 : decode prog_10_method_17_code 58 = .ok (.invokestatic 99, 3) := by decide +kernel
theorem d_M_remove_61 : decode prog_10_method_17_code 61 = .ok (.invokevirtual 112, 3) := by decide +kernel
theorem d_M_remove_64 : decode prog_10_method_17_code 64 = .ok (.iconst 1, 1) := by decide +kernel
theorem d_M_remove_65 : decode prog_10_method_17_code 65 = .ok (.ireturn, 1) := by decide +kernel

theorem d_M_representation_0 : decode prog_10_method_41_code 0 = .ok (.iload_n 1, 1) := by decide +kernel
theorem d_M_representation_1 : decode prog_10_method_41_code 1 = .ok (.ifCond .lt 11, 3) := by decide +kernel
theorem d_M_representation_4 : decode prog_10_method_41_code 4 = .ok (.iload_n 1, 1) := by decide +kernel
theorem d_M_representation_5 : decode prog_10_method_41_code 5 = .ok (.aload_n 0, 1) := by decide +kernel
theorem d_M_representation_6 : decode prog_10_method_41_code 6 = .ok (.getfield 76, 3) := by decide +kernel
theorem d_M_representation_9 : decode prog_10_method_41_code 9 = .ok (.if_icmp .le 5, 3) := by decide +kernel
theorem d_M_representation_12 : decode prog_10_method_41_code 12 = .ok (.iconst (-1), 1) := by decide +kernel
theorem d_M_representation_13 : decode prog_10_method_41_code 13 = .ok (.ireturn, 1) := by decide +kernel
theorem d_M_representation_14 : decode prog_10_method_41_code 14 = .ok (.aload_n 0, 1) := by decide +kernel
theorem d_M_representation_15 : decode prog_10_method_41_code 15 = .ok (.iload_n 1, 1) := by decide +kernel
theorem d_M_representation_16 : decode prog_10_method_41_code 16 = .ok (.iload_n 2, 1) := by decide +kernel
theorem d_M_representation_17 : decode prog_10_method_41_code 17 = .ok (.invokevirtual 87, 3) := by decide +kernel
theorem d_M_representation_20 : decode prog_10_method_41_code 20 = .ok (.istore_n 3, 1) := by decide +kernel
theorem d_M_representation_21 : decode prog_10_method_41_code 21 = .ok (.aload_n 0, 1) := by decide +kernel
theorem d_M_representation_22 : decode prog_10_method_41_code 22 = .ok (.iload_n 3, 1) := by decide +kernel
theorem d_M_representation_23 : decode prog_10_method_41_code 23 = .ok (.invokevirtual 154, 3) := by decide +kernel
theorem d_M_representation_26 : decode prog_10_method_41_code 26 = .ok (.ifCond .eq 23, 3) := by decide +kernel
theorem d_M_representation_29 : decode prog_10_method_41_code 29 = .ok (.aload_n 0, 1) := by decide +kernel
theorem d_M_representation_30 : decode prog_10_method_41_code 30 = .ok (.getfield 50, 3) := by decide +kernel
theorem d_M_representation_33 : decode prog_10_method_41_code 33 = .ok (.iload_n 3, 1) := by decide +kernel
theorem d_M_representation_34 : decode prog_10_method_41_code 34 = .ok (.saload, 1) := by decide +kernel
theorem d_M_representation_35 : decode prog_10_method_41_code 35 = .ok (.ifCond .le 14, 3) := by decide +kernel
theorem d_M_representation_38 : decode prog_10_method_41_code 38 = .ok (.aload_n 0, 1) := by decide +kernel
theorem d_M_representation_39 : decode prog_10_method_41_code 39 = .ok (.getfield 50, 3) := by decide +kernel
theorem d_M_representation_42 : decode prog_10_method_41_code 42 = .ok (.iload_n 3, 1) := by decide +kernel
theorem d_M_representation_43 : decode prog_10_method_41_code 43 = .ok (.saload, 1) := by decide +kernel
theorem d_M_representation_44 : decode prog_10_method_41_code 44 = .ok (.iconst 1, 1) := by decide +kernel
theorem d_M_representation_45 : decode prog_10_method_41_code 45 = .ok (.isub, 1) := by decide +kernel
theorem d_M_representation_46 : decode prog_10_method_41_code 46 = .ok (.goto 4, 3) := by decide +kernel
theorem d_M_representation_49 : decode prog_10_method_41_code 49 = .ok (.iconst (-1), 1) := by decide +kernel
theorem d_M_representation_50 : decode prog_10_method_41_code 50 = .ok (.ireturn, 1) := by decide +kernel

theorem d_M_write_0 : decode prog_10_method_20_code 0 = .ok (.aload_n 0, 1) := by decide +kernel
theorem d_M_write_1 : decode prog_10_method_20_code 1 = .ok (.iload_n 1, 1) := by decide +kernel
theorem d_M_write_2 : decode prog_10_method_20_code 2 = .ok (.invokevirtual 102, 3) := by decide +kernel
theorem d_M_write_5 : decode prog_10_method_20_code 5 = .ok (.ifCond .eq 45, 3) := by decide +kernel
theorem d_M_write_8 : decode prog_10_method_20_code 8 = .ok (.iload 5, 2) := by decide +kernel
theorem d_M_write_10 : decode prog_10_method_20_code 10 = .ok (.ifCond .lt 40, 3) := by decide +kernel
theorem d_M_write_13 : decode prog_10_method_20_code 13 = .ok (.iload 5, 2) := by decide +kernel
theorem d_M_write_15 : decode prog_10_method_20_code 15 = .ok (.bipush 12, 2) := by decide +kernel
theorem d_M_write_17 : decode prog_10_method_20_code 17 = .ok (.if_icmp .gt 33, 3) := by decide +kernel
theorem d_M_write_20 : decode prog_10_method_20_code 20 = .ok (.aload_n 0, 1) := by decide +kernel
theorem d_M_write_21 : decode prog_10_method_20_code 21 = .ok (.bipush 16, 2) := by decide +kernel
theorem d_M_write_23 : decode prog_10_method_20_code 23 = .ok (.iload_n 1, 1) := by decide +kernel
theorem d_M_write_24 : decode prog_10_method_20_code 24 = .ok (.iadd, 1) := by decide +kernel
theorem d_M_write_25 : decode prog_10_method_20_code 25 = .ok (.iload_n 2, 1) := by decide +kernel
theorem d_M_write_26 : decode prog_10_method_20_code 26 = .ok (.invokevirtual 87, 3) := by decide +kernel
theorem d_M_write_29 : decode prog_10_method_20_code 29 = .ok (.ifCond .eq 21, 3) := by decide +kernel
theorem d_M_write_32 : decode prog_10_method_20_code 32 = .ok (.aload_n 0, 1) := by decide +kernel
theorem d_M_write_33 : decode prog_10_method_20_code 33 = .ok (.getfield 21, 3) := by decide +kernel
theorem d_M_write_36 : decode prog_10_method_20_code 36 = .ok (.aload_n 0, 1) := by decide +kernel
theorem d_M_write_37 : decode prog_10_method_20_code 37 = .ok (.bipush 16, 2) := by decide +kernel
theorem d_M_write_39 : decode prog_10_method_20_code 39 = .ok (.iload_n 1, 1) := by decide +kernel
theorem d_M_write_40 : decode prog_10_method_20_code 40 = .ok (.iadd, 1) := by decide +kernel
theorem d_M_write_41 : decode prog_10_method_20_code 41 = .ok (.iload_n 2, 1) := by decide +kernel
theorem d_M_write_42 : decode prog_10_method_20_code 42 = .ok (.invokevirtual 87, 3) := by decide +kernel
theorem d_M_write_45 : decode prog_10_method_20_code 45 = .ok (.baload, 1) := by decide +kernel
theorem d_M_write_46 : decode prog_10_method_20_code 46 = .ok (.iconst 2, 1) := by decide +kernel
theorem d_M_write_47 : decode prog_10_method_20_code 47 = .ok (.if_icmp .eq 5, 3) := by decide +kernel
theorem d_M_write_50 : decode prog_10_method_20_code 50 = .ok (.iconst 0, 1) := by decide +kernel
theorem d_M_write_51 : decode prog_10_method_20_code 51 = .ok (.ireturn, 1) := by decide +kernel
theorem d_M_write_52 : decode prog_10_method_20_code 52 = .ok (.aload_n 0, 1) := by decide +kernel
theorem d_M_write_53 : decode prog_10_method_20_code 53 = .ok (.iload_n 1, 1) := by decide +kernel
theorem d_M_write_54 : decode prog_10_method_20_code 54 = .ok (.iload_n 2, 1) := by decide +kernel
theorem d_M_write_55 : decode prog_10_method_20_code 55 = .ok (.invokevirtual 112, 3) := by decide +kernel
theorem d_M_write_58 : decode prog_10_method_20_code 58 = .ok (.aload_n 0, 1) := by decide +kernel
theorem d_M_write_59 : decode prog_10_method_20_code 59 = .ok (.bipush 16, 2) := by decide +kernel
theorem d_M_write_61 : decode prog_10_method_20_code 61 = .ok (.iload_n 1, 1) := by decide +kernel
theorem d_M_write_62 : decode prog_10_method_20_code 62 = .ok (.iadd, 1) := by decide +kernel
theorem d_M_write_63 : decode prog_10_method_20_code 63 = .ok (.iload_n 2, 1) := by decide +kernel
theorem d_M_write_64 : decode prog_10_method_20_code 64 = .ok (.invokevirtual 87, 3) := by decide +kernel
theorem d_M_write_67 : decode prog_10_method_20_code 67 = .ok (.istore 6, 2) := by decide +kernel
theorem d_M_write_69 : decode prog_10_method_20_code 69 = .ok (.aload_n 0, 1) := by decide +kernel
theorem d_M_write_70 : decode prog_10_method_20_code 70 = .ok (.getfield 28, 3) := by decide +kernel
theorem d_M_write_73 : decode prog_10_method_20_code 73 = .ok (.iload 6, 2) := by decide +kernel
theorem d_M_write_75 : decode prog_10_method_20_code 75 = .ok (.iconst 1, 1) := by decide +kernel
theorem d_M_write_76 : decode prog_10_method_20_code 76 = .ok (.bastore, 1) := by decide +kernel
theorem d_M_write_77 : decode prog_10_method_20_code 77 = .ok (.aload_n 0, 1) := by decide +kernel
theorem d_M_write_78 : decode prog_10_method_20_code 78 = .ok (.getfield 25, 3) := by decide +kernel
theorem d_M_write_81 : decode prog_10_method_20_code 81 = .ok (.iload 6, 2) := by decide +kernel
theorem d_M_write_83 : decode prog_10_method_20_code 83 = .ok (.iload 5, 2) := by decide +kernel
theorem d_M_write_85 : decode prog_10_method_20_code 85 = .ok (.i2b, 1) := by decide +kernel
theorem d_M_write_86 : decode prog_10_method_20_code 86 = .ok (.bastore, 1) := by decide +kernel
theorem d_M_write_87 : decode prog_10_method_20_code 87 = .ok (.aload_n 0, 1) := by decide +kernel
theorem d_M_write_88 : decode prog_10_method_20_code 88 = .ok (.getfield 31, 3) := by decide +kernel
theorem d_M_write_91 : decode prog_10_method_20_code 91 = .ok (.iload 6, 2) := by decide +kernel
theorem d_M_write_93 : decode prog_10_method_20_code 93 = .ok (.lload_n 3, 1) := by decide +kernel
theorem d_M_write_94 : decode prog_10_method_20_code 94 = .ok (.lconst 1, 1) := by decide +kernel
theorem d_M_write_95 : decode prog_10_method_20_code 95 = .ok (.iconst 4, 1) := by decide +kernel
theorem d_M_write_96 : decode prog_10_method_20_code 96 = .ok (.iload 5, 2) := by decide +kernel
theorem d_M_write_98 : decode prog_10_method_20_code 98 = .ok (.imul, 1) := by decide +kernel
theorem d_M_write_99 : decode prog_10_method_20_code 99 = .ok (.lshl, 1) := by decide +kernel
theorem d_M_write_100 : decode prog_10_method_20_code 100 = .ok (.lconst 1, 1) := by decide +kernel
theorem d_M_write_101 : decode prog_10_method_20_code 101 = .ok (.lsub, 1) := by decide +kernel
theorem d_M_write_102 : decode prog_10_method_20_code 102 = .ok (.land, 1) := by decide +kernel
theorem d_M_write_103 : decode prog_10_method_20_code 103 = .ok (.lastore, 1) := by decide +kernel
theorem d_M_write_104 : decode prog_10_method_20_code 104 = .ok (.iconst 1, 1) := by decide +kernel
theorem d_M_write_105 : decode prog_10_method_20_code 105 = .ok (.ireturn, 1) := by decide +kernel
set_option maxHeartbeats 4000000 in
set_option maxRecDepth 100000 in
theorem c_M_begin {l : Launch} {E : Ev} {σ : SS} {ad : Nat → Nat} (hI : rfI ad) (hB : rB σ) {sz : Nat} {x : Int32} (hy : σ 1 0 ≤ 15) : MCi l E y_M_begin prog_10_method_11_code 2 (some .boolean) 1 23 0 0 [.ref (ad 0), .int x] (rfM E σ ad) sz (fun r M' => r = bz (bgb σ (tx x)) ∧ M' = rfM E (bgO σ (tx x)) ad ∧ rB (bgO σ (tx x))) := by
  refine mc_of R_M rfl [some (.ref (ad 0)), some (.int x)] (by decide) (Nat.le_of_ble_eq_true rfl) rfl ?_
  intro p e R s m ag below meth c ls Q A X hAe hQ hR hsz hw hl
  rw [← hAe] at hQ
  obtain ⟨⟨hx, hb, hml, hown, hts⟩, hE, hA, hr, hlk, hnm⟩ := X
  have hK := hE.1
  refine x_iload_n hx hb d_M_begin_0 hl rfl ?_
  refine lv_if_lt hx hb d_M_begin_1 rfl (fun h1 => ?_) (fun h1 => ?_)
  · refine lv_iconst (v := nI 0) hx hb d_M_begin_18 (by decide) ?_
    exact x_reti hQ hx hb hr hlk (by first | exact nar_bz | decide) hw (by omega) (by omega) d_M_begin_19 (by first | (rw [tx_lt h1, bgO_f bgb_3]; exact ⟨bz_f bgb_3, rfl, hB⟩) | (rw [tx_gt h6, bgO_f bgb_3]; exact ⟨bz_f bgb_3, rfl, hB⟩) | (rw [tx_n (by omega), bgO_f (bgb_f h15)]; exact ⟨bz_f (bgb_f h15), rfl, hB⟩))
  · refine x_iload_n hx hb d_M_begin_4 hl rfl ?_
    refine lv_iconst (v := nI 2) hx hb d_M_begin_5 (by decide) ?_
    refine lv_icmp_gt hx hb d_M_begin_6 rfl (fun h6 => ?_) (fun h6 => ?_)
    · refine lv_iconst (v := nI 0) hx hb d_M_begin_18 (by decide) ?_
      exact x_reti hQ hx hb hr hlk (by first | exact nar_bz | decide) hw (by omega) (by omega) d_M_begin_19 (by first | (rw [tx_lt h1, bgO_f bgb_3]; exact ⟨bz_f bgb_3, rfl, hB⟩) | (rw [tx_gt h6, bgO_f bgb_3]; exact ⟨bz_f bgb_3, rfl, hB⟩) | (rw [tx_n (by omega), bgO_f (bgb_f h15)]; exact ⟨bz_f (bgb_f h15), rfl, hB⟩))
    · obtain ⟨t, ht, rfl⟩ := nI_of2b (M := nI 2) (n := 2) (by decide) h1 h6
      first | refine x_aload_n hx hb d_M_begin_9 hl rfl ?_ | refine x_aload_nQ hx hb d_M_begin_9 hl rfl ?_
      refine m_get hx hb hts hown hK hw ci_M (rf_at hI 0 (by decide) rfl) 2 (by decide) (wm3 74 rfl rfl) rfl d_M_begin_10 ?_
      refine x_iload_n hx hb d_M_begin_13 hl rfl ?_
      refine rl_2 hx hb hK hI hB hw (by omega) d_M_begin_14 (fun hv14 => ?_)
      refine x_if_eq hx hb d_M_begin_15 rfl (by omega) (fun h15 => ?_) (fun h15 => ?_)
      · first | refine x_aload_n hx hb d_M_begin_20 hl rfl ?_ | refine x_aload_nQ hx hb d_M_begin_20 hl rfl ?_
        refine m_get hx hb hts hown hK hw ci_M (rf_at hI 0 (by decide) rfl) 2 (by decide) (wm3 74 rfl rfl) rfl d_M_begin_21 ?_
        refine x_iload_n hx hb d_M_begin_24 hl rfl ?_
        refine lv_iconst (v := nI 1) hx hb d_M_begin_25 (by decide) ?_
        refine rs_2 hx hb hK hI hB hw (by omega) (by omega) d_M_begin_26 (fun H locs hw hB => ?_)
        first | refine x_aload_n hx hb d_M_begin_27 hl rfl ?_ | refine x_aload_nQ hx hb d_M_begin_27 hl rfl ?_
        refine m_get hx hb hts hown hK hw ci_M (rf_at hI 0 (by decide) rfl) 3 (by decide) (wm3 75 rfl rfl) rfl d_M_begin_28 ?_
        refine x_iload_n hx hb d_M_begin_31 hl rfl ?_
        first | refine x_aload_n hx hb d_M_begin_32 hl rfl ?_ | refine x_aload_nQ hx hb d_M_begin_32 hl rfl ?_
        refine m_get (v := .int (nI (σ 1 0))) hx hb hts hown hK hw ci_M (rf_at hI 0 (by decide) rfl) 1 (by decide) (wm3 73 rfl rfl) rfl d_M_begin_33 ?_
        refine rs_3 hx hb hK hI hB hw (by omega) (by omega) d_M_begin_36 (fun H locs hw hB => ?_)
        first | refine x_aload_n hx hb d_M_begin_37 hl rfl ?_ | refine x_aload_nQ hx hb d_M_begin_37 hl rfl ?_
        refine lv_bipush (v := nI 16) hx hb d_M_begin_38 (by decide) ?_
        refine x_iload_n hx hb d_M_begin_40 hl rfl ?_
        first | refine x_iadd hx hb d_M_begin_41 ?_ | refine lv_iadd hx hb d_M_begin_41 ?_
        first | refine x_aload_n hx hb d_M_begin_42 hl rfl ?_ | refine x_aload_nQ hx hb d_M_begin_42 hl rfl ?_
        refine m_get (v := .int (nI (σ 1 0))) hx hb hts hown hK hw ci_M (rf_at hI 0 (by decide) rfl) 1 (by decide) (wm3 73 rfl rfl) rfl d_M_begin_43 ?_
        refine m_callv (k_V ⟨hx, hb, hml, hown, hts⟩ hE hA hw (c_M_fill hI hB (by omega) (by omega) (by omega)) (ci_M).1 rfl (rf_at hI 0 (by decide) rfl) (wm3 145 rfl rfl) (wm3 147 rfl rfl) (wmp2 4 rfl) (wm1 9 rfl rfl) (wm3 148 rfl rfl) rfl rfl ar_M_fill ⟨Nat.le_trans (Nat.le_of_ble_eq_true rfl) hR.1, Nat.le_trans (Nat.le_of_ble_eq_true rfl) hR.2.1⟩ rfl hl.1 rfl (Nat.le_of_ble_eq_true rfl) d_M_begin_46 ⟨Nat.le_trans (Nat.le_of_ble_eq_true rfl) hR.2.2.1, Nat.le_trans (Nat.le_of_ble_eq_true rfl) hR.2.2.2⟩) hw (mfr_in hw hA) (fun M46 H locs hP46 hw => ?_)
        obtain ⟨hM46, hB⟩ := hP46
        rw [hM46] at hw
        refine lv_iconst (v := nI 1) hx hb d_M_begin_49 (by decide) ?_
        exact x_reti hQ hx hb hr hlk (by first | exact nar_bz | decide) hw (by omega) (by omega) d_M_begin_50 (by rw [tx_n (by omega), bgO_t (bgb_t (by omega) h15)]; exact ⟨bz_t (bgb_t (by omega) h15), rfl, hB⟩)
      · refine lv_iconst (v := nI 0) hx hb d_M_begin_18 (by decide) ?_
        exact x_reti hQ hx hb hr hlk (by first | exact nar_bz | decide) hw (by omega) (by omega) d_M_begin_19 (by first | (rw [tx_lt h1, bgO_f bgb_3]; exact ⟨bz_f bgb_3, rfl, hB⟩) | (rw [tx_gt h6, bgO_f bgb_3]; exact ⟨bz_f bgb_3, rfl, hB⟩) | (rw [tx_n (by omega), bgO_f (bgb_f h15)]; exact ⟨bz_f (bgb_f h15), rfl, hB⟩))

set_option maxHeartbeats 4000000 in
set_option maxRecDepth 100000 in
theorem c_M_remove {l : Launch} {E : Ev} {σ : SS} {ad : Nat → Nat} (hI : rfI ad) (hB : rB σ) {sz : Nat} {x y : Int32} (hk : rvb σ (tx x) (ix y) = true → tok (pd (pp (ix y))) (clr σ (tx x) (ix y) 125) (tx x) (pp (ix y))) : MCi l E y_M_remove prog_10_method_17_code 4 (some .boolean) 3 69 0 0 [.ref (ad 0), .int x, .int y] (rfM E σ ad) sz (fun r M' => r = bz (rvb σ (tx x) (ix y)) ∧ M' = rfM E (rmO σ (tx x) (ix y)) ad ∧ rB (rmO σ (tx x) (ix y))) := by
  refine mc_of R_M rfl [some (.ref (ad 0)), some (.int x), some (.int y), none] (by decide) (Nat.le_of_ble_eq_true rfl) rfl ?_
  intro p e R s m ag below meth c ls Q A X hAe hQ hR hsz hw hl
  rw [← hAe] at hQ
  obtain ⟨⟨hx, hb, hml, hown, hts⟩, hE, hA, hr, hlk, hnm⟩ := X
  have hK := hE.1
  first | refine x_aload_n hx hb d_M_remove_0 hl rfl ?_ | refine x_aload_nQ hx hb d_M_remove_0 hl rfl ?_
  refine x_iload_n hx hb d_M_remove_1 hl rfl ?_
  refine m_calli (k_V ⟨hx, hb, hml, hown, hts⟩ hE hA hw (c_M_isOpen hI hB) (ci_M).1 rfl (rf_at hI 0 (by decide) rfl) (wm3 157 rfl rfl) (wm3 159 rfl rfl) (wmp2 6 rfl) (wm1 9 rfl rfl) (wm3 160 rfl rfl) rfl rfl ar_M_isOpen ⟨Nat.le_trans (Nat.le_of_ble_eq_true rfl) hR.1, Nat.le_trans (Nat.le_of_ble_eq_true rfl) hR.2.1⟩ rfl hl.1 rfl (Nat.le_of_ble_eq_true rfl) d_M_remove_2 ⟨Nat.le_trans (Nat.le_of_ble_eq_true rfl) hR.2.2.1, Nat.le_trans (Nat.le_of_ble_eq_true rfl) hR.2.2.2⟩) hw (mfr_in hw hA) (fun r2 M2 H locs hP2 hw => ?_)
  obtain ⟨rfl, hM2⟩ := hP2
  rw [hM2] at hw
  refine x_if_eqB hx hb d_M_remove_5 rfl (fun h5 => ?_) (fun h5 => ?_)
  · refine lv_iconst (v := nI 0) hx hb d_M_remove_24 (by decide) ?_
    exact x_reti hQ hx hb hr hlk (by first | exact nar_bz | decide) hw (by omega) (by omega) d_M_remove_25 (by first | (rw [rmO_f (rvb_1 h5)]; exact ⟨bz_f (rvb_1 h5), rfl, hB⟩) | (rw [h9, ix_0, rmO_f (rvb_2 rfl)]; exact ⟨bz_f (rvb_2 rfl), rfl, hB⟩) | (rw [tx_n ht, rmO_f (rvb_3 h21)]; exact ⟨bz_f (rvb_3 h21), rfl, hB⟩))
  · obtain ⟨t, ht, rfl, ho⟩ := opb_of h5
    refine x_iload_n hx hb d_M_remove_8 hl rfl ?_
    refine lv_if_eq hx hb d_M_remove_9 rfl (fun h9 => ?_) (fun h9 => ?_)
    · refine lv_iconst (v := nI 0) hx hb d_M_remove_24 (by decide) ?_
      exact x_reti hQ hx hb hr hlk (by first | exact nar_bz | decide) hw (by omega) (by omega) d_M_remove_25 (by first | (rw [rmO_f (rvb_1 h5)]; exact ⟨bz_f (rvb_1 h5), rfl, hB⟩) | (rw [h9, ix_0, rmO_f (rvb_2 rfl)]; exact ⟨bz_f (rvb_2 rfl), rfl, hB⟩) | (rw [tx_n ht, rmO_f (rvb_3 h21)]; exact ⟨bz_f (rvb_3 h21), rfl, hB⟩))
    · first | refine x_aload_n hx hb d_M_remove_12 hl rfl ?_ | refine x_aload_nQ hx hb d_M_remove_12 hl rfl ?_
      refine lv_bipush (v := nI 16) hx hb d_M_remove_13 (by decide) ?_
      refine x_iload_n hx hb d_M_remove_15 hl rfl ?_
      first | refine x_iadd hx hb d_M_remove_16 ?_ | refine lv_iadd hx hb d_M_remove_16 ?_
      refine x_iload_n hx hb d_M_remove_17 hl rfl ?_
      refine m_calli (k_V ⟨hx, hb, hml, hown, hts⟩ hE hA hw (c_M_at hI hB (by omega)) (ci_M).1 rfl (rf_at hI 0 (by decide) rfl) (wm3 164 rfl rfl) (wm3 166 rfl rfl) (wmp2 7 rfl) (wm1 9 rfl rfl) (wm3 167 rfl rfl) rfl rfl ar_M_at ⟨Nat.le_trans (Nat.le_of_ble_eq_true rfl) hR.1, Nat.le_trans (Nat.le_of_ble_eq_true rfl) hR.2.1⟩ rfl hl.1 rfl (Nat.le_of_ble_eq_true rfl) d_M_remove_18 ⟨Nat.le_trans (Nat.le_of_ble_eq_true rfl) hR.2.2.1, Nat.le_trans (Nat.le_of_ble_eq_true rfl) hR.2.2.2⟩) hw (mfr_in hw hA) (fun r18 M18 H locs hP18 hw => ?_)
      obtain ⟨⟨rfl, hb18⟩, hM18⟩ := hP18
      rw [hM18] at hw
      refine x_if_ne hx hb d_M_remove_21 rfl (by omega) (fun h21 => ?_) (fun h21 => ?_)
      · refine lv_iconst (v := nI 0) hx hb d_M_remove_26 (by decide) ?_
        refine x_istore_n hx hb d_M_remove_27 hl (Nat.le_of_ble_eq_true rfl) (lh_k (i := 2) rfl (by first | exact lk_n | exact lk_i | exact lk_r | exact lk_q | exact lk_0)) (fun ls hl => ?_)
        obtain ⟨q, hq, rfl⟩ := ix_good (rat_good h21)
        rw [ix_n hq] at h21
        have hq0 : q ≠ 0 := fun z => h9 (by rw [z]; decide)
        have ho2 : opb σ t = true := opb_t ht ho
        have hrv := rvb_t ho2 hq0 h21
        have k3 := hk (by rw [tx_n ht, ix_n hq]; exact hrv)
        rw [tx_n ht, ix_n hq] at k3
        have hp1 := pp_lt q
        have loop : ∀ (k i : Nat) (H : Heap) (locs : List Loc) (ls : Array Slot), i + k = 125 → mw E.1 vwCl A s.heap (rfM E (clr σ t q i) ad) H locs → lh ls [some (.ref (ad 0)), some (.int (nI t)), some (.int (nI q)), some (.int (nI i))] → W p l e R s m ag below meth c H locs 0 0 Q (F0 m 28 ls []) := by
          intro k
          induction k with
          | zero =>
            intro i H locs ls hi hw hl
            obtain rfl : i = 125 := by omega
            have hB := rB_clr (t := t) (q := q) (i := 125) hB
            refine x_iload_n hx hb d_M_remove_28 hl rfl ?_
            refine lv_bipush (v := nI 125) hx hb d_M_remove_29 (by decide) ?_
            refine x_icmp_ge hx hb d_M_remove_31 rfl (by omega) (by omega) (fun h31 => ?_) (fun h31 => ?_)
            · first | refine x_aload_n hx hb d_M_remove_55 hl rfl ?_ | refine x_aload_nQ hx hb d_M_remove_55 hl rfl ?_
              refine x_iload_n hx hb d_M_remove_56 hl rfl ?_
              refine x_iload_n hx hb d_M_remove_57 hl rfl ?_
              refine m_calli (k_S ⟨hx, hb, hml, hown, hts⟩ hE hA hw (c_M_parent (by omega) (by omega)) (wm3 168 rfl rfl) (wm3 169 rfl rfl) (wm1 9 rfl rfl) (wm3 170 rfl rfl) rfl rfl ar_M_parent ⟨Nat.le_trans (Nat.le_of_ble_eq_true rfl) hR.1, Nat.le_trans (Nat.le_of_ble_eq_true rfl) hR.2.1⟩ rfl hl.1 rfl (Nat.le_of_ble_eq_true rfl) d_M_remove_58 ⟨Nat.le_trans (Nat.le_of_ble_eq_true rfl) hR.2.2.1, Nat.le_trans (Nat.le_of_ble_eq_true rfl) hR.2.2.2⟩) hw (mfr_in hw hA) (fun r58 M58 H locs hP58 hw => ?_)
              obtain ⟨rfl, hM58⟩ := hP58
              rw [hM58] at hw
              refine m_callv (k_V ⟨hx, hb, hml, hown, hts⟩ hE hA hw (c_M_touch hI hB (by omega) (by omega) k3) (ci_M).1 rfl (rf_at hI 0 (by decide) rfl) (wm3 185 rfl rfl) (wm3 187 rfl rfl) (wmp2 10 rfl) (wm1 9 rfl rfl) (wm3 188 rfl rfl) rfl rfl ar_M_touch ⟨Nat.le_trans (Nat.le_of_ble_eq_true rfl) hR.1, Nat.le_trans (Nat.le_of_ble_eq_true rfl) hR.2.1⟩ rfl hl.1 rfl (Nat.le_of_ble_eq_true rfl) d_M_remove_61 ⟨Nat.le_trans (Nat.le_of_ble_eq_true rfl) hR.2.2.1, Nat.le_trans (Nat.le_of_ble_eq_true rfl) hR.2.2.2⟩) hw (mfr_in hw hA) (fun M61 H locs hP61 hw => ?_)
              obtain ⟨hM61, hB⟩ := hP61
              rw [hM61] at hw
              refine lv_iconst (v := nI 1) hx hb d_M_remove_64 (by decide) ?_
              exact x_reti hQ hx hb hr hlk (by first | exact nar_bz | decide) hw (by omega) (by omega) d_M_remove_65 (by rw [tx_n ht, ix_n hq, rmO_t hrv]; exact ⟨bz_t hrv, rfl, hB⟩)
            · exact absurd h31 (by omega)
          | succ k ih =>
            intro i H locs ls hi hw hl
            have hB := rB_clr (t := t) (q := q) (i := i) hB
            refine x_iload_n hx hb d_M_remove_28 hl rfl ?_
            refine lv_bipush (v := nI 125) hx hb d_M_remove_29 (by decide) ?_
            refine x_icmp_ge hx hb d_M_remove_31 rfl (by omega) (by omega) (fun h31 => ?_) (fun h31 => ?_)
            · exact absurd h31 (by omega)
            · refine x_iload_n hx hb d_M_remove_34 hl rfl ?_
              refine x_iload_n hx hb d_M_remove_35 hl rfl ?_
              refine m_calli (k_S ⟨hx, hb, hml, hown, hts⟩ hE hA hw (c_M_under (by omega) (by omega)) (wm3 193 rfl rfl) (wm3 194 rfl rfl) (wm1 9 rfl rfl) (wm3 195 rfl rfl) rfl rfl ar_M_under ⟨Nat.le_trans (Nat.le_of_ble_eq_true rfl) hR.1, Nat.le_trans (Nat.le_of_ble_eq_true rfl) hR.2.1⟩ rfl hl.1 rfl (Nat.le_of_ble_eq_true rfl) d_M_remove_36 ⟨Nat.le_trans (Nat.le_of_ble_eq_true rfl) hR.2.2.1, Nat.le_trans (Nat.le_of_ble_eq_true rfl) hR.2.2.2⟩) hw (mfr_in hw hA) (fun r36 M36 H locs hP36 hw => ?_)
              obtain ⟨rfl, hM36⟩ := hP36
              rw [hM36] at hw
              refine x_if_eqB hx hb d_M_remove_39 rfl (fun h39 => ?_) (fun h39 => ?_)
              · have hcl := clr_f (σ := σ) (t := t) h39
                refine x_iincN hx hb d_M_remove_49 hl rfl (lh_k (i := 2) rfl (by first | exact lk_n | exact lk_i | exact lk_r | exact lk_q | exact lk_0)) (fun ls hl => ?_)
                refine lv_goto hx hb d_M_remove_52 rfl ?_
                rw [hcl] at hw
                exact ih (i + 1) H locs ls (by omega) hw hl
              · have hcl := clr_t (σ := σ) (t := t) h39
                first | refine x_aload_n hx hb d_M_remove_42 hl rfl ?_ | refine x_aload_nQ hx hb d_M_remove_42 hl rfl ?_
                refine x_iload_n hx hb d_M_remove_43 hl rfl ?_
                refine x_iload_n hx hb d_M_remove_44 hl rfl ?_
                refine lv_iconst (v := nI 0) hx hb d_M_remove_45 (by decide) ?_
                refine m_callv (k_V ⟨hx, hb, hml, hown, hts⟩ hE hA hw (c_M_place hI hB (by omega) (by omega) (by omega)) (ci_M).1 rfl (rf_at hI 0 (by decide) rfl) (wm3 181 rfl rfl) (wm3 183 rfl rfl) (wmp2 9 rfl) (wm1 9 rfl rfl) (wm3 184 rfl rfl) rfl rfl ar_M_place ⟨Nat.le_trans (Nat.le_of_ble_eq_true rfl) hR.1, Nat.le_trans (Nat.le_of_ble_eq_true rfl) hR.2.1⟩ rfl hl.1 rfl (Nat.le_of_ble_eq_true rfl) d_M_remove_46 ⟨Nat.le_trans (Nat.le_of_ble_eq_true rfl) hR.2.2.1, Nat.le_trans (Nat.le_of_ble_eq_true rfl) hR.2.2.2⟩) hw (mfr_in hw hA) (fun M46 H locs hP46 hw => ?_)
                obtain ⟨hM46, hB⟩ := hP46
                rw [hM46] at hw
                refine x_iincN hx hb d_M_remove_49 hl rfl (lh_k (i := 2) rfl (by first | exact lk_n | exact lk_i | exact lk_r | exact lk_q | exact lk_0)) (fun ls hl => ?_)
                refine lv_goto hx hb d_M_remove_52 rfl ?_
                rw [hcl] at hw
                exact ih (i + 1) H locs ls (by omega) hw hl
        exact loop 125 0 _ _ _ (by omega) (by rw [clr_0]; exact hw) hl
      · refine lv_iconst (v := nI 0) hx hb d_M_remove_24 (by decide) ?_
        exact x_reti hQ hx hb hr hlk (by first | exact nar_bz | decide) hw (by omega) (by omega) d_M_remove_25 (by first | (rw [rmO_f (rvb_1 h5)]; exact ⟨bz_f (rvb_1 h5), rfl, hB⟩) | (rw [h9, ix_0, rmO_f (rvb_2 rfl)]; exact ⟨bz_f (rvb_2 rfl), rfl, hB⟩) | (rw [tx_n ht, rmO_f (rvb_3 h21)]; exact ⟨bz_f (rvb_3 h21), rfl, hB⟩))

theorem c_M_isFileN {l : Launch} {E : Ev} {σ : SS} {ad : Nat → Nat} (hI : rfI ad) (hB : rB σ) {sz : Nat} {v : Nat} (hv : v < 1300) : MCi l E y_M_isFile prog_10_method_33_code 2 (some .boolean) 0 0 0 0 [.ref (ad 0), .int (nI v)] (rfM E σ ad) sz (fun r M' => r = bz (flb σ v) ∧ M' = rfM E σ ad) := by
  have h := c_M_isFile (l := l) (E := E) (sz := sz) (v := v) hI hB (Or.inr hv)
  rw [fI_n (by omega)] at h
  exact h

set_option maxHeartbeats 4000000 in
set_option maxRecDepth 100000 in
theorem c_M_rep {l : Launch} {E : Ev} {σ : SS} {ad : Nat → Nat} (hI : rfI ad) (hB : rB σ) {sz : Nat} {x y : Int32} (hy : σ 1 0 ≤ 15) (hN : ∀ j, σ 0 j < 1300) : MCi l E y_M_representation prog_10_method_41_code 4 (some .int) 2 43 0 0 [.ref (ad 0), .int x, .int y] (rfM E σ ad) sz (fun r M' => r = aRep σ x y ∧ M' = rfM E σ ad) := by
  refine mc_of R_M rfl [some (.ref (ad 0)), some (.int x), some (.int y), none] (by decide) (Nat.le_of_ble_eq_true rfl) rfl ?_
  intro p e R s m ag below meth c ls Q A X hAe hQ hR hsz hw hl
  rw [← hAe] at hQ
  obtain ⟨⟨hx, hb, hml, hown, hts⟩, hE, hA, hr, hlk, hnm⟩ := X
  have hK := hE.1
  refine x_iload_n hx hb d_M_representation_0 hl rfl ?_
  refine lv_if_lt hx hb d_M_representation_1 rfl (fun h1 => ?_) (fun h1 => ?_)
  · refine lv_iconst (v := -1) hx hb d_M_representation_12 (by decide) ?_
    exact x_reti hQ hx hb hr hlk rfl hw (by omega) (by omega) d_M_representation_13 (⟨by unfold aRep; first | rw [if_pos (rv_2 h1)] | rw [if_pos (rv_3 h9)], rfl⟩)
  · refine x_iload_n hx hb d_M_representation_4 hl rfl ?_
    first | refine x_aload_n hx hb d_M_representation_5 hl rfl ?_ | refine x_aload_nQ hx hb d_M_representation_5 hl rfl ?_
    refine m_get hx hb hts hown hK hw ci_M (rf_at hI 0 (by decide) rfl) 1 (by decide) (wm3 73 rfl rfl) rfl d_M_representation_6 ?_
    have hs6 := hB 1 0 (by decide) (by decide)
    refine lv_icmp_le hx hb d_M_representation_9 rfl (fun h9 => ?_) (fun h9 => ?_)
    · obtain ⟨r, hr1, rfl, hr2⟩ := rv_1 hy h1 h9
      first | refine x_aload_n hx hb d_M_representation_14 hl rfl ?_ | refine x_aload_nQ hx hb d_M_representation_14 hl rfl ?_
      refine x_iload_n hx hb d_M_representation_15 hl rfl ?_
      refine x_iload_n hx hb d_M_representation_16 hl rfl ?_
      refine m_calli (k_V ⟨hx, hb, hml, hown, hts⟩ hE hA hw (c_M_at hI hB (by omega)) (ci_M).1 rfl (rf_at hI 0 (by decide) rfl) (wm3 164 rfl rfl) (wm3 166 rfl rfl) (wmp2 7 rfl) (wm1 9 rfl rfl) (wm3 167 rfl rfl) rfl rfl ar_M_at ⟨Nat.le_trans (Nat.le_of_ble_eq_true rfl) hR.1, Nat.le_trans (Nat.le_of_ble_eq_true rfl) hR.2.1⟩ rfl hl.1 rfl (Nat.le_of_ble_eq_true rfl) d_M_representation_17 ⟨Nat.le_trans (Nat.le_of_ble_eq_true rfl) hR.2.2.1, Nat.le_trans (Nat.le_of_ble_eq_true rfl) hR.2.2.2⟩) hw (mfr_in hw hA) (fun r17 M17 H locs hP17 hw => ?_)
      obtain ⟨⟨rfl, hb17⟩, hM17⟩ := hP17
      rw [hM17] at hw
      have hN2 := rat_N (k := r) (p := ix y) hN
      refine x_istore_n hx hb d_M_representation_20 hl (Nat.le_of_ble_eq_true rfl) (lh_k (i := 2) rfl (by first | exact lk_n | exact lk_i | exact lk_r | exact lk_q | exact lk_0)) (fun ls hl => ?_)
      first | refine x_aload_n hx hb d_M_representation_21 hl rfl ?_ | refine x_aload_nQ hx hb d_M_representation_21 hl rfl ?_
      refine x_iload_n hx hb d_M_representation_22 hl rfl ?_
      refine m_calli (k_V ⟨hx, hb, hml, hown, hts⟩ hE hA hw (c_M_isFileN hI hB hN2) (ci_M).1 rfl (rf_at hI 0 (by decide) rfl) (wm4 22 rfl rfl) (wm4 24 rfl rfl) (wmp3 3 rfl) (wm1 9 rfl rfl) (wm4 25 rfl rfl) rfl rfl ar_M_isFile ⟨Nat.le_trans (Nat.le_of_ble_eq_true rfl) hR.1, Nat.le_trans (Nat.le_of_ble_eq_true rfl) hR.2.1⟩ rfl hl.1 rfl (Nat.le_of_ble_eq_true rfl) d_M_representation_23 ⟨Nat.le_trans (Nat.le_of_ble_eq_true rfl) hR.2.2.1, Nat.le_trans (Nat.le_of_ble_eq_true rfl) hR.2.2.2⟩) hw (mfr_in hw hA) (fun r23 M23 H locs hP23 hw => ?_)
      obtain ⟨rfl, hM23⟩ := hP23
      rw [hM23] at hw
      refine x_if_eqB hx hb d_M_representation_26 rfl (fun h26 => ?_) (fun h26 => ?_)
      · refine lv_iconst (v := -1) hx hb d_M_representation_49 (by decide) ?_
        exact x_reti hQ hx hb hr hlk rfl hw (by omega) (by omega) d_M_representation_50 (⟨by unfold aRep; rw [hr2, if_neg (by omega)]; first | exact (if_pos ⟨h26, h35⟩).symm | exact (if_neg (fun z => absurd z.2 (show ¬ 0 < _ by omega))).symm | exact (if_neg (fun z => Bool.false_ne_true (h26.symm.trans z.1))).symm, rfl⟩)
      · first | refine x_aload_n hx hb d_M_representation_29 hl rfl ?_ | refine x_aload_nQ hx hb d_M_representation_29 hl rfl ?_
        refine m_get hx hb hts hown hK hw ci_M (rf_at hI 0 (by decide) rfl) 15 (by decide) (wm3 87 rfl rfl) rfl d_M_representation_30 ?_
        refine x_iload_n hx hb d_M_representation_33 hl rfl ?_
        refine rl_15 hx hb hK hI hB hw (by omega) d_M_representation_34 (fun hv34 => ?_)
        refine x_if_le hx hb d_M_representation_35 rfl (by omega) (fun h35 => ?_) (fun h35 => ?_)
        · refine lv_iconst (v := -1) hx hb d_M_representation_49 (by decide) ?_
          exact x_reti hQ hx hb hr hlk rfl hw (by omega) (by omega) d_M_representation_50 (⟨by unfold aRep; rw [hr2, if_neg (by omega)]; first | exact (if_pos ⟨h26, h35⟩).symm | exact (if_neg (fun z => absurd z.2 (show ¬ 0 < _ by omega))).symm | exact (if_neg (fun z => Bool.false_ne_true (h26.symm.trans z.1))).symm, rfl⟩)
        · first | refine x_aload_n hx hb d_M_representation_38 hl rfl ?_ | refine x_aload_nQ hx hb d_M_representation_38 hl rfl ?_
          refine m_get hx hb hts hown hK hw ci_M (rf_at hI 0 (by decide) rfl) 15 (by decide) (wm3 87 rfl rfl) rfl d_M_representation_39 ?_
          refine x_iload_n hx hb d_M_representation_42 hl rfl ?_
          refine rl_15 hx hb hK hI hB hw (by omega) d_M_representation_43 (fun hv43 => ?_)
          refine lv_iconst (v := nI 1) hx hb d_M_representation_44 (by decide) ?_
          refine x_isub hx hb d_M_representation_45 (by omega) ?_
          refine lv_goto hx hb d_M_representation_46 rfl ?_
          exact x_reti hQ hx hb hr hlk rfl hw (by omega) (by omega) d_M_representation_50 (⟨by unfold aRep; rw [hr2, if_neg (by omega)]; first | exact (if_pos ⟨h26, h35⟩).symm | exact (if_neg (fun z => absurd z.2 (show ¬ 0 < _ by omega))).symm | exact (if_neg (fun z => Bool.false_ne_true (h26.symm.trans z.1))).symm, rfl⟩)
    · refine lv_iconst (v := -1) hx hb d_M_representation_12 (by decide) ?_
      exact x_reti hQ hx hb hr hlk rfl hw (by omega) (by omega) d_M_representation_13 (⟨by unfold aRep; first | rw [if_pos (rv_2 h1)] | rw [if_pos (rv_3 h9)], rfl⟩)

set_option maxHeartbeats 4000000 in
set_option maxRecDepth 100000 in
theorem c_M_write {l : Launch} {E : Ev} {σ : SS} {ad : Nat → Nat} (hI : rfI ad) (hB : rB σ) {sz : Nat} {x y z : Int32} {D : Nat} (hD : D < 2 ^ 64) (hN : ∀ j, σ 0 j < 1300) (hk : wrb σ (tx x) (ix y) (zn z) = true → tok (pd (ix y)) σ (tx x) (ix y) ∧ rat (tch (pd (ix y)) σ (tx x) (ix y)) (16 + tx x) (ix y) < 1300) : MCi l E y_M_write prog_10_method_20_code 7 (some .boolean) 3 69 0 0 [.ref (ad 0), .int x, .int y, .long (lN D), .int z] (rfM E σ ad) sz (fun r M' => r = bz (wrb σ (tx x) (ix y) (zn z)) ∧ M' = rfM E (wrO σ (tx x) (ix y) D (zn z)) ad ∧ rB (wrO σ (tx x) (ix y) D (zn z))) := by
  refine mc_of R_M rfl [some (.ref (ad 0)), some (.int x), some (.int y), some (.long (lN D)), none, some (.int z), none] (by decide) (Nat.le_of_ble_eq_true rfl) rfl ?_
  intro p e R s m ag below meth c ls Q A X hAe hQ hR hsz hw hl
  rw [← hAe] at hQ
  obtain ⟨⟨hx, hb, hml, hown, hts⟩, hE, hA, hr, hlk, hnm⟩ := X
  have hK := hE.1
  first | refine x_aload_n hx hb d_M_write_0 hl rfl ?_ | refine x_aload_nQ hx hb d_M_write_0 hl rfl ?_
  refine x_iload_n hx hb d_M_write_1 hl rfl ?_
  refine m_calli (k_V ⟨hx, hb, hml, hown, hts⟩ hE hA hw (c_M_isOpen hI hB) (ci_M).1 rfl (rf_at hI 0 (by decide) rfl) (wm3 157 rfl rfl) (wm3 159 rfl rfl) (wmp2 6 rfl) (wm1 9 rfl rfl) (wm3 160 rfl rfl) rfl rfl ar_M_isOpen ⟨Nat.le_trans (Nat.le_of_ble_eq_true rfl) hR.1, Nat.le_trans (Nat.le_of_ble_eq_true rfl) hR.2.1⟩ rfl hl.1 rfl (Nat.le_of_ble_eq_true rfl) d_M_write_2 ⟨Nat.le_trans (Nat.le_of_ble_eq_true rfl) hR.2.2.1, Nat.le_trans (Nat.le_of_ble_eq_true rfl) hR.2.2.2⟩) hw (mfr_in hw hA) (fun r2 M2 H locs hP2 hw => ?_)
  obtain ⟨rfl, hM2⟩ := hP2
  rw [hM2] at hw
  refine x_if_eqB hx hb d_M_write_5 rfl (fun h5 => ?_) (fun h5 => ?_)
  · refine lv_iconst (v := nI 0) hx hb d_M_write_50 (by decide) ?_
    exact x_reti hQ hx hb hr hlk (by first | exact nar_bz | decide) hw (by omega) (by omega) d_M_write_51 (by first | (rw [wrO_f (wrb_1 h5)]; exact ⟨bz_f (wrb_1 h5), rfl, hB⟩) | (rw [zn_lt h10, wrO_f (wrb_2 rfl)]; exact ⟨bz_f (wrb_2 rfl), rfl, hB⟩) | (rw [zn_gt h17, wrO_f (wrb_2 rfl)]; exact ⟨bz_f (wrb_2 rfl), rfl, hB⟩) | (rw [tx_n ht, wrO_f (wrb_3 h29)]; exact ⟨bz_f (wrb_3 h29), rfl, hB⟩) | (rw [tx_n ht, ix_n hq, wrO_f (wrb_4 h47)]; exact ⟨bz_f (wrb_4 h47), rfl, hB⟩))
  · obtain ⟨t, ht, rfl, ho⟩ := opb_of h5
    refine x_iload hx hb d_M_write_8 hl rfl ?_
    refine lv_if_lt hx hb d_M_write_10 rfl (fun h10 => ?_) (fun h10 => ?_)
    · refine lv_iconst (v := nI 0) hx hb d_M_write_50 (by decide) ?_
      exact x_reti hQ hx hb hr hlk (by first | exact nar_bz | decide) hw (by omega) (by omega) d_M_write_51 (by first | (rw [wrO_f (wrb_1 h5)]; exact ⟨bz_f (wrb_1 h5), rfl, hB⟩) | (rw [zn_lt h10, wrO_f (wrb_2 rfl)]; exact ⟨bz_f (wrb_2 rfl), rfl, hB⟩) | (rw [zn_gt h17, wrO_f (wrb_2 rfl)]; exact ⟨bz_f (wrb_2 rfl), rfl, hB⟩) | (rw [tx_n ht, wrO_f (wrb_3 h29)]; exact ⟨bz_f (wrb_3 h29), rfl, hB⟩) | (rw [tx_n ht, ix_n hq, wrO_f (wrb_4 h47)]; exact ⟨bz_f (wrb_4 h47), rfl, hB⟩))
    · refine x_iload hx hb d_M_write_13 hl rfl ?_
      refine lv_bipush (v := nI 12) hx hb d_M_write_15 (by decide) ?_
      refine lv_icmp_gt hx hb d_M_write_17 rfl (fun h17 => ?_) (fun h17 => ?_)
      · refine lv_iconst (v := nI 0) hx hb d_M_write_50 (by decide) ?_
        exact x_reti hQ hx hb hr hlk (by first | exact nar_bz | decide) hw (by omega) (by omega) d_M_write_51 (by first | (rw [wrO_f (wrb_1 h5)]; exact ⟨bz_f (wrb_1 h5), rfl, hB⟩) | (rw [zn_lt h10, wrO_f (wrb_2 rfl)]; exact ⟨bz_f (wrb_2 rfl), rfl, hB⟩) | (rw [zn_gt h17, wrO_f (wrb_2 rfl)]; exact ⟨bz_f (wrb_2 rfl), rfl, hB⟩) | (rw [tx_n ht, wrO_f (wrb_3 h29)]; exact ⟨bz_f (wrb_3 h29), rfl, hB⟩) | (rw [tx_n ht, ix_n hq, wrO_f (wrb_4 h47)]; exact ⟨bz_f (wrb_4 h47), rfl, hB⟩))
      · obtain ⟨k, hk9, rfl⟩ := nI_of2b (M := nI 12) (n := 12) (by decide) h10 h17
        first | refine x_aload_n hx hb d_M_write_20 hl rfl ?_ | refine x_aload_nQ hx hb d_M_write_20 hl rfl ?_
        refine lv_bipush (v := nI 16) hx hb d_M_write_21 (by decide) ?_
        refine x_iload_n hx hb d_M_write_23 hl rfl ?_
        first | refine x_iadd hx hb d_M_write_24 ?_ | refine lv_iadd hx hb d_M_write_24 ?_
        refine x_iload_n hx hb d_M_write_25 hl rfl ?_
        refine m_calli (k_V ⟨hx, hb, hml, hown, hts⟩ hE hA hw (c_M_at hI hB (by omega)) (ci_M).1 rfl (rf_at hI 0 (by decide) rfl) (wm3 164 rfl rfl) (wm3 166 rfl rfl) (wmp2 7 rfl) (wm1 9 rfl rfl) (wm3 167 rfl rfl) rfl rfl ar_M_at ⟨Nat.le_trans (Nat.le_of_ble_eq_true rfl) hR.1, Nat.le_trans (Nat.le_of_ble_eq_true rfl) hR.2.1⟩ rfl hl.1 rfl (Nat.le_of_ble_eq_true rfl) d_M_write_26 ⟨Nat.le_trans (Nat.le_of_ble_eq_true rfl) hR.2.2.1, Nat.le_trans (Nat.le_of_ble_eq_true rfl) hR.2.2.2⟩) hw (mfr_in hw hA) (fun r26 M26 H locs hP26 hw => ?_)
        obtain ⟨⟨rfl, hb26⟩, hM26⟩ := hP26
        rw [hM26] at hw
        refine x_if_eq hx hb d_M_write_29 rfl (by omega) (fun h29 => ?_) (fun h29 => ?_)
        · refine lv_iconst (v := nI 0) hx hb d_M_write_50 (by decide) ?_
          exact x_reti hQ hx hb hr hlk (by first | exact nar_bz | decide) hw (by omega) (by omega) d_M_write_51 (by first | (rw [wrO_f (wrb_1 h5)]; exact ⟨bz_f (wrb_1 h5), rfl, hB⟩) | (rw [zn_lt h10, wrO_f (wrb_2 rfl)]; exact ⟨bz_f (wrb_2 rfl), rfl, hB⟩) | (rw [zn_gt h17, wrO_f (wrb_2 rfl)]; exact ⟨bz_f (wrb_2 rfl), rfl, hB⟩) | (rw [tx_n ht, wrO_f (wrb_3 h29)]; exact ⟨bz_f (wrb_3 h29), rfl, hB⟩) | (rw [tx_n ht, ix_n hq, wrO_f (wrb_4 h47)]; exact ⟨bz_f (wrb_4 h47), rfl, hB⟩))
        · obtain ⟨q, hq, rfl⟩ := ix_good (rat_good h29)
          rw [ix_n hq] at h29
          have hN2 := rat_N (k := 16 + t) (p := q) hN
          first | refine x_aload_n hx hb d_M_write_32 hl rfl ?_ | refine x_aload_nQ hx hb d_M_write_32 hl rfl ?_
          refine m_get hx hb hts hown hK hw ci_M (rf_at hI 0 (by decide) rfl) 6 (by decide) (wm3 78 rfl rfl) rfl d_M_write_33 ?_
          first | refine x_aload_n hx hb d_M_write_36 hl rfl ?_ | refine x_aload_nQ hx hb d_M_write_36 hl rfl ?_
          refine lv_bipush (v := nI 16) hx hb d_M_write_37 (by decide) ?_
          refine x_iload_n hx hb d_M_write_39 hl rfl ?_
          first | refine x_iadd hx hb d_M_write_40 ?_ | refine lv_iadd hx hb d_M_write_40 ?_
          refine x_iload_n hx hb d_M_write_41 hl rfl ?_
          refine m_calli (k_V ⟨hx, hb, hml, hown, hts⟩ hE hA hw (c_M_atN hI hB (by omega) (by omega)) (ci_M).1 rfl (rf_at hI 0 (by decide) rfl) (wm3 164 rfl rfl) (wm3 166 rfl rfl) (wmp2 7 rfl) (wm1 9 rfl rfl) (wm3 167 rfl rfl) rfl rfl ar_M_at ⟨Nat.le_trans (Nat.le_of_ble_eq_true rfl) hR.1, Nat.le_trans (Nat.le_of_ble_eq_true rfl) hR.2.1⟩ rfl hl.1 rfl (Nat.le_of_ble_eq_true rfl) d_M_write_42 ⟨Nat.le_trans (Nat.le_of_ble_eq_true rfl) hR.2.2.1, Nat.le_trans (Nat.le_of_ble_eq_true rfl) hR.2.2.2⟩) hw (mfr_in hw hA) (fun r42 M42 H locs hP42 hw => ?_)
          obtain ⟨⟨rfl, hb42⟩, hM42⟩ := hP42
          rw [hM42] at hw
          refine rl_6 hx hb hK hI hB hw (by omega) d_M_write_45 (fun hv45 => ?_)
          refine lv_iconst (v := nI 2) hx hb d_M_write_46 (by decide) ?_
          refine x_icmp_eq hx hb d_M_write_47 rfl (by omega) (by omega) (fun h47 => ?_) (fun h47 => ?_)
          · have hwr := wrb_t (z := k) (opb_t ht ho) (by omega) h29 h47
            obtain ⟨k3, k4⟩ := hk (by rw [tx_n ht, ix_n hq, zn_n (by omega)]; exact hwr)
            rw [tx_n ht, ix_n hq] at k3
            rw [tx_n ht, ix_n hq] at k4
            first | refine x_aload_n hx hb d_M_write_52 hl rfl ?_ | refine x_aload_nQ hx hb d_M_write_52 hl rfl ?_
            refine x_iload_n hx hb d_M_write_53 hl rfl ?_
            refine x_iload_n hx hb d_M_write_54 hl rfl ?_
            refine m_callv (k_V ⟨hx, hb, hml, hown, hts⟩ hE hA hw (c_M_touch hI hB (by omega) (by omega) k3) (ci_M).1 rfl (rf_at hI 0 (by decide) rfl) (wm3 185 rfl rfl) (wm3 187 rfl rfl) (wmp2 10 rfl) (wm1 9 rfl rfl) (wm3 188 rfl rfl) rfl rfl ar_M_touch ⟨Nat.le_trans (Nat.le_of_ble_eq_true rfl) hR.1, Nat.le_trans (Nat.le_of_ble_eq_true rfl) hR.2.1⟩ rfl hl.1 rfl (Nat.le_of_ble_eq_true rfl) d_M_write_55 ⟨Nat.le_trans (Nat.le_of_ble_eq_true rfl) hR.2.2.1, Nat.le_trans (Nat.le_of_ble_eq_true rfl) hR.2.2.2⟩) hw (mfr_in hw hA) (fun M55 H locs hP55 hw => ?_)
            obtain ⟨hM55, hB⟩ := hP55
            rw [hM55] at hw
            first | refine x_aload_n hx hb d_M_write_58 hl rfl ?_ | refine x_aload_nQ hx hb d_M_write_58 hl rfl ?_
            refine lv_bipush (v := nI 16) hx hb d_M_write_59 (by decide) ?_
            refine x_iload_n hx hb d_M_write_61 hl rfl ?_
            first | refine x_iadd hx hb d_M_write_62 ?_ | refine lv_iadd hx hb d_M_write_62 ?_
            refine x_iload_n hx hb d_M_write_63 hl rfl ?_
            refine m_calli (k_V ⟨hx, hb, hml, hown, hts⟩ hE hA hw (c_M_atN hI hB (by omega) (by omega)) (ci_M).1 rfl (rf_at hI 0 (by decide) rfl) (wm3 164 rfl rfl) (wm3 166 rfl rfl) (wmp2 7 rfl) (wm1 9 rfl rfl) (wm3 167 rfl rfl) rfl rfl ar_M_at ⟨Nat.le_trans (Nat.le_of_ble_eq_true rfl) hR.1, Nat.le_trans (Nat.le_of_ble_eq_true rfl) hR.2.1⟩ rfl hl.1 rfl (Nat.le_of_ble_eq_true rfl) d_M_write_64 ⟨Nat.le_trans (Nat.le_of_ble_eq_true rfl) hR.2.2.1, Nat.le_trans (Nat.le_of_ble_eq_true rfl) hR.2.2.2⟩) hw (mfr_in hw hA) (fun r64 M64 H locs hP64 hw => ?_)
            obtain ⟨⟨rfl, hb64⟩, hM64⟩ := hP64
            rw [hM64] at hw
            refine x_istore hx hb d_M_write_67 hl (Nat.le_of_ble_eq_true rfl) (lh_k (i := 5) rfl (by first | exact lk_n | exact lk_i | exact lk_r | exact lk_q | exact lk_0)) (fun ls hl => ?_)
            first | refine x_aload_n hx hb d_M_write_69 hl rfl ?_ | refine x_aload_nQ hx hb d_M_write_69 hl rfl ?_
            refine m_get hx hb hts hown hK hw ci_M (rf_at hI 0 (by decide) rfl) 8 (by decide) (wm3 80 rfl rfl) rfl d_M_write_70 ?_
            refine x_iload hx hb d_M_write_73 hl rfl ?_
            refine lv_iconst (v := nI 1) hx hb d_M_write_75 (by decide) ?_
            refine rs_8 hx hb hK hI hB hw (by omega) (by omega) d_M_write_76 (fun H locs hw hB => ?_)
            first | refine x_aload_n hx hb d_M_write_77 hl rfl ?_ | refine x_aload_nQ hx hb d_M_write_77 hl rfl ?_
            refine m_get hx hb hts hown hK hw ci_M (rf_at hI 0 (by decide) rfl) 7 (by decide) (wm3 79 rfl rfl) rfl d_M_write_78 ?_
            refine x_iload hx hb d_M_write_81 hl rfl ?_
            refine x_iload hx hb d_M_write_83 hl rfl ?_
            first | refine x_i2b hx hb d_M_write_85 (by omega) ?_ | refine lv_i2b hx hb d_M_write_85 rfl ?_
            refine rs_7 hx hb hK hI hB hw (by omega) (by omega) d_M_write_86 (fun H locs hw hB => ?_)
            first | refine x_aload_n hx hb d_M_write_87 hl rfl ?_ | refine x_aload_nQ hx hb d_M_write_87 hl rfl ?_
            refine m_get hx hb hts hown hK hw ci_M (rf_at hI 0 (by decide) rfl) 9 (by decide) (wm3 81 rfl rfl) rfl d_M_write_88 ?_
            refine x_iload hx hb d_M_write_91 hl rfl ?_
            refine x_lload_n hx hb d_M_write_93 hl rfl ?_
            refine lv_lconst (v := 1) hx hb d_M_write_94 (by decide) ?_
            refine lv_iconst (v := nI 4) hx hb d_M_write_95 (by decide) ?_
            refine x_iload hx hb d_M_write_96 hl rfl ?_
            first | refine x_imul hx hb d_M_write_98 ?_ | refine lv_imul hx hb d_M_write_98 ?_
            refine lv_lshl hx hb d_M_write_99 rfl ?_
            refine lv_lconst (v := 1) hx hb d_M_write_100 (by decide) ?_
            refine lv_lsub hx hb d_M_write_101 ?_
            refine lv_land hx hb d_M_write_102 ?_
            rw [msk hD (by omega)]
            refine rs_9 hx hb hK hI hB hw (by omega) d_M_write_103 (fun H locs hw hB => ?_)
            refine lv_iconst (v := nI 1) hx hb d_M_write_104 (by decide) ?_
            exact x_reti hQ hx hb hr hlk (by first | exact nar_bz | decide) hw (by omega) (by omega) d_M_write_105 (by rw [tx_n ht, ix_n hq, zn_n (by omega), wrO_t hwr]; exact ⟨bz_t hwr, rfl, hB⟩)
          · refine lv_iconst (v := nI 0) hx hb d_M_write_50 (by decide) ?_
            exact x_reti hQ hx hb hr hlk (by first | exact nar_bz | decide) hw (by omega) (by omega) d_M_write_51 (by first | (rw [wrO_f (wrb_1 h5)]; exact ⟨bz_f (wrb_1 h5), rfl, hB⟩) | (rw [zn_lt h10, wrO_f (wrb_2 rfl)]; exact ⟨bz_f (wrb_2 rfl), rfl, hB⟩) | (rw [zn_gt h17, wrO_f (wrb_2 rfl)]; exact ⟨bz_f (wrb_2 rfl), rfl, hB⟩) | (rw [tx_n ht, wrO_f (wrb_3 h29)]; exact ⟨bz_f (wrb_3 h29), rfl, hB⟩) | (rw [tx_n ht, ix_n hq, wrO_f (wrb_4 h47)]; exact ⟨bz_f (wrb_4 h47), rfl, hB⟩))
end
section
/-! merging, as functions of the state -/
section OP3
/-- of the first i places of transaction t those of g have the values v -/
def rng (σ : SS) (t i : Nat) (g : Nat → Bool) (v : Nat → Nat) : SS := upf σ 0 (fun j => if 2000 + 125 * t ≤ j ∧ j < 2000 + 125 * t + i ∧ g (j - (2000 + 125 * t)) = true then v (j - (2000 + 125 * t)) else σ 0 j)
theorem rng_0 {σ : SS} {t : Nat} {g : Nat → Bool} {v : Nat → Nat} : rng σ t 0 g v = σ := by
  funext f j
  unfold rng upf
  by_cases h : f = 0
  · subst h
    rw [if_pos rfl, if_neg (by omega)]
  · rw [if_neg h]
theorem rng_t {σ : SS} {t i : Nat} {g : Nat → Bool} {v : Nat → Nat} (h : g i = true) : sp (rng σ t i g v) 0 (2000 + 125 * t + i) (v i) = rng σ t (i + 1) g v := by
  funext f j
  rw [sp_at]
  by_cases hf : f = 0
  · subst hf
    simp only [rng, upf, if_true, true_and]
    by_cases hj : j = 2000 + 125 * t + i
    · subst hj
      have e : 2000 + 125 * t + i - (2000 + 125 * t) = i := by omega
      rw [if_pos rfl, if_pos ⟨by omega, by omega, by rw [e]; exact h⟩, e]
    · rw [if_neg hj]
      by_cases h2 : 2000 + 125 * t ≤ j ∧ j < 2000 + 125 * t + i ∧ g (j - (2000 + 125 * t)) = true
      · rw [if_pos h2, if_pos ⟨h2.1, by omega, h2.2.2⟩]
      · rw [if_neg h2, if_neg (fun z => h2 ⟨z.1, by omega, z.2.2⟩)]
  · rw [if_neg (by omega)]
    simp only [rng, upf, if_neg hf]
theorem rng_f {σ : SS} {t i : Nat} {g : Nat → Bool} {v : Nat → Nat} (h : g i = false) : rng σ t i g v = rng σ t (i + 1) g v := by
  funext f j
  by_cases hf : f = 0
  · subst hf
    simp only [rng, upf, if_true]
    by_cases h2 : 2000 + 125 * t ≤ j ∧ j < 2000 + 125 * t + i ∧ g (j - (2000 + 125 * t)) = true
    · rw [if_pos h2, if_pos ⟨h2.1, by omega, h2.2.2⟩]
    · rw [if_neg h2, if_neg]
      rintro ⟨z1, z2, z3⟩
      by_cases hj : j = 2000 + 125 * t + i
      · subst hj
        rw [show 2000 + 125 * t + i - (2000 + 125 * t) = i by omega, h] at z3
        cases z3
      · exact h2 ⟨z1, by omega, z3⟩
  · simp only [rng, upf, if_neg hf]
theorem rng_lo {σ : SS} {t i j : Nat} {g : Nat → Bool} {v : Nat → Nat} (h : j < 2000) : rng σ t i g v 0 j = σ 0 j := by
  show (if 2000 + 125 * t ≤ j ∧ j < 2000 + 125 * t + i ∧ g (j - (2000 + 125 * t)) = true then v (j - (2000 + 125 * t)) else σ 0 j) = σ 0 j
  rw [if_neg (by omega)]
theorem rB_rng {σ : SS} {t i : Nat} {g : Nat → Bool} {v : Nat → Nat} (hv : ∀ k, v k < 32768) (h : rB σ) : rB (rng σ t i g v) := by
  intro f j h1 h2
  unfold rng upf
  split
  · show (if _ then v (j - (2000 + 125 * t)) else σ 0 j) < 32768
    split
    · exact hv _
    · exact h _ _ (by decide) (by decide)
  · exact h f j h1 h2
def wyf (σ : SS) (b y o : Nat) : Nat := if y = b then 0 else if o = b then 1 else if (0 < b ∧ 0 < y ∧ 0 < o ∧ σ 6 b = 1 ∧ σ 6 y = 1 ∧ σ 6 o = 1) ∧ σ 10 b = σ 10 y ∧ σ 10 b = σ 10 o then 2 else 3
/-- how path q of transaction t is merged: 0 stays, 1 taken, 2 joined, 3 a conflict -/
def wy (σ : SS) (t q : Nat) : Nat := wyf σ (σ 0 (125 * σ 3 t + q)) (σ 0 (125 * σ 1 0 + q)) (σ 0 (2000 + 125 * t + q))
theorem wy_le (σ : SS) (t q : Nat) : wy σ t q ≤ 3 := by
  unfold wy wyf
  split
  · omega
  · split
    · omega
    · split <;> omega
/-- what is at and below q comes from the youngest revision -/
def tkn (σ : SS) (t q i : Nat) : SS := rng σ t i (fun w => pgb w && pun w q) (fun w => σ 0 (125 * σ 1 0 + w))
def jn (σ : SS) (t q : Nat) : SS := sp (sp σ 13 (σ 0 (2000 + 125 * t + q)) (σ 0 (125 * σ 1 0 + q))) 11 (σ 0 (2000 + 125 * t + q)) (σ 11 (σ 0 (125 * σ 1 0 + q)) + 1)
def stl (σ : SS) (t q w : Nat) (d : Bool) : SS := if d = true then (if w = 1 then tkn σ t q 125 else if w = 2 then jn σ t q else σ) else σ
theorem stl_f {σ : SS} {t q w : Nat} : stl σ t q w false = σ := if_neg (by decide)
theorem stl_1 {σ : SS} {t q w : Nat} (h : w = 1) : stl σ t q w true = tkn σ t q 125 := by unfold stl; rw [if_pos rfl, if_pos h]
theorem stl_2 {σ : SS} {t q w : Nat} (h : w = 2) : stl σ t q w true = jn σ t q := by unfold stl; rw [if_pos rfl, if_neg (by omega), if_pos h]
theorem stl_0 {σ : SS} {t q w : Nat} (h1 : w ≠ 1) (h : w ≠ 2) : stl σ t q w true = σ := by unfold stl; rw [if_pos rfl, if_neg h1, if_neg h]
/-- the greatest chain at count c -/
def alw : Nat → Nat → Nat → Nat
  | 0, _, k => k
  | n + 1, c, k => if 2 ^ (k + 1) ≤ 1 + c then alw n c (k + 1) else k
def dgt (x k : Nat) : Nat := x / 2 ^ (4 * k) % 16
end OP3
end
section
theorem d_M_way_0 : decode prog_10_method_21_code 0 = .ok (.aload_n 0, 1) := by decide +kernel
theorem d_M_way_1 : decode prog_10_method_21_code 1 = .ok (.getfield 7, 3) := by decide +kernel
theorem d_M_way_4 : decode prog_10_method_21_code 4 = .ok (.bipush 125, 2) := by decide +kernel
theorem d_M_way_6 : decode prog_10_method_21_code 6 = .ok (.aload_n 0, 1) := by decide +kernel
theorem d_M_way_7 : decode prog_10_method_21_code 7 = .ok (.getfield 17, 3) := by decide +kernel
theorem d_M_way_10 : decode prog_10_method_21_code 10 = .ok (.iload_n 1, 1) := by decide +kernel
theorem d_M_way_11 : decode prog_10_method_21_code 11 = .ok (.iaload, 1) := by decide +kernel
theorem d_M_way_12 : decode prog_10_method_21_code 12 = .ok (.imul, 1) := by decide +kernel
theorem d_M_way_13 : decode prog_10_method_21_code 13 = .ok (.iload_n 2, 1) := by decide +kernel
theorem d_M_way_14 : decode prog_10_method_21_code 14 = .ok (.iadd, 1) := by decide +kernel
theorem d_M_way_15 : decode prog_10_method_21_code 15 = .ok (.saload, 1) := by decide +kernel
theorem d_M_way_16 : decode prog_10_method_21_code 16 = .ok (.istore_n 3, 1) := by decide +kernel
theorem d_M_way_17 : decode prog_10_method_21_code 17 = .ok (.aload_n 0, 1) := by decide +kernel
theorem d_M_way_18 : decode prog_10_method_21_code 18 = .ok (.getfield 7, 3) := by decide +kernel
theorem d_M_way_21 : decode prog_10_method_21_code 21 = .ok (.bipush 125, 2) := by decide +kernel
theorem d_M_way_23 : decode prog_10_method_21_code 23 = .ok (.aload_n 0, 1) := by decide +kernel
theorem d_M_way_24 : decode prog_10_method_21_code 24 = .ok (.getfield 76, 3) := by decide +kernel
theorem d_M_way_27 : decode prog_10_method_21_code 27 = .ok (.imul, 1) := by decide +kernel
theorem d_M_way_28 : decode prog_10_method_21_code 28 = .ok (.iload_n 2, 1) := by decide +kernel
theorem d_M_way_29 : decode prog_10_method_21_code 29 = .ok (.iadd, 1) := by decide +kernel
theorem d_M_way_30 : decode prog_10_method_21_code 30 = .ok (.saload, 1) := by decide +kernel
theorem d_M_way_31 : decode prog_10_method_21_code 31 = .ok (.istore 4, 2) := by decide +kernel
theorem d_M_way_33 : decode prog_10_method_21_code 33 = .ok (.aload_n 0, 1) := by decide +kernel
theorem d_M_way_34 : decode prog_10_method_21_code 34 = .ok (.getfield 7, 3) := by decide +kernel
theorem d_M_way_37 : decode prog_10_method_21_code 37 = .ok (.sipush 2000, 3) := by decide +kernel
theorem d_M_way_40 : decode prog_10_method_21_code 40 = .ok (.bipush 125, 2) := by decide +kernel
theorem d_M_way_42 : decode prog_10_method_21_code 42 = .ok (.iload_n 1, 1) := by decide +kernel
theorem d_M_way_43 : decode prog_10_method_21_code 43 = .ok (.imul, 1) := by decide +kernel
theorem d_M_way_44 : decode prog_10_method_21_code 44 = .ok (.iadd, 1) := by decide +kernel
theorem d_M_way_45 : decode prog_10_method_21_code 45 = .ok (.iload_n 2, 1) := by decide +kernel
theorem d_M_way_46 : decode prog_10_method_21_code 46 = .ok (.iadd, 1) := by decide +kernel
theorem d_M_way_47 : decode prog_10_method_21_code 47 = .ok (.saload, 1) := by decide +kernel
theorem d_M_way_48 : decode prog_10_method_21_code 48 = .ok (.istore 5, 2) := by decide +kernel
theorem d_M_way_50 : decode prog_10_method_21_code 50 = .ok (.iload 4, 2) := by decide +kernel
theorem d_M_way_52 : decode prog_10_method_21_code 52 = .ok (.iload_n 3, 1) := by decide +kernel
theorem d_M_way_53 : decode prog_10_method_21_code 53 = .ok (.if_icmp .ne 5, 3) := by decide +kernel
theorem d_M_way_56 : decode prog_10_method_21_code 56 = .ok (.iconst 0, 1) := by decide +kernel
theorem d_M_way_57 : decode prog_10_method_21_code 57 = .ok (.ireturn, 1) := by decide +kernel
theorem d_M_way_58 : decode prog_10_method_21_code 58 = .ok (.iload 5, 2) := by decide +kernel
theorem d_M_way_60 : decode prog_10_method_21_code 60 = .ok (.iload_n 3, 1) := by decide +kernel
theorem d_M_way_61 : decode prog_10_method_21_code 61 = .ok (.if_icmp .ne 5, 3) := by decide +kernel
theorem d_M_way_64 : decode prog_10_method_21_code 64 = .ok (.iconst 1, 1) := by decide +kernel
theorem d_M_way_65 : decode prog_10_method_21_code 65 = .ok (.ireturn, 1) := by decide +kernel
theorem d_M_way_66 : decode prog_10_method_21_code 66 = .ok (.iload_n 3, 1) := by decide +kernel
theorem d_M_way_67 : decode prog_10_method_21_code 67 = .ok (.ifCond .le 49, 3) := by decide +kernel
theorem d_M_way_70 : decode prog_10_method_21_code 70 = .ok (.iload 4, 2) := by decide +kernel
theorem d_M_way_72 : decode prog_10_method_21_code 72 = .ok (.ifCond .le 44, 3) := by decide +kernel
theorem d_M_way_75 : decode prog_10_method_21_code 75 = .ok (.iload 5, 2) := by decide +kernel
theorem d_M_way_77 : decode prog_10_method_21_code 77 = .ok (.ifCond .le 39, 3) := by decide +kernel
theorem d_M_way_80 : decode prog_10_method_21_code 80 = .ok (.aload_n 0, 1) := by decide +kernel
theorem d_M_way_81 : decode prog_10_method_21_code 81 = .ok (.getfield 21, 3) := by decide +kernel
theorem d_M_way_84 : decode prog_10_method_21_code 84 = .ok (.iload_n 3, 1) := by decide +kernel
theorem d_M_way_85 : decode prog_10_method_21_code 85 = .ok (.baload, 1) := by decide +kernel
theorem d_M_way_86 : decode prog_10_method_21_code 86 = .ok (.iconst 1, 1) := by decide +kernel
theorem d_M_way_87 : decode prog_10_method_21_code 87 = .ok (.if_icmp .ne 29, 3) := by decide +kernel
theorem d_M_way_90 : decode prog_10_method_21_code 90 = .ok (.aload_n 0, 1) := by decide +kernel
theorem d_M_way_91 : decode prog_10_method_21_code 91 = .ok (.getfield 21, 3) := by decide +kernel
theorem d_M_way_94 : decode prog_10_method_21_code 94 = .ok (.iload 4, 2) := by decide +kernel
theorem d_M_way_96 : decode prog_10_method_21_code 96 = .ok (.baload, 1) := by decide +kernel
theorem d_M_way_97 : decode prog_10_method_21_code 97 = .ok (.iconst 1, 1) := by decide +kernel
theorem d_M_way_98 : decode prog_10_method_21_code 98 = .ok (.if_icmp .ne 18, 3) := by decide +kernel
theorem d_M_way_101 : decode prog_10_method_21_code 101 = .ok (.aload_n 0, 1) := by decide +kernel
theorem d_M_way_102 : decode prog_10_method_21_code 102 = .ok (.getfield 21, 3) := by decide +kernel
theorem d_M_way_105 : decode prog_10_method_21_code 105 = .ok (.iload 5, 2) := by decide +kernel
theorem d_M_way_107 : decode prog_10_method_21_code 107 = .ok (.baload, 1) := by decide +kernel
theorem d_M_way_108 : decode prog_10_method_21_code 108 = .ok (.iconst 1, 1) := by decide +kernel
theorem d_M_way_109 : decode prog_10_method_21_code 109 = .ok (.if_icmp .ne 7, 3) := by decide +kernel
theorem d_M_way_112 : decode prog_10_method_21_code 112 = .ok (.iconst 1, 1) := by decide +kernel
theorem d_M_way_113 : decode prog_10_method_21_code 113 = .ok (.goto 4, 3) := by decide +kernel
theorem d_M_way_116 : decode prog_10_method_21_code 116 = .ok (.iconst 0, 1) := by decide +kernel
theorem d_M_way_117 : decode prog_10_method_21_code 117 = .ok (.istore 6, 2) := by decide +kernel
theorem d_M_way_119 : decode prog_10_method_21_code 119 = .ok (.iload 6, 2) := by decide +kernel
theorem d_M_way_121 : decode prog_10_method_21_code 121 = .ok (.ifCond .eq 39, 3) := by decide +kernel
theorem d_M_way_124 : decode prog_10_method_21_code 124 = .ok (.aload_n 0, 1) := by decide +kernel
theorem d_M_way_125 : decode prog_10_method_21_code 125 = .ok (.getfield 35, 3) := by decide +kernel
theorem d_M_way_128 : decode prog_10_method_21_code 128 = .ok (.iload_n 3, 1) := by decide +kernel
theorem d_M_way_129 : decode prog_10_method_21_code 129 = .ok (.saload, 1) := by decide +kernel
theorem d_M_way_130 : decode prog_10_method_21_code 130 = .ok (.aload_n 0, 1) := by decide +kernel
theorem d_M_way_131 : decode prog_10_method_21_code 131 = .ok (.getfield 35, 3) := by decide +kernel
theorem d_M_way_134 : decode prog_10_method_21_code 134 = .ok (.iload 4, 2) := by decide +kernel
theorem d_M_way_136 : decode prog_10_method_21_code 136 = .ok (.saload, 1) := by decide +kernel
theorem d_M_way_137 : decode prog_10_method_21_code 137 = .ok (.if_icmp .ne 23, 3) := by decide +kernel
theorem d_M_way_140 : decode prog_10_method_21_code 140 = .ok (.aload_n 0, 1) := by decide +kernel
theorem d_M_way_141 : decode prog_10_method_21_code 141 = .ok (.getfield 35, 3) := by decide +kernel
theorem d_M_way_144 : decode prog_10_method_21_code 144 = .ok (.iload_n 3, 1) := by decide +kernel
theorem d_M_way_145 : decode prog_10_method_21_code 145 = .ok (.saload, 1) := by decide +kernel
theorem d_M_way_146 : decode prog_10_method_21_code 146 = .ok (.aload_n 0, 1) := by decide +kernel
theorem d_M_way_147 : decode prog_10_method_21_code 147 = .ok (.getfield 35, 3) := by decide +kernel
theorem d_M_way_150 : decode prog_10_method_21_code 150 = .ok (.iload 5, 2) := by decide +kernel
theorem d_M_way_152 : decode prog_10_method_21_code 152 = .ok (.saload, 1) := by decide +kernel
theorem d_M_way_153 : decode prog_10_method_21_code 153 = .ok (.if_icmp .ne 7, 3) := by decide +kernel
theorem d_M_way_156 : decode prog_10_method_21_code 156 = .ok (.iconst 2, 1) := by decide +kernel
theorem d_M_way_157 : decode prog_10_method_21_code 157 = .ok (.goto 4, 3) := by decide +kernel
theorem d_M_way_160 : decode prog_10_method_21_code 160 = .ok (.iconst 3, 1) := by decide +kernel
theorem d_M_way_161 : decode prog_10_method_21_code 161 = .ok (.ireturn, 1) := by decide +kernel

theorem d_M_take_0 : decode prog_10_method_22_code 0 = .ok (.iconst 0, 1) := by decide +kernel
theorem d_M_take_1 : decode prog_10_method_22_code 1 = .ok (.istore_n 3, 1) := by decide +kernel
theorem d_M_take_2 : decode prog_10_method_22_code 2 = .ok (.iload_n 3, 1) := by decide +kernel
theorem d_M_take_3 : decode prog_10_method_22_code 3 = .ok (.bipush 125, 2) := by decide +kernel
theorem d_M_take_5 : decode prog_10_method_22_code 5 = .ok (.if_icmp .ge 53, 3) := by decide +kernel
theorem d_M_take_8 : decode prog_10_method_22_code 8 = .ok (.iload_n 3, 1) := by decide +kernel
theorem d_M_take_9 : decode prog_10_method_22_code 9 = .ok (.invokestatic 79, 3) := by decide +kernel
theorem d_M_take_12 : decode prog_10_method_22_code 12 = .ok (.ifCond .eq 40, 3) := by decide +kernel
theorem d_M_take_15 : decode prog_10_method_22_code 15 = .ok (.iload_n 3, 1) := by decide +kernel
theorem d_M_take_16 : decode prog_10_method_22_code 16 = .ok (.iload_n 2, 1) := by decide +kernel
theorem d_M_take_17 : decode prog_10_method_22_code 17 = .ok (.invokestatic 115, 3) := by decide +kernel
theorem d_M_take_20 : decode prog_10_method_22_code 20 = .ok (.ifCond .eq 32, 3) := by decide +kernel
theorem d_M_take_23 : decode prog_10_method_22_code 23 = .ok (.aload_n 0, 1) := by decide +kernel
theorem d_M_take_24 : decode prog_10_method_22_code 24 = .ok (.getfield 7, 3) := by decide +kernel
theorem d_M_take_27 : decode prog_10_method_22_code 27 = .ok (.sipush 2000, 3) := by decide +kernel
theorem d_M_take_30 : decode prog_10_method_22_code 30 = .ok (.bipush 125, 2) := by decide +kernel
theorem d_M_take_32 : decode prog_10_method_22_code 32 = .ok (.iload_n 1, 1) := by decide +kernel
theorem d_M_take_33 : decode prog_10_method_22_code 33 = .ok (.imul, 1) := by decide +kernel
theorem d_M_take_34 : decode prog_10_method_22_code 34 = .ok (.iadd, 1) := by decide +kernel
theorem d_M_take_35 : decode prog_10_method_22_code 35 = .ok (.iload_n 3, 1) := by decide +kernel
theorem d_M_take_36 : decode prog_10_method_22_code 36 = .ok (.iadd, 1) := by decide +kernel
theorem d_M_take_37 : decode prog_10_method_22_code 37 = .ok (.aload_n 0, 1) := by decide +kernel
theorem d_M_take_38 : decode prog_10_method_22_code 38 = .ok (.getfield 7, 3) := by decide +kernel
theorem d_M_take_41 : decode prog_10_method_22_code 41 = .ok (.bipush 125, 2) := by decide +kernel
theorem d_M_take_43 : decode prog_10_method_22_code 43 = .ok (.aload_n 0, 1) := by decide +kernel
theorem d_M_take_44 : decode prog_10_method_22_code 44 = .ok (.getfield 76, 3) := by decide +kernel
theorem d_M_take_47 : decode prog_10_method_22_code 47 = .ok (.imul, 1) := by decide +kernel
theorem d_M_take_48 : decode prog_10_method_22_code 48 = .ok (.iload_n 3, 1) := by decide +kernel
theorem d_M_take_49 : decode prog_10_method_22_code 49 = .ok (.iadd, 1) := by decide +kernel
theorem d_M_take_50 : decode prog_10_method_22_code 50 = .ok (.saload, 1) := by decide +kernel
theorem d_M_take_51 : decode prog_10_method_22_code 51 = .ok (.sastore, 1) := by decide +kernel
theorem d_M_take_52 : decode prog_10_method_22_code 52 = .ok (.iinc 3 1, 3) := by decide +kernel
theorem d_M_take_55 : decode prog_10_method_22_code 55 = .ok (.goto (-53), 3) := by decide +kernel
theorem d_M_take_58 : decode prog_10_method_22_code 58 = .ok (.return_, 1) := by decide +kernel

theorem d_M_join_0 : decode prog_10_method_23_code 0 = .ok (.aload_n 0, 1) := by decide +kernel
theorem d_M_join_1 : decode prog_10_method_23_code 1 = .ok (.getfield 7, 3) := by decide +kernel
theorem d_M_join_4 : decode prog_10_method_23_code 4 = .ok (.sipush 2000, 3) := by decide +kernel
theorem d_M_join_7 : decode prog_10_method_23_code 7 = .ok (.bipush 125, 2) := by decide +kernel
theorem d_M_join_9 : decode prog_10_method_23_code 9 = .ok (.iload_n 1, 1) := by decide +kernel
theorem d_M_join_10 : decode prog_10_method_23_code 10 = .ok (.imul, 1) := by decide +kernel
theorem d_M_join_11 : decode prog_10_method_23_code 11 = .ok (.iadd, 1) := by decide +kernel
theorem d_M_join_12 : decode prog_10_method_23_code 12 = .ok (.iload_n 2, 1) := by decide +kernel
theorem d_M_join_13 : decode prog_10_method_23_code 13 = .ok (.iadd, 1) := by decide +kernel
theorem d_M_join_14 : decode prog_10_method_23_code 14 = .ok (.saload, 1) := by decide +kernel
theorem d_M_join_15 : decode prog_10_method_23_code 15 = .ok (.istore_n 3, 1) := by decide +kernel
theorem d_M_join_16 : decode prog_10_method_23_code 16 = .ok (.aload_n 0, 1) := by decide +kernel
theorem d_M_join_17 : decode prog_10_method_23_code 17 = .ok (.getfield 7, 3) := by decide +kernel
theorem d_M_join_20 : decode prog_10_method_23_code 20 = .ok (.bipush 125, 2) := by decide +kernel
theorem d_M_join_22 : decode prog_10_method_23_code 22 = .ok (.aload_n 0, 1) := by decide +kernel
theorem d_M_join_23 : decode prog_10_method_23_code 23 = .ok (.getfield 76, 3) := by decide +kernel
theorem d_M_join_26 : decode prog_10_method_23_code 26 = .ok (.imul, 1) := by decide +kernel
theorem d_M_join_27 : decode prog_10_method_23_code 27 = .ok (.iload_n 2, 1) := by decide +kernel
theorem d_M_join_28 : decode prog_10_method_23_code 28 = .ok (.iadd, 1) := by decide +kernel
theorem d_M_join_29 : decode prog_10_method_23_code 29 = .ok (.saload, 1) := by decide +kernel
theorem d_M_join_30 : decode prog_10_method_23_code 30 = .ok (.istore 4, 2) := by decide +kernel
theorem d_M_join_32 : decode prog_10_method_23_code 32 = .ok (.aload_n 0, 1) := by decide +kernel
theorem d_M_join_33 : decode prog_10_method_23_code 33 = .ok (.getfield 44, 3) := by decide +kernel
theorem d_M_join_36 : decode prog_10_method_23_code 36 = .ok (.iload_n 3, 1) := by decide +kernel
theorem d_M_join_37 : decode prog_10_method_23_code 37 = .ok (.iload 4, 2) := by decide +kernel
theorem d_M_join_39 : decode prog_10_method_23_code 39 = .ok (.i2s, 1) := by decide +kernel
theorem d_M_join_40 : decode prog_10_method_23_code 40 = .ok (.sastore, 1) := by decide +kernel
theorem d_M_join_41 : decode prog_10_method_23_code 41 = .ok (.aload_n 0, 1) := by decide +kernel
theorem d_M_join_42 : decode prog_10_method_23_code 42 = .ok (.getfield 38, 3) := by decide +kernel
theorem d_M_join_45 : decode prog_10_method_23_code 45 = .ok (.iload_n 3, 1) := by decide +kernel
theorem d_M_join_46 : decode prog_10_method_23_code 46 = .ok (.aload_n 0, 1) := by decide +kernel
theorem d_M_join_47 : decode prog_10_method_23_code 47 = .ok (.getfield 38, 3) := by decide +kernel
theorem d_M_join_50 : decode prog_10_method_23_code 50 = .ok (.iload 4, 2) := by decide +kernel
theorem d_M_join_52 : decode prog_10_method_23_code 52 = .ok (.saload, 1) := by decide +kernel
theorem d_M_join_53 : decode prog_10_method_23_code 53 = .ok (.iconst 1, 1) := by decide +kernel
theorem d_M_join_54 : decode prog_10_method_23_code 54 = .ok (.iadd, 1) := by decide +kernel
theorem d_M_join_55 : decode prog_10_method_23_code 55 = .ok (.i2s, 1) := by decide +kernel
theorem d_M_join_56 : decode prog_10_method_23_code 56 = .ok (.sastore, 1) := by decide +kernel
theorem d_M_join_57 : decode prog_10_method_23_code 57 = .ok (.return_, 1) := by decide +kernel

theorem d_M_settle_0 : decode prog_10_method_24_code 0 = .ok (.iload_n 3, 1) := by decide +kernel
theorem d_M_settle_1 : decode prog_10_method_24_code 1 = .ok (.iconst 1, 1) := by decide +kernel
theorem d_M_settle_2 : decode prog_10_method_24_code 2 = .ok (.if_icmp .ne 14, 3) := by decide +kernel
theorem d_M_settle_5 : decode prog_10_method_24_code 5 = .ok (.iload 4, 2) := by decide +kernel
theorem d_M_settle_7 : decode prog_10_method_24_code 7 = .ok (.ifCond .eq 9, 3) := by decide +kernel
theorem d_M_settle_10 : decode prog_10_method_24_code 10 = .ok (.aload_n 0, 1) := by decide +kernel
theorem d_M_settle_11 : decode prog_10_method_24_code 11 = .ok (.iload_n 1, 1) := by decide +kernel
theorem d_M_settle_12 : decode prog_10_method_24_code 12 = .ok (.iload_n 2, 1) := by decide +kernel
theorem d_M_settle_13 : decode prog_10_method_24_code 13 = .ok (.invokevirtual 121, 3) := by decide +kernel
theorem d_M_settle_16 : decode prog_10_method_24_code 16 = .ok (.iload_n 3, 1) := by decide +kernel
theorem d_M_settle_17 : decode prog_10_method_24_code 17 = .ok (.iconst 2, 1) := by decide +kernel
theorem d_M_settle_18 : decode prog_10_method_24_code 18 = .ok (.if_icmp .ne 14, 3) := by decide +kernel
theorem d_M_settle_21 : decode prog_10_method_24_code 21 = .ok (.iload 4, 2) := by decide +kernel
theorem d_M_settle_23 : decode prog_10_method_24_code 23 = .ok (.ifCond .eq 9, 3) := by decide +kernel
theorem d_M_settle_26 : decode prog_10_method_24_code 26 = .ok (.aload_n 0, 1) := by decide +kernel
theorem d_M_settle_27 : decode prog_10_method_24_code 27 = .ok (.iload_n 1, 1) := by decide +kernel
theorem d_M_settle_28 : decode prog_10_method_24_code 28 = .ok (.iload_n 2, 1) := by decide +kernel
theorem d_M_settle_29 : decode prog_10_method_24_code 29 = .ok (.invokevirtual 124, 3) := by decide +kernel
theorem d_M_settle_32 : decode prog_10_method_24_code 32 = .ok (.return_, 1) := by decide +kernel
set_option maxHeartbeats 4000000 in
set_option maxRecDepth 100000 in
theorem c_M_way {l : Launch} {E : Ev} {σ : SS} {ad : Nat → Nat} (hI : rfI ad) (hB : rB σ) {sz : Nat} {t q : Nat} (ht : t < 3) (hq : q < 125) (hb3 : σ 3 t ≤ 15) (hy : σ 1 0 ≤ 15) (hN : ∀ j, σ 0 j < 1300) : MCi l E y_M_way prog_10_method_21_code 7 (some .int) 0 0 0 0 [.ref (ad 0), .int (nI t), .int (nI q)] (rfM E σ ad) sz (fun r M' => r = nI (wy σ t q) ∧ M' = rfM E σ ad) := by
  refine mc_of R_M rfl [some (.ref (ad 0)), some (.int (nI t)), some (.int (nI q)), none, none, none, none] (by decide) (Nat.le_of_ble_eq_true rfl) rfl ?_
  intro p e R s m ag below meth c ls Q A X hAe hQ hR hsz hw hl
  rw [← hAe] at hQ
  obtain ⟨⟨hx, hb, hml, hown, hts⟩, hE, hA, hr, hlk, hnm⟩ := X
  have hK := hE.1
  first | refine x_aload_n hx hb d_M_way_0 hl rfl ?_ | refine x_aload_nQ hx hb d_M_way_0 hl rfl ?_
  refine m_get hx hb hts hown hK hw ci_M (rf_at hI 0 (by decide) rfl) 0 (by decide) (wm3 72 rfl rfl) rfl d_M_way_1 ?_
  refine lv_bipush (v := nI 125) hx hb d_M_way_4 (by decide) ?_
  first | refine x_aload_n hx hb d_M_way_6 hl rfl ?_ | refine x_aload_nQ hx hb d_M_way_6 hl rfl ?_
  refine m_get hx hb hts hown hK hw ci_M (rf_at hI 0 (by decide) rfl) 3 (by decide) (wm3 75 rfl rfl) rfl d_M_way_7 ?_
  refine x_iload_n hx hb d_M_way_10 hl rfl ?_
  refine rl_3 hx hb hK hI hB hw (by omega) d_M_way_11 (fun hv11 => ?_)
  first | refine x_imul hx hb d_M_way_12 ?_ | refine lv_imul hx hb d_M_way_12 ?_
  refine x_iload_n hx hb d_M_way_13 hl rfl ?_
  first | refine x_iadd hx hb d_M_way_14 ?_ | refine lv_iadd hx hb d_M_way_14 ?_
  refine rl_0 hx hb hK hI hB hw (by omega) d_M_way_15 (fun hv15 => ?_)
  refine x_istore_n hx hb d_M_way_16 hl (Nat.le_of_ble_eq_true rfl) (lh_k (i := 2) rfl (by first | exact lk_n | exact lk_i | exact lk_r | exact lk_q | exact lk_0)) (fun ls hl => ?_)
  first | refine x_aload_n hx hb d_M_way_17 hl rfl ?_ | refine x_aload_nQ hx hb d_M_way_17 hl rfl ?_
  refine m_get hx hb hts hown hK hw ci_M (rf_at hI 0 (by decide) rfl) 0 (by decide) (wm3 72 rfl rfl) rfl d_M_way_18 ?_
  refine lv_bipush (v := nI 125) hx hb d_M_way_21 (by decide) ?_
  first | refine x_aload_n hx hb d_M_way_23 hl rfl ?_ | refine x_aload_nQ hx hb d_M_way_23 hl rfl ?_
  refine m_get hx hb hts hown hK hw ci_M (rf_at hI 0 (by decide) rfl) 1 (by decide) (wm3 73 rfl rfl) rfl d_M_way_24 ?_
  have hs24 := hB 1 0 (by decide) (by decide)
  first | refine x_imul hx hb d_M_way_27 ?_ | refine lv_imul hx hb d_M_way_27 ?_
  refine x_iload_n hx hb d_M_way_28 hl rfl ?_
  first | refine x_iadd hx hb d_M_way_29 ?_ | refine lv_iadd hx hb d_M_way_29 ?_
  refine rl_0 hx hb hK hI hB hw (by omega) d_M_way_30 (fun hv30 => ?_)
  refine x_istore hx hb d_M_way_31 hl (Nat.le_of_ble_eq_true rfl) (lh_k (i := 3) rfl (by first | exact lk_n | exact lk_i | exact lk_r | exact lk_q | exact lk_0)) (fun ls hl => ?_)
  first | refine x_aload_n hx hb d_M_way_33 hl rfl ?_ | refine x_aload_nQ hx hb d_M_way_33 hl rfl ?_
  refine m_get hx hb hts hown hK hw ci_M (rf_at hI 0 (by decide) rfl) 0 (by decide) (wm3 72 rfl rfl) rfl d_M_way_34 ?_
  refine lv_sipush (v := nI 2000) hx hb d_M_way_37 (by decide) ?_
  refine lv_bipush (v := nI 125) hx hb d_M_way_40 (by decide) ?_
  refine x_iload_n hx hb d_M_way_42 hl rfl ?_
  first | refine x_imul hx hb d_M_way_43 ?_ | refine lv_imul hx hb d_M_way_43 ?_
  first | refine x_iadd hx hb d_M_way_44 ?_ | refine lv_iadd hx hb d_M_way_44 ?_
  refine x_iload_n hx hb d_M_way_45 hl rfl ?_
  first | refine x_iadd hx hb d_M_way_46 ?_ | refine lv_iadd hx hb d_M_way_46 ?_
  refine rl_0 hx hb hK hI hB hw (by omega) d_M_way_47 (fun hv47 => ?_)
  refine x_istore hx hb d_M_way_48 hl (Nat.le_of_ble_eq_true rfl) (lh_k (i := 4) rfl (by first | exact lk_n | exact lk_i | exact lk_r | exact lk_q | exact lk_0)) (fun ls hl => ?_)
  refine x_iload hx hb d_M_way_50 hl rfl ?_
  refine x_iload_n hx hb d_M_way_52 hl rfl ?_
  refine x_icmp_ne hx hb d_M_way_53 rfl (by omega) (by omega) (fun h53 => ?_) (fun h53 => ?_)
  · refine x_iload hx hb d_M_way_58 hl rfl ?_
    refine x_iload_n hx hb d_M_way_60 hl rfl ?_
    refine x_icmp_ne hx hb d_M_way_61 rfl (by omega) (by omega) (fun h61 => ?_) (fun h61 => ?_)
    · have n1 := hN (125 * σ 3 t + q)
      have n2 := hN (125 * σ 1 0 + q)
      have n3 := hN (2000 + 125 * t + q)
      refine x_iload_n hx hb d_M_way_66 hl rfl ?_
      refine x_if_le hx hb d_M_way_67 rfl (by omega) (fun h67 => ?_) (fun h67 => ?_)
      · refine lv_iconst (v := nI 0) hx hb d_M_way_116 (by decide) ?_
        refine x_istore hx hb d_M_way_117 hl (Nat.le_of_ble_eq_true rfl) (lh_k (i := 5) rfl (by first | exact lk_n | exact lk_i | exact lk_r | exact lk_q | exact lk_0)) (fun ls hl => ?_)
        refine x_iload hx hb d_M_way_119 hl rfl ?_
        refine x_if_eq hx hb d_M_way_121 rfl (by omega) (fun h121 => ?_) (fun h121 => ?_)
        · first
            | exact absurd h121 (by omega)
            | refine lv_iconst (v := nI 3) hx hb d_M_way_160 (by decide) ?_
              exact x_reti hQ hx hb hr hlk rfl hw (by omega) (by omega) d_M_way_161 (⟨congrArg nI (by unfold wy wyf; rw [if_neg h53, if_neg h61]; first | exact (if_pos ⟨⟨h67, h72, h77, h87, h98, h109⟩, h137, h153⟩).symm | exact (if_neg (by omega)).symm), rfl⟩)
        · first
            | exact absurd h121 (by omega)
            | first | refine x_aload_n hx hb d_M_way_124 hl rfl ?_ | refine x_aload_nQ hx hb d_M_way_124 hl rfl ?_
              refine m_get hx hb hts hown hK hw ci_M (rf_at hI 0 (by decide) rfl) 10 (by decide) (wm3 82 rfl rfl) rfl d_M_way_125 ?_
              refine x_iload_n hx hb d_M_way_128 hl rfl ?_
              refine rl_10 hx hb hK hI hB hw (by omega) d_M_way_129 (fun hv129 => ?_)
              first | refine x_aload_n hx hb d_M_way_130 hl rfl ?_ | refine x_aload_nQ hx hb d_M_way_130 hl rfl ?_
              refine m_get hx hb hts hown hK hw ci_M (rf_at hI 0 (by decide) rfl) 10 (by decide) (wm3 82 rfl rfl) rfl d_M_way_131 ?_
              refine x_iload hx hb d_M_way_134 hl rfl ?_
              refine rl_10 hx hb hK hI hB hw (by omega) d_M_way_136 (fun hv136 => ?_)
              refine x_icmp_ne hx hb d_M_way_137 rfl (by omega) (by omega) (fun h137 => ?_) (fun h137 => ?_)
              · refine lv_iconst (v := nI 3) hx hb d_M_way_160 (by decide) ?_
                exact x_reti hQ hx hb hr hlk rfl hw (by omega) (by omega) d_M_way_161 (⟨congrArg nI (by unfold wy wyf; rw [if_neg h53, if_neg h61]; first | exact (if_pos ⟨⟨h67, h72, h77, h87, h98, h109⟩, h137, h153⟩).symm | exact (if_neg (by omega)).symm), rfl⟩)
              · first | refine x_aload_n hx hb d_M_way_140 hl rfl ?_ | refine x_aload_nQ hx hb d_M_way_140 hl rfl ?_
                refine m_get hx hb hts hown hK hw ci_M (rf_at hI 0 (by decide) rfl) 10 (by decide) (wm3 82 rfl rfl) rfl d_M_way_141 ?_
                refine x_iload_n hx hb d_M_way_144 hl rfl ?_
                refine rl_10 hx hb hK hI hB hw (by omega) d_M_way_145 (fun hv145 => ?_)
                first | refine x_aload_n hx hb d_M_way_146 hl rfl ?_ | refine x_aload_nQ hx hb d_M_way_146 hl rfl ?_
                refine m_get hx hb hts hown hK hw ci_M (rf_at hI 0 (by decide) rfl) 10 (by decide) (wm3 82 rfl rfl) rfl d_M_way_147 ?_
                refine x_iload hx hb d_M_way_150 hl rfl ?_
                refine rl_10 hx hb hK hI hB hw (by omega) d_M_way_152 (fun hv152 => ?_)
                refine x_icmp_ne hx hb d_M_way_153 rfl (by omega) (by omega) (fun h153 => ?_) (fun h153 => ?_)
                · refine lv_iconst (v := nI 3) hx hb d_M_way_160 (by decide) ?_
                  exact x_reti hQ hx hb hr hlk rfl hw (by omega) (by omega) d_M_way_161 (⟨congrArg nI (by unfold wy wyf; rw [if_neg h53, if_neg h61]; first | exact (if_pos ⟨⟨h67, h72, h77, h87, h98, h109⟩, h137, h153⟩).symm | exact (if_neg (by omega)).symm), rfl⟩)
                · refine lv_iconst (v := nI 2) hx hb d_M_way_156 (by decide) ?_
                  refine lv_goto hx hb d_M_way_157 rfl ?_
                  exact x_reti hQ hx hb hr hlk rfl hw (by omega) (by omega) d_M_way_161 (⟨congrArg nI (by unfold wy wyf; rw [if_neg h53, if_neg h61]; first | exact (if_pos ⟨⟨h67, h72, h77, h87, h98, h109⟩, h137, h153⟩).symm | exact (if_neg (by omega)).symm), rfl⟩)
      · refine x_iload hx hb d_M_way_70 hl rfl ?_
        refine x_if_le hx hb d_M_way_72 rfl (by omega) (fun h72 => ?_) (fun h72 => ?_)
        · refine lv_iconst (v := nI 0) hx hb d_M_way_116 (by decide) ?_
          refine x_istore hx hb d_M_way_117 hl (Nat.le_of_ble_eq_true rfl) (lh_k (i := 5) rfl (by first | exact lk_n | exact lk_i | exact lk_r | exact lk_q | exact lk_0)) (fun ls hl => ?_)
          refine x_iload hx hb d_M_way_119 hl rfl ?_
          refine x_if_eq hx hb d_M_way_121 rfl (by omega) (fun h121 => ?_) (fun h121 => ?_)
          · first
              | exact absurd h121 (by omega)
              | refine lv_iconst (v := nI 3) hx hb d_M_way_160 (by decide) ?_
                exact x_reti hQ hx hb hr hlk rfl hw (by omega) (by omega) d_M_way_161 (⟨congrArg nI (by unfold wy wyf; rw [if_neg h53, if_neg h61]; first | exact (if_pos ⟨⟨h67, h72, h77, h87, h98, h109⟩, h137, h153⟩).symm | exact (if_neg (by omega)).symm), rfl⟩)
          · first
              | exact absurd h121 (by omega)
              | first | refine x_aload_n hx hb d_M_way_124 hl rfl ?_ | refine x_aload_nQ hx hb d_M_way_124 hl rfl ?_
                refine m_get hx hb hts hown hK hw ci_M (rf_at hI 0 (by decide) rfl) 10 (by decide) (wm3 82 rfl rfl) rfl d_M_way_125 ?_
                refine x_iload_n hx hb d_M_way_128 hl rfl ?_
                refine rl_10 hx hb hK hI hB hw (by omega) d_M_way_129 (fun hv129 => ?_)
                first | refine x_aload_n hx hb d_M_way_130 hl rfl ?_ | refine x_aload_nQ hx hb d_M_way_130 hl rfl ?_
                refine m_get hx hb hts hown hK hw ci_M (rf_at hI 0 (by decide) rfl) 10 (by decide) (wm3 82 rfl rfl) rfl d_M_way_131 ?_
                refine x_iload hx hb d_M_way_134 hl rfl ?_
                refine rl_10 hx hb hK hI hB hw (by omega) d_M_way_136 (fun hv136 => ?_)
                refine x_icmp_ne hx hb d_M_way_137 rfl (by omega) (by omega) (fun h137 => ?_) (fun h137 => ?_)
                · refine lv_iconst (v := nI 3) hx hb d_M_way_160 (by decide) ?_
                  exact x_reti hQ hx hb hr hlk rfl hw (by omega) (by omega) d_M_way_161 (⟨congrArg nI (by unfold wy wyf; rw [if_neg h53, if_neg h61]; first | exact (if_pos ⟨⟨h67, h72, h77, h87, h98, h109⟩, h137, h153⟩).symm | exact (if_neg (by omega)).symm), rfl⟩)
                · first | refine x_aload_n hx hb d_M_way_140 hl rfl ?_ | refine x_aload_nQ hx hb d_M_way_140 hl rfl ?_
                  refine m_get hx hb hts hown hK hw ci_M (rf_at hI 0 (by decide) rfl) 10 (by decide) (wm3 82 rfl rfl) rfl d_M_way_141 ?_
                  refine x_iload_n hx hb d_M_way_144 hl rfl ?_
                  refine rl_10 hx hb hK hI hB hw (by omega) d_M_way_145 (fun hv145 => ?_)
                  first | refine x_aload_n hx hb d_M_way_146 hl rfl ?_ | refine x_aload_nQ hx hb d_M_way_146 hl rfl ?_
                  refine m_get hx hb hts hown hK hw ci_M (rf_at hI 0 (by decide) rfl) 10 (by decide) (wm3 82 rfl rfl) rfl d_M_way_147 ?_
                  refine x_iload hx hb d_M_way_150 hl rfl ?_
                  refine rl_10 hx hb hK hI hB hw (by omega) d_M_way_152 (fun hv152 => ?_)
                  refine x_icmp_ne hx hb d_M_way_153 rfl (by omega) (by omega) (fun h153 => ?_) (fun h153 => ?_)
                  · refine lv_iconst (v := nI 3) hx hb d_M_way_160 (by decide) ?_
                    exact x_reti hQ hx hb hr hlk rfl hw (by omega) (by omega) d_M_way_161 (⟨congrArg nI (by unfold wy wyf; rw [if_neg h53, if_neg h61]; first | exact (if_pos ⟨⟨h67, h72, h77, h87, h98, h109⟩, h137, h153⟩).symm | exact (if_neg (by omega)).symm), rfl⟩)
                  · refine lv_iconst (v := nI 2) hx hb d_M_way_156 (by decide) ?_
                    refine lv_goto hx hb d_M_way_157 rfl ?_
                    exact x_reti hQ hx hb hr hlk rfl hw (by omega) (by omega) d_M_way_161 (⟨congrArg nI (by unfold wy wyf; rw [if_neg h53, if_neg h61]; first | exact (if_pos ⟨⟨h67, h72, h77, h87, h98, h109⟩, h137, h153⟩).symm | exact (if_neg (by omega)).symm), rfl⟩)
        · refine x_iload hx hb d_M_way_75 hl rfl ?_
          refine x_if_le hx hb d_M_way_77 rfl (by omega) (fun h77 => ?_) (fun h77 => ?_)
          · refine lv_iconst (v := nI 0) hx hb d_M_way_116 (by decide) ?_
            refine x_istore hx hb d_M_way_117 hl (Nat.le_of_ble_eq_true rfl) (lh_k (i := 5) rfl (by first | exact lk_n | exact lk_i | exact lk_r | exact lk_q | exact lk_0)) (fun ls hl => ?_)
            refine x_iload hx hb d_M_way_119 hl rfl ?_
            refine x_if_eq hx hb d_M_way_121 rfl (by omega) (fun h121 => ?_) (fun h121 => ?_)
            · first
                | exact absurd h121 (by omega)
                | refine lv_iconst (v := nI 3) hx hb d_M_way_160 (by decide) ?_
                  exact x_reti hQ hx hb hr hlk rfl hw (by omega) (by omega) d_M_way_161 (⟨congrArg nI (by unfold wy wyf; rw [if_neg h53, if_neg h61]; first | exact (if_pos ⟨⟨h67, h72, h77, h87, h98, h109⟩, h137, h153⟩).symm | exact (if_neg (by omega)).symm), rfl⟩)
            · first
                | exact absurd h121 (by omega)
                | first | refine x_aload_n hx hb d_M_way_124 hl rfl ?_ | refine x_aload_nQ hx hb d_M_way_124 hl rfl ?_
                  refine m_get hx hb hts hown hK hw ci_M (rf_at hI 0 (by decide) rfl) 10 (by decide) (wm3 82 rfl rfl) rfl d_M_way_125 ?_
                  refine x_iload_n hx hb d_M_way_128 hl rfl ?_
                  refine rl_10 hx hb hK hI hB hw (by omega) d_M_way_129 (fun hv129 => ?_)
                  first | refine x_aload_n hx hb d_M_way_130 hl rfl ?_ | refine x_aload_nQ hx hb d_M_way_130 hl rfl ?_
                  refine m_get hx hb hts hown hK hw ci_M (rf_at hI 0 (by decide) rfl) 10 (by decide) (wm3 82 rfl rfl) rfl d_M_way_131 ?_
                  refine x_iload hx hb d_M_way_134 hl rfl ?_
                  refine rl_10 hx hb hK hI hB hw (by omega) d_M_way_136 (fun hv136 => ?_)
                  refine x_icmp_ne hx hb d_M_way_137 rfl (by omega) (by omega) (fun h137 => ?_) (fun h137 => ?_)
                  · refine lv_iconst (v := nI 3) hx hb d_M_way_160 (by decide) ?_
                    exact x_reti hQ hx hb hr hlk rfl hw (by omega) (by omega) d_M_way_161 (⟨congrArg nI (by unfold wy wyf; rw [if_neg h53, if_neg h61]; first | exact (if_pos ⟨⟨h67, h72, h77, h87, h98, h109⟩, h137, h153⟩).symm | exact (if_neg (by omega)).symm), rfl⟩)
                  · first | refine x_aload_n hx hb d_M_way_140 hl rfl ?_ | refine x_aload_nQ hx hb d_M_way_140 hl rfl ?_
                    refine m_get hx hb hts hown hK hw ci_M (rf_at hI 0 (by decide) rfl) 10 (by decide) (wm3 82 rfl rfl) rfl d_M_way_141 ?_
                    refine x_iload_n hx hb d_M_way_144 hl rfl ?_
                    refine rl_10 hx hb hK hI hB hw (by omega) d_M_way_145 (fun hv145 => ?_)
                    first | refine x_aload_n hx hb d_M_way_146 hl rfl ?_ | refine x_aload_nQ hx hb d_M_way_146 hl rfl ?_
                    refine m_get hx hb hts hown hK hw ci_M (rf_at hI 0 (by decide) rfl) 10 (by decide) (wm3 82 rfl rfl) rfl d_M_way_147 ?_
                    refine x_iload hx hb d_M_way_150 hl rfl ?_
                    refine rl_10 hx hb hK hI hB hw (by omega) d_M_way_152 (fun hv152 => ?_)
                    refine x_icmp_ne hx hb d_M_way_153 rfl (by omega) (by omega) (fun h153 => ?_) (fun h153 => ?_)
                    · refine lv_iconst (v := nI 3) hx hb d_M_way_160 (by decide) ?_
                      exact x_reti hQ hx hb hr hlk rfl hw (by omega) (by omega) d_M_way_161 (⟨congrArg nI (by unfold wy wyf; rw [if_neg h53, if_neg h61]; first | exact (if_pos ⟨⟨h67, h72, h77, h87, h98, h109⟩, h137, h153⟩).symm | exact (if_neg (by omega)).symm), rfl⟩)
                    · refine lv_iconst (v := nI 2) hx hb d_M_way_156 (by decide) ?_
                      refine lv_goto hx hb d_M_way_157 rfl ?_
                      exact x_reti hQ hx hb hr hlk rfl hw (by omega) (by omega) d_M_way_161 (⟨congrArg nI (by unfold wy wyf; rw [if_neg h53, if_neg h61]; first | exact (if_pos ⟨⟨h67, h72, h77, h87, h98, h109⟩, h137, h153⟩).symm | exact (if_neg (by omega)).symm), rfl⟩)
          · first | refine x_aload_n hx hb d_M_way_80 hl rfl ?_ | refine x_aload_nQ hx hb d_M_way_80 hl rfl ?_
            refine m_get hx hb hts hown hK hw ci_M (rf_at hI 0 (by decide) rfl) 6 (by decide) (wm3 78 rfl rfl) rfl d_M_way_81 ?_
            refine x_iload_n hx hb d_M_way_84 hl rfl ?_
            refine rl_6 hx hb hK hI hB hw (by omega) d_M_way_85 (fun hv85 => ?_)
            refine lv_iconst (v := nI 1) hx hb d_M_way_86 (by decide) ?_
            refine x_icmp_ne hx hb d_M_way_87 rfl (by omega) (by omega) (fun h87 => ?_) (fun h87 => ?_)
            · refine lv_iconst (v := nI 0) hx hb d_M_way_116 (by decide) ?_
              refine x_istore hx hb d_M_way_117 hl (Nat.le_of_ble_eq_true rfl) (lh_k (i := 5) rfl (by first | exact lk_n | exact lk_i | exact lk_r | exact lk_q | exact lk_0)) (fun ls hl => ?_)
              refine x_iload hx hb d_M_way_119 hl rfl ?_
              refine x_if_eq hx hb d_M_way_121 rfl (by omega) (fun h121 => ?_) (fun h121 => ?_)
              · first
                  | exact absurd h121 (by omega)
                  | refine lv_iconst (v := nI 3) hx hb d_M_way_160 (by decide) ?_
                    exact x_reti hQ hx hb hr hlk rfl hw (by omega) (by omega) d_M_way_161 (⟨congrArg nI (by unfold wy wyf; rw [if_neg h53, if_neg h61]; first | exact (if_pos ⟨⟨h67, h72, h77, h87, h98, h109⟩, h137, h153⟩).symm | exact (if_neg (by omega)).symm), rfl⟩)
              · first
                  | exact absurd h121 (by omega)
                  | first | refine x_aload_n hx hb d_M_way_124 hl rfl ?_ | refine x_aload_nQ hx hb d_M_way_124 hl rfl ?_
                    refine m_get hx hb hts hown hK hw ci_M (rf_at hI 0 (by decide) rfl) 10 (by decide) (wm3 82 rfl rfl) rfl d_M_way_125 ?_
                    refine x_iload_n hx hb d_M_way_128 hl rfl ?_
                    refine rl_10 hx hb hK hI hB hw (by omega) d_M_way_129 (fun hv129 => ?_)
                    first | refine x_aload_n hx hb d_M_way_130 hl rfl ?_ | refine x_aload_nQ hx hb d_M_way_130 hl rfl ?_
                    refine m_get hx hb hts hown hK hw ci_M (rf_at hI 0 (by decide) rfl) 10 (by decide) (wm3 82 rfl rfl) rfl d_M_way_131 ?_
                    refine x_iload hx hb d_M_way_134 hl rfl ?_
                    refine rl_10 hx hb hK hI hB hw (by omega) d_M_way_136 (fun hv136 => ?_)
                    refine x_icmp_ne hx hb d_M_way_137 rfl (by omega) (by omega) (fun h137 => ?_) (fun h137 => ?_)
                    · refine lv_iconst (v := nI 3) hx hb d_M_way_160 (by decide) ?_
                      exact x_reti hQ hx hb hr hlk rfl hw (by omega) (by omega) d_M_way_161 (⟨congrArg nI (by unfold wy wyf; rw [if_neg h53, if_neg h61]; first | exact (if_pos ⟨⟨h67, h72, h77, h87, h98, h109⟩, h137, h153⟩).symm | exact (if_neg (by omega)).symm), rfl⟩)
                    · first | refine x_aload_n hx hb d_M_way_140 hl rfl ?_ | refine x_aload_nQ hx hb d_M_way_140 hl rfl ?_
                      refine m_get hx hb hts hown hK hw ci_M (rf_at hI 0 (by decide) rfl) 10 (by decide) (wm3 82 rfl rfl) rfl d_M_way_141 ?_
                      refine x_iload_n hx hb d_M_way_144 hl rfl ?_
                      refine rl_10 hx hb hK hI hB hw (by omega) d_M_way_145 (fun hv145 => ?_)
                      first | refine x_aload_n hx hb d_M_way_146 hl rfl ?_ | refine x_aload_nQ hx hb d_M_way_146 hl rfl ?_
                      refine m_get hx hb hts hown hK hw ci_M (rf_at hI 0 (by decide) rfl) 10 (by decide) (wm3 82 rfl rfl) rfl d_M_way_147 ?_
                      refine x_iload hx hb d_M_way_150 hl rfl ?_
                      refine rl_10 hx hb hK hI hB hw (by omega) d_M_way_152 (fun hv152 => ?_)
                      refine x_icmp_ne hx hb d_M_way_153 rfl (by omega) (by omega) (fun h153 => ?_) (fun h153 => ?_)
                      · refine lv_iconst (v := nI 3) hx hb d_M_way_160 (by decide) ?_
                        exact x_reti hQ hx hb hr hlk rfl hw (by omega) (by omega) d_M_way_161 (⟨congrArg nI (by unfold wy wyf; rw [if_neg h53, if_neg h61]; first | exact (if_pos ⟨⟨h67, h72, h77, h87, h98, h109⟩, h137, h153⟩).symm | exact (if_neg (by omega)).symm), rfl⟩)
                      · refine lv_iconst (v := nI 2) hx hb d_M_way_156 (by decide) ?_
                        refine lv_goto hx hb d_M_way_157 rfl ?_
                        exact x_reti hQ hx hb hr hlk rfl hw (by omega) (by omega) d_M_way_161 (⟨congrArg nI (by unfold wy wyf; rw [if_neg h53, if_neg h61]; first | exact (if_pos ⟨⟨h67, h72, h77, h87, h98, h109⟩, h137, h153⟩).symm | exact (if_neg (by omega)).symm), rfl⟩)
            · first | refine x_aload_n hx hb d_M_way_90 hl rfl ?_ | refine x_aload_nQ hx hb d_M_way_90 hl rfl ?_
              refine m_get hx hb hts hown hK hw ci_M (rf_at hI 0 (by decide) rfl) 6 (by decide) (wm3 78 rfl rfl) rfl d_M_way_91 ?_
              refine x_iload hx hb d_M_way_94 hl rfl ?_
              refine rl_6 hx hb hK hI hB hw (by omega) d_M_way_96 (fun hv96 => ?_)
              refine lv_iconst (v := nI 1) hx hb d_M_way_97 (by decide) ?_
              refine x_icmp_ne hx hb d_M_way_98 rfl (by omega) (by omega) (fun h98 => ?_) (fun h98 => ?_)
              · refine lv_iconst (v := nI 0) hx hb d_M_way_116 (by decide) ?_
                refine x_istore hx hb d_M_way_117 hl (Nat.le_of_ble_eq_true rfl) (lh_k (i := 5) rfl (by first | exact lk_n | exact lk_i | exact lk_r | exact lk_q | exact lk_0)) (fun ls hl => ?_)
                refine x_iload hx hb d_M_way_119 hl rfl ?_
                refine x_if_eq hx hb d_M_way_121 rfl (by omega) (fun h121 => ?_) (fun h121 => ?_)
                · first
                    | exact absurd h121 (by omega)
                    | refine lv_iconst (v := nI 3) hx hb d_M_way_160 (by decide) ?_
                      exact x_reti hQ hx hb hr hlk rfl hw (by omega) (by omega) d_M_way_161 (⟨congrArg nI (by unfold wy wyf; rw [if_neg h53, if_neg h61]; first | exact (if_pos ⟨⟨h67, h72, h77, h87, h98, h109⟩, h137, h153⟩).symm | exact (if_neg (by omega)).symm), rfl⟩)
                · first
                    | exact absurd h121 (by omega)
                    | first | refine x_aload_n hx hb d_M_way_124 hl rfl ?_ | refine x_aload_nQ hx hb d_M_way_124 hl rfl ?_
                      refine m_get hx hb hts hown hK hw ci_M (rf_at hI 0 (by decide) rfl) 10 (by decide) (wm3 82 rfl rfl) rfl d_M_way_125 ?_
                      refine x_iload_n hx hb d_M_way_128 hl rfl ?_
                      refine rl_10 hx hb hK hI hB hw (by omega) d_M_way_129 (fun hv129 => ?_)
                      first | refine x_aload_n hx hb d_M_way_130 hl rfl ?_ | refine x_aload_nQ hx hb d_M_way_130 hl rfl ?_
                      refine m_get hx hb hts hown hK hw ci_M (rf_at hI 0 (by decide) rfl) 10 (by decide) (wm3 82 rfl rfl) rfl d_M_way_131 ?_
                      refine x_iload hx hb d_M_way_134 hl rfl ?_
                      refine rl_10 hx hb hK hI hB hw (by omega) d_M_way_136 (fun hv136 => ?_)
                      refine x_icmp_ne hx hb d_M_way_137 rfl (by omega) (by omega) (fun h137 => ?_) (fun h137 => ?_)
                      · refine lv_iconst (v := nI 3) hx hb d_M_way_160 (by decide) ?_
                        exact x_reti hQ hx hb hr hlk rfl hw (by omega) (by omega) d_M_way_161 (⟨congrArg nI (by unfold wy wyf; rw [if_neg h53, if_neg h61]; first | exact (if_pos ⟨⟨h67, h72, h77, h87, h98, h109⟩, h137, h153⟩).symm | exact (if_neg (by omega)).symm), rfl⟩)
                      · first | refine x_aload_n hx hb d_M_way_140 hl rfl ?_ | refine x_aload_nQ hx hb d_M_way_140 hl rfl ?_
                        refine m_get hx hb hts hown hK hw ci_M (rf_at hI 0 (by decide) rfl) 10 (by decide) (wm3 82 rfl rfl) rfl d_M_way_141 ?_
                        refine x_iload_n hx hb d_M_way_144 hl rfl ?_
                        refine rl_10 hx hb hK hI hB hw (by omega) d_M_way_145 (fun hv145 => ?_)
                        first | refine x_aload_n hx hb d_M_way_146 hl rfl ?_ | refine x_aload_nQ hx hb d_M_way_146 hl rfl ?_
                        refine m_get hx hb hts hown hK hw ci_M (rf_at hI 0 (by decide) rfl) 10 (by decide) (wm3 82 rfl rfl) rfl d_M_way_147 ?_
                        refine x_iload hx hb d_M_way_150 hl rfl ?_
                        refine rl_10 hx hb hK hI hB hw (by omega) d_M_way_152 (fun hv152 => ?_)
                        refine x_icmp_ne hx hb d_M_way_153 rfl (by omega) (by omega) (fun h153 => ?_) (fun h153 => ?_)
                        · refine lv_iconst (v := nI 3) hx hb d_M_way_160 (by decide) ?_
                          exact x_reti hQ hx hb hr hlk rfl hw (by omega) (by omega) d_M_way_161 (⟨congrArg nI (by unfold wy wyf; rw [if_neg h53, if_neg h61]; first | exact (if_pos ⟨⟨h67, h72, h77, h87, h98, h109⟩, h137, h153⟩).symm | exact (if_neg (by omega)).symm), rfl⟩)
                        · refine lv_iconst (v := nI 2) hx hb d_M_way_156 (by decide) ?_
                          refine lv_goto hx hb d_M_way_157 rfl ?_
                          exact x_reti hQ hx hb hr hlk rfl hw (by omega) (by omega) d_M_way_161 (⟨congrArg nI (by unfold wy wyf; rw [if_neg h53, if_neg h61]; first | exact (if_pos ⟨⟨h67, h72, h77, h87, h98, h109⟩, h137, h153⟩).symm | exact (if_neg (by omega)).symm), rfl⟩)
              · first | refine x_aload_n hx hb d_M_way_101 hl rfl ?_ | refine x_aload_nQ hx hb d_M_way_101 hl rfl ?_
                refine m_get hx hb hts hown hK hw ci_M (rf_at hI 0 (by decide) rfl) 6 (by decide) (wm3 78 rfl rfl) rfl d_M_way_102 ?_
                refine x_iload hx hb d_M_way_105 hl rfl ?_
                refine rl_6 hx hb hK hI hB hw (by omega) d_M_way_107 (fun hv107 => ?_)
                refine lv_iconst (v := nI 1) hx hb d_M_way_108 (by decide) ?_
                refine x_icmp_ne hx hb d_M_way_109 rfl (by omega) (by omega) (fun h109 => ?_) (fun h109 => ?_)
                · refine lv_iconst (v := nI 0) hx hb d_M_way_116 (by decide) ?_
                  refine x_istore hx hb d_M_way_117 hl (Nat.le_of_ble_eq_true rfl) (lh_k (i := 5) rfl (by first | exact lk_n | exact lk_i | exact lk_r | exact lk_q | exact lk_0)) (fun ls hl => ?_)
                  refine x_iload hx hb d_M_way_119 hl rfl ?_
                  refine x_if_eq hx hb d_M_way_121 rfl (by omega) (fun h121 => ?_) (fun h121 => ?_)
                  · first
                      | exact absurd h121 (by omega)
                      | refine lv_iconst (v := nI 3) hx hb d_M_way_160 (by decide) ?_
                        exact x_reti hQ hx hb hr hlk rfl hw (by omega) (by omega) d_M_way_161 (⟨congrArg nI (by unfold wy wyf; rw [if_neg h53, if_neg h61]; first | exact (if_pos ⟨⟨h67, h72, h77, h87, h98, h109⟩, h137, h153⟩).symm | exact (if_neg (by omega)).symm), rfl⟩)
                  · first
                      | exact absurd h121 (by omega)
                      | first | refine x_aload_n hx hb d_M_way_124 hl rfl ?_ | refine x_aload_nQ hx hb d_M_way_124 hl rfl ?_
                        refine m_get hx hb hts hown hK hw ci_M (rf_at hI 0 (by decide) rfl) 10 (by decide) (wm3 82 rfl rfl) rfl d_M_way_125 ?_
                        refine x_iload_n hx hb d_M_way_128 hl rfl ?_
                        refine rl_10 hx hb hK hI hB hw (by omega) d_M_way_129 (fun hv129 => ?_)
                        first | refine x_aload_n hx hb d_M_way_130 hl rfl ?_ | refine x_aload_nQ hx hb d_M_way_130 hl rfl ?_
                        refine m_get hx hb hts hown hK hw ci_M (rf_at hI 0 (by decide) rfl) 10 (by decide) (wm3 82 rfl rfl) rfl d_M_way_131 ?_
                        refine x_iload hx hb d_M_way_134 hl rfl ?_
                        refine rl_10 hx hb hK hI hB hw (by omega) d_M_way_136 (fun hv136 => ?_)
                        refine x_icmp_ne hx hb d_M_way_137 rfl (by omega) (by omega) (fun h137 => ?_) (fun h137 => ?_)
                        · refine lv_iconst (v := nI 3) hx hb d_M_way_160 (by decide) ?_
                          exact x_reti hQ hx hb hr hlk rfl hw (by omega) (by omega) d_M_way_161 (⟨congrArg nI (by unfold wy wyf; rw [if_neg h53, if_neg h61]; first | exact (if_pos ⟨⟨h67, h72, h77, h87, h98, h109⟩, h137, h153⟩).symm | exact (if_neg (by omega)).symm), rfl⟩)
                        · first | refine x_aload_n hx hb d_M_way_140 hl rfl ?_ | refine x_aload_nQ hx hb d_M_way_140 hl rfl ?_
                          refine m_get hx hb hts hown hK hw ci_M (rf_at hI 0 (by decide) rfl) 10 (by decide) (wm3 82 rfl rfl) rfl d_M_way_141 ?_
                          refine x_iload_n hx hb d_M_way_144 hl rfl ?_
                          refine rl_10 hx hb hK hI hB hw (by omega) d_M_way_145 (fun hv145 => ?_)
                          first | refine x_aload_n hx hb d_M_way_146 hl rfl ?_ | refine x_aload_nQ hx hb d_M_way_146 hl rfl ?_
                          refine m_get hx hb hts hown hK hw ci_M (rf_at hI 0 (by decide) rfl) 10 (by decide) (wm3 82 rfl rfl) rfl d_M_way_147 ?_
                          refine x_iload hx hb d_M_way_150 hl rfl ?_
                          refine rl_10 hx hb hK hI hB hw (by omega) d_M_way_152 (fun hv152 => ?_)
                          refine x_icmp_ne hx hb d_M_way_153 rfl (by omega) (by omega) (fun h153 => ?_) (fun h153 => ?_)
                          · refine lv_iconst (v := nI 3) hx hb d_M_way_160 (by decide) ?_
                            exact x_reti hQ hx hb hr hlk rfl hw (by omega) (by omega) d_M_way_161 (⟨congrArg nI (by unfold wy wyf; rw [if_neg h53, if_neg h61]; first | exact (if_pos ⟨⟨h67, h72, h77, h87, h98, h109⟩, h137, h153⟩).symm | exact (if_neg (by omega)).symm), rfl⟩)
                          · refine lv_iconst (v := nI 2) hx hb d_M_way_156 (by decide) ?_
                            refine lv_goto hx hb d_M_way_157 rfl ?_
                            exact x_reti hQ hx hb hr hlk rfl hw (by omega) (by omega) d_M_way_161 (⟨congrArg nI (by unfold wy wyf; rw [if_neg h53, if_neg h61]; first | exact (if_pos ⟨⟨h67, h72, h77, h87, h98, h109⟩, h137, h153⟩).symm | exact (if_neg (by omega)).symm), rfl⟩)
                · refine lv_iconst (v := nI 1) hx hb d_M_way_112 (by decide) ?_
                  refine lv_goto hx hb d_M_way_113 rfl ?_
                  refine x_istore hx hb d_M_way_117 hl (Nat.le_of_ble_eq_true rfl) (lh_k (i := 5) rfl (by first | exact lk_n | exact lk_i | exact lk_r | exact lk_q | exact lk_0)) (fun ls hl => ?_)
                  refine x_iload hx hb d_M_way_119 hl rfl ?_
                  refine x_if_eq hx hb d_M_way_121 rfl (by omega) (fun h121 => ?_) (fun h121 => ?_)
                  · first
                      | exact absurd h121 (by omega)
                      | refine lv_iconst (v := nI 3) hx hb d_M_way_160 (by decide) ?_
                        exact x_reti hQ hx hb hr hlk rfl hw (by omega) (by omega) d_M_way_161 (⟨congrArg nI (by unfold wy wyf; rw [if_neg h53, if_neg h61]; first | exact (if_pos ⟨⟨h67, h72, h77, h87, h98, h109⟩, h137, h153⟩).symm | exact (if_neg (by omega)).symm), rfl⟩)
                  · first
                      | exact absurd h121 (by omega)
                      | first | refine x_aload_n hx hb d_M_way_124 hl rfl ?_ | refine x_aload_nQ hx hb d_M_way_124 hl rfl ?_
                        refine m_get hx hb hts hown hK hw ci_M (rf_at hI 0 (by decide) rfl) 10 (by decide) (wm3 82 rfl rfl) rfl d_M_way_125 ?_
                        refine x_iload_n hx hb d_M_way_128 hl rfl ?_
                        refine rl_10 hx hb hK hI hB hw (by omega) d_M_way_129 (fun hv129 => ?_)
                        first | refine x_aload_n hx hb d_M_way_130 hl rfl ?_ | refine x_aload_nQ hx hb d_M_way_130 hl rfl ?_
                        refine m_get hx hb hts hown hK hw ci_M (rf_at hI 0 (by decide) rfl) 10 (by decide) (wm3 82 rfl rfl) rfl d_M_way_131 ?_
                        refine x_iload hx hb d_M_way_134 hl rfl ?_
                        refine rl_10 hx hb hK hI hB hw (by omega) d_M_way_136 (fun hv136 => ?_)
                        refine x_icmp_ne hx hb d_M_way_137 rfl (by omega) (by omega) (fun h137 => ?_) (fun h137 => ?_)
                        · refine lv_iconst (v := nI 3) hx hb d_M_way_160 (by decide) ?_
                          exact x_reti hQ hx hb hr hlk rfl hw (by omega) (by omega) d_M_way_161 (⟨congrArg nI (by unfold wy wyf; rw [if_neg h53, if_neg h61]; first | exact (if_pos ⟨⟨h67, h72, h77, h87, h98, h109⟩, h137, h153⟩).symm | exact (if_neg (by omega)).symm), rfl⟩)
                        · first | refine x_aload_n hx hb d_M_way_140 hl rfl ?_ | refine x_aload_nQ hx hb d_M_way_140 hl rfl ?_
                          refine m_get hx hb hts hown hK hw ci_M (rf_at hI 0 (by decide) rfl) 10 (by decide) (wm3 82 rfl rfl) rfl d_M_way_141 ?_
                          refine x_iload_n hx hb d_M_way_144 hl rfl ?_
                          refine rl_10 hx hb hK hI hB hw (by omega) d_M_way_145 (fun hv145 => ?_)
                          first | refine x_aload_n hx hb d_M_way_146 hl rfl ?_ | refine x_aload_nQ hx hb d_M_way_146 hl rfl ?_
                          refine m_get hx hb hts hown hK hw ci_M (rf_at hI 0 (by decide) rfl) 10 (by decide) (wm3 82 rfl rfl) rfl d_M_way_147 ?_
                          refine x_iload hx hb d_M_way_150 hl rfl ?_
                          refine rl_10 hx hb hK hI hB hw (by omega) d_M_way_152 (fun hv152 => ?_)
                          refine x_icmp_ne hx hb d_M_way_153 rfl (by omega) (by omega) (fun h153 => ?_) (fun h153 => ?_)
                          · refine lv_iconst (v := nI 3) hx hb d_M_way_160 (by decide) ?_
                            exact x_reti hQ hx hb hr hlk rfl hw (by omega) (by omega) d_M_way_161 (⟨congrArg nI (by unfold wy wyf; rw [if_neg h53, if_neg h61]; first | exact (if_pos ⟨⟨h67, h72, h77, h87, h98, h109⟩, h137, h153⟩).symm | exact (if_neg (by omega)).symm), rfl⟩)
                          · refine lv_iconst (v := nI 2) hx hb d_M_way_156 (by decide) ?_
                            refine lv_goto hx hb d_M_way_157 rfl ?_
                            exact x_reti hQ hx hb hr hlk rfl hw (by omega) (by omega) d_M_way_161 (⟨congrArg nI (by unfold wy wyf; rw [if_neg h53, if_neg h61]; first | exact (if_pos ⟨⟨h67, h72, h77, h87, h98, h109⟩, h137, h153⟩).symm | exact (if_neg (by omega)).symm), rfl⟩)
    · refine lv_iconst (v := nI 1) hx hb d_M_way_64 (by decide) ?_
      exact x_reti hQ hx hb hr hlk rfl hw (by omega) (by omega) d_M_way_65 (⟨congrArg nI (by unfold wy wyf; rw [if_neg h53]; exact (if_pos h61).symm), rfl⟩)
  · refine lv_iconst (v := nI 0) hx hb d_M_way_56 (by decide) ?_
    exact x_reti hQ hx hb hr hlk rfl hw (by omega) (by omega) d_M_way_57 (⟨congrArg nI (by unfold wy wyf; exact (if_pos h53).symm), rfl⟩)

set_option maxHeartbeats 4000000 in
set_option maxRecDepth 100000 in
theorem c_M_take {l : Launch} {E : Ev} {σ : SS} {ad : Nat → Nat} (hI : rfI ad) (hB : rB σ) {sz : Nat} {t q : Nat} (ht : t < 3) (hq : q < 125) (hy : σ 1 0 ≤ 15) : MCv l E y_M_take prog_10_method_22_code 4 none 2 41 0 0 [.ref (ad 0), .int (nI t), .int (nI q)] (rfM E σ ad) sz (fun M' => M' = rfM E (tkn σ t q 125) ad ∧ rB (tkn σ t q 125)) := by
  refine mc_of R_M rfl [some (.ref (ad 0)), some (.int (nI t)), some (.int (nI q)), none] (by decide) (Nat.le_of_ble_eq_true rfl) rfl ?_
  intro p e R s m ag below meth c ls Q A X hAe hQ hR hsz hw hl
  rw [← hAe] at hQ
  obtain ⟨⟨hx, hb, hml, hown, hts⟩, hE, hA, hr, hlk, hnm⟩ := X
  have hK := hE.1
  have loop : ∀ (k i : Nat) (H : Heap) (locs : List Loc) (ls : Array Slot), i + k = 125 → mw E.1 vwCl A s.heap (rfM E (tkn σ t q i) ad) H locs → lh ls [some (.ref (ad 0)), some (.int (nI t)), some (.int (nI q)), some (.int (nI i))] → W p l e R s m ag below meth c H locs 0 0 Q (F0 m 2 ls []) := by
    intro k
    induction k with
    | zero =>
      intro i H locs ls hi hw hl
      obtain rfl : i = 125 := by omega
      refine x_iload_n hx hb d_M_take_2 hl rfl ?_
      refine lv_bipush (v := nI 125) hx hb d_M_take_3 (by decide) ?_
      refine x_icmp_ge hx hb d_M_take_5 rfl (by omega) (by omega) (fun h5 => ?_) (fun h5 => ?_)
      · exact x_retv hQ hx hb hr hlk hw (by omega) (by omega) d_M_take_58 (⟨rfl, rB_rng (fun k => hB 0 _ (by decide) (by decide)) hB⟩)
      · exact absurd h5 (by omega)
    | succ k ih =>
      intro i H locs ls hi hw hl
      have hB0 := hB
      have hB : rB (tkn σ t q i) := rB_rng (fun k => hB0 0 _ (by decide) (by decide)) hB0
      refine x_iload_n hx hb d_M_take_2 hl rfl ?_
      refine lv_bipush (v := nI 125) hx hb d_M_take_3 (by decide) ?_
      refine x_icmp_ge hx hb d_M_take_5 rfl (by omega) (by omega) (fun h5 => ?_) (fun h5 => ?_)
      · exact absurd h5 (by omega)
      · refine x_iload_n hx hb d_M_take_8 hl rfl ?_
        refine m_calli (k_S ⟨hx, hb, hml, hown, hts⟩ hE hA hw (c_M_good) (wm3 161 rfl rfl) (wm3 162 rfl rfl) (wm1 9 rfl rfl) (wm3 163 rfl rfl) rfl rfl ar_M_good ⟨Nat.le_trans (Nat.le_of_ble_eq_true rfl) hR.1, Nat.le_trans (Nat.le_of_ble_eq_true rfl) hR.2.1⟩ rfl hl.1 rfl (Nat.le_of_ble_eq_true rfl) d_M_take_9 ⟨Nat.le_trans (Nat.le_of_ble_eq_true rfl) hR.2.2.1, Nat.le_trans (Nat.le_of_ble_eq_true rfl) hR.2.2.2⟩) hw (mfr_in hw hA) (fun r9 M9 H locs hP9 hw => ?_)
        obtain ⟨rfl, hM9⟩ := hP9
        rw [hM9] at hw
        refine x_if_eqB hx hb d_M_take_12 rfl (fun h12 => ?_) (fun h12 => ?_)
        · rw [ix_n (by omega)] at h12
          have hcl := rng_f (σ := σ) (t := t) (i := i) (g := fun w => pgb w && pun w q) (v := fun w => σ 0 (125 * σ 1 0 + w)) (by simp [h12])
          refine x_iincN hx hb d_M_take_52 hl rfl (lh_k (i := 2) rfl (by first | exact lk_n | exact lk_i | exact lk_r | exact lk_q | exact lk_0)) (fun ls hl => ?_)
          refine lv_goto hx hb d_M_take_55 rfl ?_
          have hw2 : mw E.1 vwCl A s.heap (rfM E (tkn σ t q (i + 1)) ad) H locs := by
            unfold tkn at hw ⊢
            rw [← hcl]
            exact hw
          exact ih (i + 1) H locs ls (by omega) hw2 hl
        · rw [ix_n (by omega)] at h12
          refine x_iload_n hx hb d_M_take_15 hl rfl ?_
          refine x_iload_n hx hb d_M_take_16 hl rfl ?_
          refine m_calli (k_S ⟨hx, hb, hml, hown, hts⟩ hE hA hw (c_M_under (by omega) (by omega)) (wm3 193 rfl rfl) (wm3 194 rfl rfl) (wm1 9 rfl rfl) (wm3 195 rfl rfl) rfl rfl ar_M_under ⟨Nat.le_trans (Nat.le_of_ble_eq_true rfl) hR.1, Nat.le_trans (Nat.le_of_ble_eq_true rfl) hR.2.1⟩ rfl hl.1 rfl (Nat.le_of_ble_eq_true rfl) d_M_take_17 ⟨Nat.le_trans (Nat.le_of_ble_eq_true rfl) hR.2.2.1, Nat.le_trans (Nat.le_of_ble_eq_true rfl) hR.2.2.2⟩) hw (mfr_in hw hA) (fun r17 M17 H locs hP17 hw => ?_)
          obtain ⟨rfl, hM17⟩ := hP17
          rw [hM17] at hw
          refine x_if_eqB hx hb d_M_take_20 rfl (fun h20 => ?_) (fun h20 => ?_)
          · have hcl := rng_f (σ := σ) (t := t) (i := i) (g := fun w => pgb w && pun w q) (v := fun w => σ 0 (125 * σ 1 0 + w)) (by simp [h20])
            refine x_iincN hx hb d_M_take_52 hl rfl (lh_k (i := 2) rfl (by first | exact lk_n | exact lk_i | exact lk_r | exact lk_q | exact lk_0)) (fun ls hl => ?_)
            refine lv_goto hx hb d_M_take_55 rfl ?_
            have hw2 : mw E.1 vwCl A s.heap (rfM E (tkn σ t q (i + 1)) ad) H locs := by
              unfold tkn at hw ⊢
              rw [← hcl]
              exact hw
            exact ih (i + 1) H locs ls (by omega) hw2 hl
          · first | refine x_aload_n hx hb d_M_take_23 hl rfl ?_ | refine x_aload_nQ hx hb d_M_take_23 hl rfl ?_
            refine m_get hx hb hts hown hK hw ci_M (rf_at hI 0 (by decide) rfl) 0 (by decide) (wm3 72 rfl rfl) rfl d_M_take_24 ?_
            refine lv_sipush (v := nI 2000) hx hb d_M_take_27 (by decide) ?_
            refine lv_bipush (v := nI 125) hx hb d_M_take_30 (by decide) ?_
            refine x_iload_n hx hb d_M_take_32 hl rfl ?_
            first | refine x_imul hx hb d_M_take_33 ?_ | refine lv_imul hx hb d_M_take_33 ?_
            first | refine x_iadd hx hb d_M_take_34 ?_ | refine lv_iadd hx hb d_M_take_34 ?_
            refine x_iload_n hx hb d_M_take_35 hl rfl ?_
            first | refine x_iadd hx hb d_M_take_36 ?_ | refine lv_iadd hx hb d_M_take_36 ?_
            first | refine x_aload_n hx hb d_M_take_37 hl rfl ?_ | refine x_aload_nQ hx hb d_M_take_37 hl rfl ?_
            refine m_get hx hb hts hown hK hw ci_M (rf_at hI 0 (by decide) rfl) 0 (by decide) (wm3 72 rfl rfl) rfl d_M_take_38 ?_
            refine lv_bipush (v := nI 125) hx hb d_M_take_41 (by decide) ?_
            first | refine x_aload_n hx hb d_M_take_43 hl rfl ?_ | refine x_aload_nQ hx hb d_M_take_43 hl rfl ?_
            refine m_get (v := .int (nI (σ 1 0))) hx hb hts hown hK hw ci_M (rf_at hI 0 (by decide) rfl) 1 (by decide) (wm3 73 rfl rfl) rfl d_M_take_44 ?_
            first | refine x_imul hx hb d_M_take_47 ?_ | refine lv_imul hx hb d_M_take_47 ?_
            refine x_iload_n hx hb d_M_take_48 hl rfl ?_
            first | refine x_iadd hx hb d_M_take_49 ?_ | refine lv_iadd hx hb d_M_take_49 ?_
            refine rl_0 hx hb hK hI hB hw (by omega) d_M_take_50 (fun hv50 => ?_)
            have hlo : tkn σ t q i 0 (125 * σ 1 0 + i) = σ 0 (125 * σ 1 0 + i) := rng_lo (by omega)
            rw [hlo]
            refine rs_0 hx hb hK hI hB hw (by omega) (by omega) d_M_take_51 (fun H locs hw hB => ?_)
            have hcl := rng_t (σ := σ) (t := t) (i := i) (g := fun w => pgb w && pun w q) (v := fun w => σ 0 (125 * σ 1 0 + w)) (by simp [h12, h20])
            refine x_iincN hx hb d_M_take_52 hl rfl (lh_k (i := 2) rfl (by first | exact lk_n | exact lk_i | exact lk_r | exact lk_q | exact lk_0)) (fun ls hl => ?_)
            refine lv_goto hx hb d_M_take_55 rfl ?_
            have hw2 : mw E.1 vwCl A s.heap (rfM E (tkn σ t q (i + 1)) ad) H locs := by
              unfold tkn at hw ⊢
              rw [← hcl]
              exact hw
            exact ih (i + 1) H locs ls (by omega) hw2 hl
  refine lv_iconst (v := nI 0) hx hb d_M_take_0 (by decide) ?_
  refine x_istore_n hx hb d_M_take_1 hl (Nat.le_of_ble_eq_true rfl) (lh_k (i := 2) rfl (by first | exact lk_n | exact lk_i | exact lk_r | exact lk_q | exact lk_0)) (fun ls hl => ?_)
  exact loop 125 0 _ _ _ (by omega) (by unfold tkn; rw [rng_0]; exact hw) hl

set_option maxHeartbeats 4000000 in
set_option maxRecDepth 100000 in
theorem c_M_join {l : Launch} {E : Ev} {σ : SS} {ad : Nat → Nat} (hI : rfI ad) (hB : rB σ) {sz : Nat} {t q : Nat} (ht : t < 3) (hq : q < 125) (hc : σ 11 (σ 0 (125 * σ 1 0 + q)) + 1 < 32768) (hy : σ 1 0 ≤ 15) (hN : ∀ j, σ 0 j < 1300) : MCv l E y_M_join prog_10_method_23_code 5 none 0 0 0 0 [.ref (ad 0), .int (nI t), .int (nI q)] (rfM E σ ad) sz (fun M' => M' = rfM E (jn σ t q) ad ∧ rB (jn σ t q)) := by
  refine mc_of R_M rfl [some (.ref (ad 0)), some (.int (nI t)), some (.int (nI q)), none, none] (by decide) (Nat.le_of_ble_eq_true rfl) rfl ?_
  intro p e R s m ag below meth c ls Q A X hAe hQ hR hsz hw hl
  rw [← hAe] at hQ
  obtain ⟨⟨hx, hb, hml, hown, hts⟩, hE, hA, hr, hlk, hnm⟩ := X
  have hK := hE.1
  first | refine x_aload_n hx hb d_M_join_0 hl rfl ?_ | refine x_aload_nQ hx hb d_M_join_0 hl rfl ?_
  refine m_get hx hb hts hown hK hw ci_M (rf_at hI 0 (by decide) rfl) 0 (by decide) (wm3 72 rfl rfl) rfl d_M_join_1 ?_
  refine lv_sipush (v := nI 2000) hx hb d_M_join_4 (by decide) ?_
  refine lv_bipush (v := nI 125) hx hb d_M_join_7 (by decide) ?_
  refine x_iload_n hx hb d_M_join_9 hl rfl ?_
  first | refine x_imul hx hb d_M_join_10 ?_ | refine lv_imul hx hb d_M_join_10 ?_
  first | refine x_iadd hx hb d_M_join_11 ?_ | refine lv_iadd hx hb d_M_join_11 ?_
  refine x_iload_n hx hb d_M_join_12 hl rfl ?_
  first | refine x_iadd hx hb d_M_join_13 ?_ | refine lv_iadd hx hb d_M_join_13 ?_
  refine rl_0 hx hb hK hI hB hw (by omega) d_M_join_14 (fun hv14 => ?_)
  refine x_istore_n hx hb d_M_join_15 hl (Nat.le_of_ble_eq_true rfl) (lh_k (i := 2) rfl (by first | exact lk_n | exact lk_i | exact lk_r | exact lk_q | exact lk_0)) (fun ls hl => ?_)
  have n3 := hN (2000 + 125 * t + q)
  first | refine x_aload_n hx hb d_M_join_16 hl rfl ?_ | refine x_aload_nQ hx hb d_M_join_16 hl rfl ?_
  refine m_get hx hb hts hown hK hw ci_M (rf_at hI 0 (by decide) rfl) 0 (by decide) (wm3 72 rfl rfl) rfl d_M_join_17 ?_
  refine lv_bipush (v := nI 125) hx hb d_M_join_20 (by decide) ?_
  first | refine x_aload_n hx hb d_M_join_22 hl rfl ?_ | refine x_aload_nQ hx hb d_M_join_22 hl rfl ?_
  refine m_get hx hb hts hown hK hw ci_M (rf_at hI 0 (by decide) rfl) 1 (by decide) (wm3 73 rfl rfl) rfl d_M_join_23 ?_
  have hs23 := hB 1 0 (by decide) (by decide)
  first | refine x_imul hx hb d_M_join_26 ?_ | refine lv_imul hx hb d_M_join_26 ?_
  refine x_iload_n hx hb d_M_join_27 hl rfl ?_
  first | refine x_iadd hx hb d_M_join_28 ?_ | refine lv_iadd hx hb d_M_join_28 ?_
  refine rl_0 hx hb hK hI hB hw (by omega) d_M_join_29 (fun hv29 => ?_)
  refine x_istore hx hb d_M_join_30 hl (Nat.le_of_ble_eq_true rfl) (lh_k (i := 3) rfl (by first | exact lk_n | exact lk_i | exact lk_r | exact lk_q | exact lk_0)) (fun ls hl => ?_)
  have n2 := hN (125 * σ 1 0 + q)
  first | refine x_aload_n hx hb d_M_join_32 hl rfl ?_ | refine x_aload_nQ hx hb d_M_join_32 hl rfl ?_
  refine m_get hx hb hts hown hK hw ci_M (rf_at hI 0 (by decide) rfl) 13 (by decide) (wm3 85 rfl rfl) rfl d_M_join_33 ?_
  refine x_iload_n hx hb d_M_join_36 hl rfl ?_
  refine x_iload hx hb d_M_join_37 hl rfl ?_
  first | refine x_i2s hx hb d_M_join_39 (by omega) ?_ | refine lv_i2s hx hb d_M_join_39 rfl ?_
  refine rs_13 hx hb hK hI hB hw (by omega) (by omega) d_M_join_40 (fun H locs hw hB => ?_)
  first | refine x_aload_n hx hb d_M_join_41 hl rfl ?_ | refine x_aload_nQ hx hb d_M_join_41 hl rfl ?_
  refine m_get hx hb hts hown hK hw ci_M (rf_at hI 0 (by decide) rfl) 11 (by decide) (wm3 83 rfl rfl) rfl d_M_join_42 ?_
  refine x_iload_n hx hb d_M_join_45 hl rfl ?_
  first | refine x_aload_n hx hb d_M_join_46 hl rfl ?_ | refine x_aload_nQ hx hb d_M_join_46 hl rfl ?_
  refine m_get hx hb hts hown hK hw ci_M (rf_at hI 0 (by decide) rfl) 11 (by decide) (wm3 83 rfl rfl) rfl d_M_join_47 ?_
  refine x_iload hx hb d_M_join_50 hl rfl ?_
  refine rl_11 hx hb hK hI hB hw (by omega) d_M_join_52 (fun hv52 => ?_)
  refine lv_iconst (v := nI 1) hx hb d_M_join_53 (by decide) ?_
  first | refine x_iadd hx hb d_M_join_54 ?_ | refine lv_iadd hx hb d_M_join_54 ?_
  refine x_i2s hx hb d_M_join_55 (show _ from hc) ?_
  refine rs_11 hx hb hK hI hB hw (by omega) hc d_M_join_56 (fun H locs hw hB => ?_)
  exact x_retv hQ hx hb hr hlk hw (by omega) (by omega) d_M_join_57 (⟨rfl, hB⟩)

set_option maxHeartbeats 4000000 in
set_option maxRecDepth 100000 in
theorem c_M_settle {l : Launch} {E : Ev} {σ : SS} {ad : Nat → Nat} (hI : rfI ad) (hB : rB σ) {sz : Nat} {t q w : Nat} {d : Bool} (ht : t < 3) (hq : q < 125) (hw9 : w < 32768) (hc : σ 11 (σ 0 (125 * σ 1 0 + q)) + 1 < 32768) (hy : σ 1 0 ≤ 15) (hN : ∀ j, σ 0 j < 1300) : MCv l E y_M_settle prog_10_method_24_code 5 none 3 64 0 0 [.ref (ad 0), .int (nI t), .int (nI q), .int (nI w), .int (bz d)] (rfM E σ ad) sz (fun M' => M' = rfM E (stl σ t q w d) ad ∧ rB (stl σ t q w d)) := by
  refine mc_of R_M rfl [some (.ref (ad 0)), some (.int (nI t)), some (.int (nI q)), some (.int (nI w)), some (.int (bz d))] (by decide) (Nat.le_of_ble_eq_true rfl) rfl ?_
  intro p e R s m ag below meth c ls Q A X hAe hQ hR hsz hw hl
  rw [← hAe] at hQ
  obtain ⟨⟨hx, hb, hml, hown, hts⟩, hE, hA, hr, hlk, hnm⟩ := X
  have hK := hE.1
  refine x_iload_n hx hb d_M_settle_0 hl rfl ?_
  refine lv_iconst (v := nI 1) hx hb d_M_settle_1 (by decide) ?_
  refine x_icmp_ne hx hb d_M_settle_2 rfl (by omega) (by omega) (fun h2 => ?_) (fun h2 => ?_)
  · refine x_iload_n hx hb d_M_settle_16 hl rfl ?_
    refine lv_iconst (v := nI 2) hx hb d_M_settle_17 (by decide) ?_
    refine x_icmp_ne hx hb d_M_settle_18 rfl (by omega) (by omega) (fun h18 => ?_) (fun h18 => ?_)
    · first
        | exact absurd h18 (by omega)
        | exact x_retv hQ hx hb hr hlk hw (by omega) (by omega) d_M_settle_32 (by first | (subst h7; rw [stl_f]; exact ⟨rfl, hB⟩) | (subst h23; rw [stl_f]; exact ⟨rfl, hB⟩) | (subst h7; rw [stl_1 h2]; exact ⟨rfl, hB⟩) | (subst h23; rw [stl_2 h18]; exact ⟨rfl, hB⟩) | (cases d with | false => (rw [stl_f]; exact ⟨rfl, hB⟩) | true => (rw [stl_0 h2 h18]; exact ⟨rfl, hB⟩)))
    · first
        | exact absurd h18 (by omega)
        | refine x_iload hx hb d_M_settle_21 hl rfl ?_
          refine x_if_eqB hx hb d_M_settle_23 rfl (fun h23 => ?_) (fun h23 => ?_)
          · exact x_retv hQ hx hb hr hlk hw (by omega) (by omega) d_M_settle_32 (by first | (subst h7; rw [stl_f]; exact ⟨rfl, hB⟩) | (subst h23; rw [stl_f]; exact ⟨rfl, hB⟩) | (subst h7; rw [stl_1 h2]; exact ⟨rfl, hB⟩) | (subst h23; rw [stl_2 h18]; exact ⟨rfl, hB⟩) | (cases d with | false => (rw [stl_f]; exact ⟨rfl, hB⟩) | true => (rw [stl_0 h2 h18]; exact ⟨rfl, hB⟩)))
          · first | refine x_aload_n hx hb d_M_settle_26 hl rfl ?_ | refine x_aload_nQ hx hb d_M_settle_26 hl rfl ?_
            refine x_iload_n hx hb d_M_settle_27 hl rfl ?_
            refine x_iload_n hx hb d_M_settle_28 hl rfl ?_
            refine m_callv (k_V ⟨hx, hb, hml, hown, hts⟩ hE hA hw (c_M_join hI hB (by omega) (by omega) hc hy hN) (ci_M).1 rfl (rf_at hI 0 (by decide) rfl) (wm3 227 rfl rfl) (wm3 229 rfl rfl) (wmp2 15 rfl) (wm1 9 rfl rfl) (wm3 230 rfl rfl) rfl rfl ar_M_join ⟨Nat.le_trans (Nat.le_of_ble_eq_true rfl) hR.1, Nat.le_trans (Nat.le_of_ble_eq_true rfl) hR.2.1⟩ rfl hl.1 rfl (Nat.le_of_ble_eq_true rfl) d_M_settle_29 ⟨Nat.le_trans (Nat.le_of_ble_eq_true rfl) hR.2.2.1, Nat.le_trans (Nat.le_of_ble_eq_true rfl) hR.2.2.2⟩) hw (mfr_in hw hA) (fun M29 H locs hP29 hw => ?_)
            obtain ⟨hM29, hB⟩ := hP29
            rw [hM29] at hw
            exact x_retv hQ hx hb hr hlk hw (by omega) (by omega) d_M_settle_32 (by first | (subst h7; rw [stl_f]; exact ⟨rfl, hB⟩) | (subst h23; rw [stl_f]; exact ⟨rfl, hB⟩) | (subst h7; rw [stl_1 h2]; exact ⟨rfl, hB⟩) | (subst h23; rw [stl_2 h18]; exact ⟨rfl, hB⟩) | (cases d with | false => (rw [stl_f]; exact ⟨rfl, hB⟩) | true => (rw [stl_0 h2 h18]; exact ⟨rfl, hB⟩)))
  · refine x_iload hx hb d_M_settle_5 hl rfl ?_
    refine x_if_eqB hx hb d_M_settle_7 rfl (fun h7 => ?_) (fun h7 => ?_)
    · refine x_iload_n hx hb d_M_settle_16 hl rfl ?_
      refine lv_iconst (v := nI 2) hx hb d_M_settle_17 (by decide) ?_
      refine x_icmp_ne hx hb d_M_settle_18 rfl (by omega) (by omega) (fun h18 => ?_) (fun h18 => ?_)
      · first
          | exact absurd h18 (by omega)
          | exact x_retv hQ hx hb hr hlk hw (by omega) (by omega) d_M_settle_32 (by first | (subst h7; rw [stl_f]; exact ⟨rfl, hB⟩) | (subst h23; rw [stl_f]; exact ⟨rfl, hB⟩) | (subst h7; rw [stl_1 h2]; exact ⟨rfl, hB⟩) | (subst h23; rw [stl_2 h18]; exact ⟨rfl, hB⟩) | (cases d with | false => (rw [stl_f]; exact ⟨rfl, hB⟩) | true => (rw [stl_0 h2 h18]; exact ⟨rfl, hB⟩)))
      · first
          | exact absurd h18 (by omega)
          | refine x_iload hx hb d_M_settle_21 hl rfl ?_
            refine x_if_eqB hx hb d_M_settle_23 rfl (fun h23 => ?_) (fun h23 => ?_)
            · exact x_retv hQ hx hb hr hlk hw (by omega) (by omega) d_M_settle_32 (by first | (subst h7; rw [stl_f]; exact ⟨rfl, hB⟩) | (subst h23; rw [stl_f]; exact ⟨rfl, hB⟩) | (subst h7; rw [stl_1 h2]; exact ⟨rfl, hB⟩) | (subst h23; rw [stl_2 h18]; exact ⟨rfl, hB⟩) | (cases d with | false => (rw [stl_f]; exact ⟨rfl, hB⟩) | true => (rw [stl_0 h2 h18]; exact ⟨rfl, hB⟩)))
            · first | refine x_aload_n hx hb d_M_settle_26 hl rfl ?_ | refine x_aload_nQ hx hb d_M_settle_26 hl rfl ?_
              refine x_iload_n hx hb d_M_settle_27 hl rfl ?_
              refine x_iload_n hx hb d_M_settle_28 hl rfl ?_
              refine m_callv (k_V ⟨hx, hb, hml, hown, hts⟩ hE hA hw (c_M_join hI hB (by omega) (by omega) hc hy hN) (ci_M).1 rfl (rf_at hI 0 (by decide) rfl) (wm3 227 rfl rfl) (wm3 229 rfl rfl) (wmp2 15 rfl) (wm1 9 rfl rfl) (wm3 230 rfl rfl) rfl rfl ar_M_join ⟨Nat.le_trans (Nat.le_of_ble_eq_true rfl) hR.1, Nat.le_trans (Nat.le_of_ble_eq_true rfl) hR.2.1⟩ rfl hl.1 rfl (Nat.le_of_ble_eq_true rfl) d_M_settle_29 ⟨Nat.le_trans (Nat.le_of_ble_eq_true rfl) hR.2.2.1, Nat.le_trans (Nat.le_of_ble_eq_true rfl) hR.2.2.2⟩) hw (mfr_in hw hA) (fun M29 H locs hP29 hw => ?_)
              obtain ⟨hM29, hB⟩ := hP29
              rw [hM29] at hw
              exact x_retv hQ hx hb hr hlk hw (by omega) (by omega) d_M_settle_32 (by first | (subst h7; rw [stl_f]; exact ⟨rfl, hB⟩) | (subst h23; rw [stl_f]; exact ⟨rfl, hB⟩) | (subst h7; rw [stl_1 h2]; exact ⟨rfl, hB⟩) | (subst h23; rw [stl_2 h18]; exact ⟨rfl, hB⟩) | (cases d with | false => (rw [stl_f]; exact ⟨rfl, hB⟩) | true => (rw [stl_0 h2 h18]; exact ⟨rfl, hB⟩)))
    · first | refine x_aload_n hx hb d_M_settle_10 hl rfl ?_ | refine x_aload_nQ hx hb d_M_settle_10 hl rfl ?_
      refine x_iload_n hx hb d_M_settle_11 hl rfl ?_
      refine x_iload_n hx hb d_M_settle_12 hl rfl ?_
      refine m_callv (k_V ⟨hx, hb, hml, hown, hts⟩ hE hA hw (c_M_take hI hB (by omega) (by omega) hy) (ci_M).1 rfl (rf_at hI 0 (by decide) rfl) (wm3 223 rfl rfl) (wm3 225 rfl rfl) (wmp2 14 rfl) (wm1 9 rfl rfl) (wm3 226 rfl rfl) rfl rfl ar_M_take ⟨Nat.le_trans (Nat.le_of_ble_eq_true rfl) hR.1, Nat.le_trans (Nat.le_of_ble_eq_true rfl) hR.2.1⟩ rfl hl.1 rfl (Nat.le_of_ble_eq_true rfl) d_M_settle_13 ⟨Nat.le_trans (Nat.le_of_ble_eq_true rfl) hR.2.2.1, Nat.le_trans (Nat.le_of_ble_eq_true rfl) hR.2.2.2⟩) hw (mfr_in hw hA) (fun M13 H locs hP13 hw => ?_)
      obtain ⟨hM13, hB⟩ := hP13
      rw [hM13] at hw
      refine x_iload_n hx hb d_M_settle_16 hl rfl ?_
      refine lv_iconst (v := nI 2) hx hb d_M_settle_17 (by decide) ?_
      refine x_icmp_ne hx hb d_M_settle_18 rfl (by omega) (by omega) (fun h18 => ?_) (fun h18 => ?_)
      · first
          | exact absurd h18 (by omega)
          | exact x_retv hQ hx hb hr hlk hw (by omega) (by omega) d_M_settle_32 (by first | (subst h7; rw [stl_f]; exact ⟨rfl, hB⟩) | (subst h23; rw [stl_f]; exact ⟨rfl, hB⟩) | (subst h7; rw [stl_1 h2]; exact ⟨rfl, hB⟩) | (subst h23; rw [stl_2 h18]; exact ⟨rfl, hB⟩) | (cases d with | false => (rw [stl_f]; exact ⟨rfl, hB⟩) | true => (rw [stl_0 h2 h18]; exact ⟨rfl, hB⟩)))
      · first
          | exact absurd h18 (by omega)
          | refine x_iload hx hb d_M_settle_21 hl rfl ?_
            refine x_if_eqB hx hb d_M_settle_23 rfl (fun h23 => ?_) (fun h23 => ?_)
            · exact x_retv hQ hx hb hr hlk hw (by omega) (by omega) d_M_settle_32 (by first | (subst h7; rw [stl_f]; exact ⟨rfl, hB⟩) | (subst h23; rw [stl_f]; exact ⟨rfl, hB⟩) | (subst h7; rw [stl_1 h2]; exact ⟨rfl, hB⟩) | (subst h23; rw [stl_2 h18]; exact ⟨rfl, hB⟩) | (cases d with | false => (rw [stl_f]; exact ⟨rfl, hB⟩) | true => (rw [stl_0 h2 h18]; exact ⟨rfl, hB⟩)))
            · first | refine x_aload_n hx hb d_M_settle_26 hl rfl ?_ | refine x_aload_nQ hx hb d_M_settle_26 hl rfl ?_
              refine x_iload_n hx hb d_M_settle_27 hl rfl ?_
              refine x_iload_n hx hb d_M_settle_28 hl rfl ?_
              refine m_callv (k_V ⟨hx, hb, hml, hown, hts⟩ hE hA hw (c_M_join hI hB (by omega) (by omega) hc hy hN) (ci_M).1 rfl (rf_at hI 0 (by decide) rfl) (wm3 227 rfl rfl) (wm3 229 rfl rfl) (wmp2 15 rfl) (wm1 9 rfl rfl) (wm3 230 rfl rfl) rfl rfl ar_M_join ⟨Nat.le_trans (Nat.le_of_ble_eq_true rfl) hR.1, Nat.le_trans (Nat.le_of_ble_eq_true rfl) hR.2.1⟩ rfl hl.1 rfl (Nat.le_of_ble_eq_true rfl) d_M_settle_29 ⟨Nat.le_trans (Nat.le_of_ble_eq_true rfl) hR.2.2.1, Nat.le_trans (Nat.le_of_ble_eq_true rfl) hR.2.2.2⟩) hw (mfr_in hw hA) (fun M29 H locs hP29 hw => ?_)
              obtain ⟨hM29, hB⟩ := hP29
              rw [hM29] at hw
              exact x_retv hQ hx hb hr hlk hw (by omega) (by omega) d_M_settle_32 (by first | (subst h7; rw [stl_f]; exact ⟨rfl, hB⟩) | (subst h23; rw [stl_f]; exact ⟨rfl, hB⟩) | (subst h7; rw [stl_1 h2]; exact ⟨rfl, hB⟩) | (subst h23; rw [stl_2 h18]; exact ⟨rfl, hB⟩) | (cases d with | false => (rw [stl_f]; exact ⟨rfl, hB⟩) | true => (rw [stl_0 h2 h18]; exact ⟨rfl, hB⟩)))
end
section
/-! digits, pieces, costs, as numbers -/
section CO
theorem shl1 : ∀ k : Fin 30, nI 1 <<< (nI (k.val + 1) &&& 31) = nI (2 ^ (k.val + 1)) := by decide +kernel
theorem shl2 {k : Nat} (h : k < 30) : nI 1 <<< (nI (k + 1) &&& 31) = nI (2 ^ (k + 1)) := shl1 ⟨k, h⟩
theorem dg_and (m : Nat) : nI m &&& nI 15 = nI (m % 16) := by
  rw [pk_and (nI m) 4 (by decide)]
  have : (nI m).toBitVec.toNat = m % 2 ^ 32 := BitVec.toNat_ofNat m 32
  rw [this]
  congr 1
  omega
theorem dg_shr {X k : Nat} (hX : X < 2 ^ 48) (hk : k < 13) : lN X >>> ((nI (4 * k)).toInt64 &&& 63) = lN (X / 2 ^ (4 * k)) := by
  rw [wb_c (4 * k) (by omega)]
  refine pf_shr ?_ (by omega)
  rw [wb_tb, wb_sm (4 * k) (by omega), BitVec.toNat_ofNat]
  omega
def pcf (X n k Y m j : Nat) : Nat → Nat → Nat
  | 0, f => f
  | u + 1, f => if k + f < n ∧ j + f < m ∧ dgt X (k + f) = dgt Y (j + f) then pcf X n k Y m j u (f + 1) else f
theorem pcf_le {X n k Y m j : Nat} : ∀ u f, pcf X n k Y m j u f ≤ f + u
  | 0, f => Nat.le_refl _
  | u + 1, f => by
    unfold pcf
    split
    · have := pcf_le (X := X) (n := n) (k := k) (Y := Y) (m := m) (j := j) u (f + 1)
      omega
    · omega
def lgf (X n p Y m : Nat) : Nat → Nat → Nat → Nat
  | 0, _, L => L
  | u + 1, j, L => lgf X n p Y m u (j + 1) (if L < pcf X n p Y m j 13 0 then pcf X n p Y m j 13 0 else L)
theorem lgf_le {X n p Y m : Nat} : ∀ u j L, L ≤ 13 → lgf X n p Y m u j L ≤ 13
  | 0, _, L, h => h
  | u + 1, j, L, h => by
    unfold lgf
    refine lgf_le u (j + 1) _ ?_
    split
    · have := pcf_le (X := X) (n := n) (k := p) (Y := Y) (m := m) (j := j) 13 0
      omega
    · exact h
def csf (X n Y m : Nat) : Nat → Nat → Nat → Bool → Nat
  | 0, _, T, _ => T
  | u + 1, p, T, s => if p < n then (if 3 ≤ lgf X n p Y m m 0 0 then csf X n Y m u (p + lgf X n p Y m m 0 0) (T + 2) false else csf X n Y m u (p + 1) (T + (if s = true then 1 else 2)) true) else T
theorem csf_e {X n Y m p T : Nat} {s : Bool} (h : n ≤ p) : ∀ u, csf X n Y m u p T s = T
  | 0 => rfl
  | u + 1 => by unfold csf; rw [if_neg (by omega)]
/-- the cost of representation k -/
def cstK (σ : SS) (k : Nat) : Nat := if σ 19 k = 0 then csf (σ 17 k) (σ 18 k) 0 0 13 0 0 false else csf (σ 17 k) (σ 18 k) (σ 17 (σ 19 k - 1)) (σ 18 (σ 19 k - 1)) 13 0 0 false
def aSto (σ : SS) (x y : Int32) : Int32 :=
  if x < 0 ∨ nI (σ 16 0) ≤ x then -1 else
  if y = 0 then nI (σ 19 x.toNatClampNeg) - nI 1 else if y = nI 1 then nI (σ 20 x.toNatClampNeg) else if y = nI 2 then nI (cstK σ x.toNatClampNeg) else if y = nI 3 then nI (σ 18 x.toNatClampNeg) else -1
theorem csf_1 {X n Y m u p T : Nat} {s : Bool} (h1 : p < n) (h2 : 3 ≤ lgf X n p Y m m 0 0) : csf X n Y m (u + 1) p T s = csf X n Y m u (p + lgf X n p Y m m 0 0) (T + 2) false := by
  show (if p < n then _ else T) = _
  rw [if_pos h1, if_pos h2]
theorem csf_2 {X n Y m u p T : Nat} {s : Bool} (h1 : p < n) (h2 : lgf X n p Y m m 0 0 < 3) : csf X n Y m (u + 1) p T s = csf X n Y m u (p + 1) (T + (if s = true then 1 else 2)) true := by
  show (if p < n then _ else T) = _
  rw [if_pos h1, if_neg (by omega)]
theorem sto_1 {σ : SS} {x : Int32} (hS : σ 16 0 < 2 ^ 31) (h1 : ¬ x < 0) (h2 : x < nI (σ 16 0)) : ∃ k, k < σ 16 0 ∧ x = nI k ∧ ∀ y, aSto σ x y = if y = 0 then nI (σ 19 k) - nI 1 else if y = nI 1 then nI (σ 20 k) else if y = nI 2 then nI (cstK σ k) else if y = nI 3 then nI (σ 18 k) else -1 := by
  obtain ⟨k, hk, rfl⟩ := nI_of3 (M := nI (σ 16 0)) (n := σ 16 0) (nI_toInt hS) h1 h2
  refine ⟨k, hk, rfl, fun y => ?_⟩
  unfold aSto
  rw [if_neg, nI_clamp (by omega)]
  rintro (z | z)
  · exact h1 z
  · exact absurd z (fun z => nle_of h2 z)
end CO
end
section
theorem d_M_allowed_0 : decode prog_10_method_27_code 0 = .ok (.iconst 0, 1) := by decide +kernel
theorem d_M_allowed_1 : decode prog_10_method_27_code 1 = .ok (.istore_n 1, 1) := by decide +kernel
theorem d_M_allowed_2 : decode prog_10_method_27_code 2 = .ok (.iload_n 1, 1) := by decide +kernel
theorem d_M_allowed_3 : decode prog_10_method_27_code 3 = .ok (.bipush 20, 2) := by decide +kernel
theorem d_M_allowed_5 : decode prog_10_method_27_code 5 = .ok (.if_icmp .ge 20, 3) := by decide +kernel
theorem d_M_allowed_8 : decode prog_10_method_27_code 8 = .ok (.iconst 1, 1) := by decide +kernel
theorem d_M_allowed_9 : decode prog_10_method_27_code 9 = .ok (.iload_n 1, 1) := by decide +kernel
theorem d_M_allowed_10 : decode prog_10_method_27_code 10 = .ok (.iconst 1, 1) := by decide +kernel
theorem d_M_allowed_11 : decode prog_10_method_27_code 11 = .ok (.iadd, 1) := by decide +kernel
theorem d_M_allowed_12 : decode prog_10_method_27_code 12 = .ok (.ishl, 1) := by decide +kernel
theorem d_M_allowed_13 : decode prog_10_method_27_code 13 = .ok (.iconst 1, 1) := by decide +kernel
theorem d_M_allowed_14 : decode prog_10_method_27_code 14 = .ok (.iload_n 0, 1) := by decide +kernel
theorem d_M_allowed_15 : decode prog_10_method_27_code 15 = .ok (.iadd, 1) := by decide +kernel
theorem d_M_allowed_16 : decode prog_10_method_27_code 16 = .ok (.if_icmp .gt 9, 3) := by decide +kernel
theorem d_M_allowed_19 : decode prog_10_method_27_code 19 = .ok (.iinc 1 1, 3) := by decide +kernel
theorem d_M_allowed_22 : decode prog_10_method_27_code 22 = .ok (.goto (-20), 3) := by decide +kernel
theorem d_M_allowed_25 : decode prog_10_method_27_code 25 = .ok (.iconst 1, 1) := by decide +kernel
theorem d_M_allowed_26 : decode prog_10_method_27_code 26 = .ok (.iload_n 1, 1) := by decide +kernel
theorem d_M_allowed_27 : decode prog_10_method_27_code 27 = .ok (.iadd, 1) := by decide +kernel
theorem d_M_allowed_28 : decode prog_10_method_27_code 28 = .ok (.ireturn, 1) := by decide +kernel

theorem d_M_digit_0 : decode prog_10_method_43_code 0 = .ok (.lload_n 0, 1) := by decide +kernel
theorem d_M_digit_1 : decode prog_10_method_43_code 1 = .ok (.iconst 4, 1) := by decide +kernel
theorem d_M_digit_2 : decode prog_10_method_43_code 2 = .ok (.iload_n 2, 1) := by decide +kernel
theorem d_M_digit_3 : decode prog_10_method_43_code 3 = .ok (.imul, 1) := by decide +kernel
theorem d_M_digit_4 : decode prog_10_method_43_code 4 = .ok (.lshr, 1) := by decide +kernel
theorem d_M_digit_5 : decode prog_10_method_43_code 5 = .ok (.l2i, 1) := by decide +kernel
theorem d_M_digit_6 : decode prog_10_method_43_code 6 = .ok (.bipush 15, 2) := by decide +kernel
theorem d_M_digit_8 : decode prog_10_method_43_code 8 = .ok (.iand, 1) := by decide +kernel
theorem d_M_digit_9 : decode prog_10_method_43_code 9 = .ok (.ireturn, 1) := by decide +kernel

theorem d_M_piece_0 : decode prog_10_method_44_code 0 = .ok (.iconst 0, 1) := by decide +kernel
theorem d_M_piece_1 : decode prog_10_method_44_code 1 = .ok (.istore 8, 2) := by decide +kernel
theorem d_M_piece_3 : decode prog_10_method_44_code 3 = .ok (.iload_n 3, 1) := by decide +kernel
theorem d_M_piece_4 : decode prog_10_method_44_code 4 = .ok (.iload 8, 2) := by decide +kernel
theorem d_M_piece_6 : decode prog_10_method_44_code 6 = .ok (.iadd, 1) := by decide +kernel
theorem d_M_piece_7 : decode prog_10_method_44_code 7 = .ok (.iload_n 2, 1) := by decide +kernel
theorem d_M_piece_8 : decode prog_10_method_44_code 8 = .ok (.if_icmp .ge 40, 3) := by decide +kernel
theorem d_M_piece_11 : decode prog_10_method_44_code 11 = .ok (.iload 7, 2) := by decide +kernel
theorem d_M_piece_13 : decode prog_10_method_44_code 13 = .ok (.iload 8, 2) := by decide +kernel
theorem d_M_piece_15 : decode prog_10_method_44_code 15 = .ok (.iadd, 1) := by decide +kernel
theorem d_M_piece_16 : decode prog_10_method_44_code 16 = .ok (.iload 6, 2) := by decide +kernel
theorem d_M_piece_18 : decode prog_10_method_44_code 18 = .ok (.if_icmp .ge 30, 3) := by decide +kernel
theorem d_M_piece_21 : decode prog_10_method_44_code 21 = .ok (.lload_n 0, 1) := by decide +kernel
theorem d_M_piece_22 : decode prog_10_method_44_code 22 = .ok (.iload_n 3, 1) := by decide +kernel
theorem d_M_piece_23 : decode prog_10_method_44_code 23 = .ok (.iload 8, 2) := by decide +kernel
theorem d_M_piece_25 : decode prog_10_method_44_code 25 = .ok (.iadd, 1) := by decide +kernel
theorem d_M_piece_26 : decode prog_10_method_44_code 26 = .ok (.invokestatic 162, 3) := by decide +kernel
theorem d_M_piece_29 : decode prog_10_method_44_code 29 = .ok (.lload 4, 2) := by decide +kernel
theorem d_M_piece_31 : decode prog_10_method_44_code 31 = .ok (.iload 7, 2) := by decide +kernel
theorem d_M_piece_33 : decode prog_10_method_44_code 33 = .ok (.iload 8, 2) := by decide +kernel
theorem d_M_piece_35 : decode prog_10_method_44_code 35 = .ok (.iadd, 1) := by decide +kernel
theorem d_M_piece_36 : decode prog_10_method_44_code 36 = .ok (.invokestatic 162, 3) := by decide +kernel
theorem d_M_piece_39 : decode prog_10_method_44_code 39 = .ok (.if_icmp .ne 9, 3) := by decide +kernel
theorem d_M_piece_42 : decode prog_10_method_44_code 42 = .ok (.iinc 8 1, 3) := by decide +kernel
theorem d_M_piece_45 : decode prog_10_method_44_code 45 = .ok (.goto (-42), 3) := by decide +kernel
theorem d_M_piece_48 : decode prog_10_method_44_code 48 = .ok (.iload 8, 2) := by decide +kernel
theorem d_M_piece_50 : decode prog_10_method_44_code 50 = .ok (.ireturn, 1) := by decide +kernel
set_option maxHeartbeats 4000000 in
set_option maxRecDepth 100000 in
theorem c_M_allowed {l : Launch} {E : Ev} {M : mp_M} {sz : Nat} {q : Nat} (hq : q < 1000) : MCi l E y_M_allowed prog_10_method_27_code 2 (some .int) 0 0 0 0 [.int (nI q)] M sz (fun r M' => r = nI (1 + alw 20 q 0) ∧ M' = M) := by
  refine mc_of R_M rfl [some (.int (nI q)), none] (by decide) (Nat.le_of_ble_eq_true rfl) rfl ?_
  intro p e R s m ag below meth c ls Q A X hAe hQ hR hsz hw hl
  rw [← hAe] at hQ
  obtain ⟨⟨hx, hb, hml, hown, hts⟩, hE, hA, hr, hlk, hnm⟩ := X
  have hK := hE.1
  have loop : ∀ (n k : Nat) (H : Heap) (locs : List Loc) (ls : Array Slot), k + n = 20 → mw E.1 vwCl A s.heap M H locs → lh ls [some (.int (nI q)), some (.int (nI k))] → alw n q k = alw 20 q 0 → W p l e R s m ag below meth c H locs 0 0 Q (F0 m 2 ls []) := by
    intro n
    induction n with
    | zero =>
      intro k H locs ls hk9 hw hl hT
      have hT : k = alw 20 q 0 := hT
      refine x_iload_n hx hb d_M_allowed_2 hl rfl ?_
      refine lv_bipush (v := nI 20) hx hb d_M_allowed_3 (by decide) ?_
      refine x_icmp_ge hx hb d_M_allowed_5 rfl (by omega) (by omega) (fun h5 => ?_) (fun h5 => ?_)
      · refine lv_iconst (v := nI 1) hx hb d_M_allowed_25 (by decide) ?_
        refine x_iload_n hx hb d_M_allowed_26 hl rfl ?_
        first | refine x_iadd hx hb d_M_allowed_27 ?_ | refine lv_iadd hx hb d_M_allowed_27 ?_
        exact x_reti hQ hx hb hr hlk rfl hw (by omega) (by omega) d_M_allowed_28 (⟨by rw [hT], rfl⟩)
      · exact absurd h5 (by omega)
    | succ n ih =>
      intro k H locs ls hk9 hw hl hT
      have hp : 2 ^ (k + 1) ≤ 2 ^ 20 := Nat.pow_le_pow_right (by decide) (by omega)
      have hp2 : (2 : Nat) ^ 20 = 1048576 := by decide
      refine x_iload_n hx hb d_M_allowed_2 hl rfl ?_
      refine lv_bipush (v := nI 20) hx hb d_M_allowed_3 (by decide) ?_
      refine x_icmp_ge hx hb d_M_allowed_5 rfl (by omega) (by omega) (fun h5 => ?_) (fun h5 => ?_)
      · exact absurd h5 (by omega)
      · refine lv_iconst (v := nI 1) hx hb d_M_allowed_8 (by decide) ?_
        refine x_iload_n hx hb d_M_allowed_9 hl rfl ?_
        refine lv_iconst (v := nI 1) hx hb d_M_allowed_10 (by decide) ?_
        first | refine x_iadd hx hb d_M_allowed_11 ?_ | refine lv_iadd hx hb d_M_allowed_11 ?_
        refine lv_ishl hx hb d_M_allowed_12 ?_
        rw [shl2 (by omega)]
        refine lv_iconst (v := nI 1) hx hb d_M_allowed_13 (by decide) ?_
        refine x_iload_n hx hb d_M_allowed_14 hl rfl ?_
        first | refine x_iadd hx hb d_M_allowed_15 ?_ | refine lv_iadd hx hb d_M_allowed_15 ?_
        refine x_icmp_gt hx hb d_M_allowed_16 rfl (by omega) (by omega) (fun h16 => ?_) (fun h16 => ?_)
        · have hT2 : k = alw 20 q 0 := by
            rw [← hT]
            exact (if_neg (by omega)).symm
          refine lv_iconst (v := nI 1) hx hb d_M_allowed_25 (by decide) ?_
          refine x_iload_n hx hb d_M_allowed_26 hl rfl ?_
          first | refine x_iadd hx hb d_M_allowed_27 ?_ | refine lv_iadd hx hb d_M_allowed_27 ?_
          exact x_reti hQ hx hb hr hlk rfl hw (by omega) (by omega) d_M_allowed_28 (⟨by rw [hT2], rfl⟩)
        · have hT2 : alw n q (k + 1) = alw 20 q 0 := by
            rw [← hT]
            exact (if_pos (by omega)).symm
          refine x_iincN hx hb d_M_allowed_19 hl rfl (lh_k (i := 0) rfl (by first | exact lk_n | exact lk_i | exact lk_r | exact lk_q | exact lk_0)) (fun ls hl => ?_)
          refine lv_goto hx hb d_M_allowed_22 rfl ?_
          exact ih (k + 1) H locs ls (by omega) hw hl hT2
  refine lv_iconst (v := nI 0) hx hb d_M_allowed_0 (by decide) ?_
  refine x_istore_n hx hb d_M_allowed_1 hl (Nat.le_of_ble_eq_true rfl) (lh_k (i := 0) rfl (by first | exact lk_n | exact lk_i | exact lk_r | exact lk_q | exact lk_0)) (fun ls hl => ?_)
  exact loop 20 0 _ _ _ rfl hw hl rfl

set_option maxHeartbeats 4000000 in
set_option maxRecDepth 100000 in
theorem c_M_digit {l : Launch} {E : Ev} {M : mp_M} {sz : Nat} {X k : Nat} (hX : X < 2 ^ 48) (hk : k < 13) : MCi l E y_M_digit prog_10_method_43_code 3 (some .int) 0 0 0 0 [.long (lN X), .int (nI k)] M sz (fun r M' => r = nI (dgt X k) ∧ M' = M) := by
  refine mc_of R_M rfl [some (.long (lN X)), none, some (.int (nI k))] (by decide) (Nat.le_of_ble_eq_true rfl) rfl ?_
  intro p e R s m ag below meth c ls Q A X hAe hQ hR hsz hw hl
  rw [← hAe] at hQ
  obtain ⟨⟨hx, hb, hml, hown, hts⟩, hE, hA, hr, hlk, hnm⟩ := X
  have hK := hE.1
  refine x_lload_n hx hb d_M_digit_0 hl rfl ?_
  refine lv_iconst (v := nI 4) hx hb d_M_digit_1 (by decide) ?_
  refine x_iload_n hx hb d_M_digit_2 hl rfl ?_
  first | refine x_imul hx hb d_M_digit_3 ?_ | refine lv_imul hx hb d_M_digit_3 ?_
  refine lv_lshr hx hb d_M_digit_4 (dg_shr hX hk) ?_
  refine lv_l2i hx hb d_M_digit_5 (lN_i _) ?_
  refine lv_bipush (v := nI 15) hx hb d_M_digit_6 (by decide) ?_
  refine lv_iand hx hb d_M_digit_8 ?_
  rw [dg_and]
  exact x_reti hQ hx hb hr hlk rfl hw (by omega) (by omega) d_M_digit_9 (⟨rfl, rfl⟩)

set_option maxHeartbeats 4000000 in
set_option maxRecDepth 100000 in
theorem c_M_piece {l : Launch} {E : Ev} {M : mp_M} {sz : Nat} {X n k Y m0 j : Nat} (hX : X < 2 ^ 48) (hY : Y < 2 ^ 48) (hn : n < 13) (hk : k < 13) (hm0 : m0 < 13) (hj : j < 13) : MCi l E y_M_piece prog_10_method_44_code 9 (some .int) 1 22 0 0 [.long (lN X), .int (nI n), .int (nI k), .long (lN Y), .int (nI m0), .int (nI j)] M sz (fun r M' => r = nI (pcf X n k Y m0 j 13 0) ∧ M' = M) := by
  refine mc_of R_M rfl [some (.long (lN X)), none, some (.int (nI n)), some (.int (nI k)), some (.long (lN Y)), none, some (.int (nI m0)), some (.int (nI j)), none] (by decide) (Nat.le_of_ble_eq_true rfl) rfl ?_
  intro p e R s m ag below meth c ls Q A X hAe hQ hR hsz hw hl
  rw [← hAe] at hQ
  obtain ⟨⟨hx, hb, hml, hown, hts⟩, hE, hA, hr, hlk, hnm⟩ := X
  have hK := hE.1
  have loop : ∀ (u f : Nat) (H : Heap) (locs : List Loc) (ls : Array Slot), f + u = 13 → mw E.1 vwCl A s.heap M H locs → lh ls [some (.long (lN X)), none, some (.int (nI n)), some (.int (nI k)), some (.long (lN Y)), none, some (.int (nI m0)), some (.int (nI j)), some (.int (nI f))] → pcf X n k Y m0 j u f = pcf X n k Y m0 j 13 0 → W p l e R s m ag below meth c H locs 0 0 Q (F0 m 3 ls []) := by
    intro u
    induction u with
    | zero =>
      intro f H locs ls hf hw hl hT
      have hT : f = pcf X n k Y m0 j 13 0 := hT
      refine x_iload_n hx hb d_M_piece_3 hl rfl ?_
      refine x_iload hx hb d_M_piece_4 hl rfl ?_
      first | refine x_iadd hx hb d_M_piece_6 ?_ | refine lv_iadd hx hb d_M_piece_6 ?_
      refine x_iload_n hx hb d_M_piece_7 hl rfl ?_
      refine x_icmp_ge hx hb d_M_piece_8 rfl (by omega) (by omega) (fun h8 => ?_) (fun h8 => ?_)
      · refine x_iload hx hb d_M_piece_48 hl rfl ?_
        exact x_reti hQ hx hb hr hlk rfl hw (by omega) (by omega) d_M_piece_50 (⟨by rw [hT], rfl⟩)
      · exact absurd h8 (by omega)
    | succ u ih =>
      intro f H locs ls hf hw hl hT
      refine x_iload_n hx hb d_M_piece_3 hl rfl ?_
      refine x_iload hx hb d_M_piece_4 hl rfl ?_
      first | refine x_iadd hx hb d_M_piece_6 ?_ | refine lv_iadd hx hb d_M_piece_6 ?_
      refine x_iload_n hx hb d_M_piece_7 hl rfl ?_
      refine x_icmp_ge hx hb d_M_piece_8 rfl (by omega) (by omega) (fun h8 => ?_) (fun h8 => ?_)
      · have hT2 : f = pcf X n k Y m0 j 13 0 := by
          rw [← hT]
          exact (if_neg (by omega)).symm
        refine x_iload hx hb d_M_piece_48 hl rfl ?_
        exact x_reti hQ hx hb hr hlk rfl hw (by omega) (by omega) d_M_piece_50 (⟨by rw [hT2], rfl⟩)
      · refine x_iload hx hb d_M_piece_11 hl rfl ?_
        refine x_iload hx hb d_M_piece_13 hl rfl ?_
        first | refine x_iadd hx hb d_M_piece_15 ?_ | refine lv_iadd hx hb d_M_piece_15 ?_
        refine x_iload hx hb d_M_piece_16 hl rfl ?_
        refine x_icmp_ge hx hb d_M_piece_18 rfl (by omega) (by omega) (fun h18 => ?_) (fun h18 => ?_)
        · have hT2 : f = pcf X n k Y m0 j 13 0 := by
            rw [← hT]
            exact (if_neg (by omega)).symm
          refine x_iload hx hb d_M_piece_48 hl rfl ?_
          exact x_reti hQ hx hb hr hlk rfl hw (by omega) (by omega) d_M_piece_50 (⟨by rw [hT2], rfl⟩)
        · refine x_lload_n hx hb d_M_piece_21 hl rfl ?_
          refine x_iload_n hx hb d_M_piece_22 hl rfl ?_
          refine x_iload hx hb d_M_piece_23 hl rfl ?_
          first | refine x_iadd hx hb d_M_piece_25 ?_ | refine lv_iadd hx hb d_M_piece_25 ?_
          refine m_calli (k_S ⟨hx, hb, hml, hown, hts⟩ hE hA hw (c_M_digit hX (by omega)) (wm4 70 rfl rfl) (wm4 71 rfl rfl) (wm1 9 rfl rfl) (wm4 72 rfl rfl) rfl rfl ar_M_digit ⟨Nat.le_trans (Nat.le_of_ble_eq_true rfl) hR.1, Nat.le_trans (Nat.le_of_ble_eq_true rfl) hR.2.1⟩ rfl hl.1 rfl (Nat.le_of_ble_eq_true rfl) d_M_piece_26 ⟨Nat.le_trans (Nat.le_of_ble_eq_true rfl) hR.2.2.1, Nat.le_trans (Nat.le_of_ble_eq_true rfl) hR.2.2.2⟩) hw (mfr_in hw hA) (fun r26 M26 H locs hP26 hw => ?_)
          obtain ⟨rfl, hM26⟩ := hP26
          rw [hM26] at hw
          refine x_lload hx hb d_M_piece_29 hl rfl ?_
          refine x_iload hx hb d_M_piece_31 hl rfl ?_
          refine x_iload hx hb d_M_piece_33 hl rfl ?_
          first | refine x_iadd hx hb d_M_piece_35 ?_ | refine lv_iadd hx hb d_M_piece_35 ?_
          refine m_calli (k_S ⟨hx, hb, hml, hown, hts⟩ hE hA hw (c_M_digit hY (by omega)) (wm4 70 rfl rfl) (wm4 71 rfl rfl) (wm1 9 rfl rfl) (wm4 72 rfl rfl) rfl rfl ar_M_digit ⟨Nat.le_trans (Nat.le_of_ble_eq_true rfl) hR.1, Nat.le_trans (Nat.le_of_ble_eq_true rfl) hR.2.1⟩ rfl hl.1 rfl (Nat.le_of_ble_eq_true rfl) d_M_piece_36 ⟨Nat.le_trans (Nat.le_of_ble_eq_true rfl) hR.2.2.1, Nat.le_trans (Nat.le_of_ble_eq_true rfl) hR.2.2.2⟩) hw (mfr_in hw hA) (fun r36 M36 H locs hP36 hw => ?_)
          obtain ⟨rfl, hM36⟩ := hP36
          rw [hM36] at hw
          have hd1 : dgt X (k + f) < 16 := Nat.mod_lt _ (by decide)
          have hd2 : dgt Y (j + f) < 16 := Nat.mod_lt _ (by decide)
          refine x_icmp_ne hx hb d_M_piece_39 rfl (by omega) (by omega) (fun h39 => ?_) (fun h39 => ?_)
          · have hT2 : f = pcf X n k Y m0 j 13 0 := by
              rw [← hT]
              exact (if_neg (fun z => h39 z.2.2)).symm
            refine x_iload hx hb d_M_piece_48 hl rfl ?_
            exact x_reti hQ hx hb hr hlk rfl hw (by omega) (by omega) d_M_piece_50 (⟨by rw [hT2], rfl⟩)
          · have hT2 : pcf X n k Y m0 j u (f + 1) = pcf X n k Y m0 j 13 0 := by
              rw [← hT]
              exact (if_pos ⟨h8, h18, h39⟩).symm
            refine x_iincN hx hb d_M_piece_42 hl rfl (lh_k (i := 7) rfl (by first | exact lk_n | exact lk_i | exact lk_r | exact lk_q | exact lk_0)) (fun ls hl => ?_)
            refine lv_goto hx hb d_M_piece_45 rfl ?_
            exact ih (f + 1) H locs ls (by omega) hw hl hT2
  refine lv_iconst (v := nI 0) hx hb d_M_piece_0 (by decide) ?_
  refine x_istore hx hb d_M_piece_1 hl (Nat.le_of_ble_eq_true rfl) (lh_k (i := 7) rfl (by first | exact lk_n | exact lk_i | exact lk_r | exact lk_q | exact lk_0)) (fun ls hl => ?_)
  exact loop 13 0 _ _ _ rfl hw hl rfl
end
section
theorem d_M_cost_0 : decode prog_10_method_45_code 0 = .ok (.aload_n 0, 1) := by decide +kernel
theorem d_M_cost_1 : decode prog_10_method_45_code 1 = .ok (.getfield 59, 3) := by decide +kernel
theorem d_M_cost_4 : decode prog_10_method_45_code 4 = .ok (.iload_n 1, 1) := by decide +kernel
theorem d_M_cost_5 : decode prog_10_method_45_code 5 = .ok (.saload, 1) := by decide +kernel
theorem d_M_cost_6 : decode prog_10_method_45_code 6 = .ok (.iconst 1, 1) := by decide +kernel
theorem d_M_cost_7 : decode prog_10_method_45_code 7 = .ok (.isub, 1) := by decide +kernel
theorem d_M_cost_8 : decode prog_10_method_45_code 8 = .ok (.istore_n 2, 1) := by decide +kernel
theorem d_M_cost_9 : decode prog_10_method_45_code 9 = .ok (.iload_n 2, 1) := by decide +kernel
theorem d_M_cost_10 : decode prog_10_method_45_code 10 = .ok (.ifCond .ge 7, 3) := by decide +kernel
theorem d_M_cost_13 : decode prog_10_method_45_code 13 = .ok (.iconst 0, 1) := by decide +kernel
theorem d_M_cost_14 : decode prog_10_method_45_code 14 = .ok (.goto 9, 3) := by decide +kernel
theorem d_M_cost_17 : decode prog_10_method_45_code 17 = .ok (.aload_n 0, 1) := by decide +kernel
theorem d_M_cost_18 : decode prog_10_method_45_code 18 = .ok (.getfield 56, 3) := by decide +kernel
theorem d_M_cost_21 : decode prog_10_method_45_code 21 = .ok (.iload_n 2, 1) := by decide +kernel
theorem d_M_cost_22 : decode prog_10_method_45_code 22 = .ok (.baload, 1) := by decide +kernel
theorem d_M_cost_23 : decode prog_10_method_45_code 23 = .ok (.istore_n 3, 1) := by decide +kernel
theorem d_M_cost_24 : decode prog_10_method_45_code 24 = .ok (.iload_n 2, 1) := by decide +kernel
theorem d_M_cost_25 : decode prog_10_method_45_code 25 = .ok (.ifCond .ge 7, 3) := by decide +kernel
theorem d_M_cost_28 : decode prog_10_method_45_code 28 = .ok (.lconst 0, 1) := by decide +kernel
theorem d_M_cost_29 : decode prog_10_method_45_code 29 = .ok (.goto 9, 3) := by decide +kernel
theorem d_M_cost_32 : decode prog_10_method_45_code 32 = .ok (.aload_n 0, 1) := by decide +kernel
theorem d_M_cost_33 : decode prog_10_method_45_code 33 = .ok (.getfield 53, 3) := by decide +kernel
theorem d_M_cost_36 : decode prog_10_method_45_code 36 = .ok (.iload_n 2, 1) := by decide +kernel
theorem d_M_cost_37 : decode prog_10_method_45_code 37 = .ok (.laload, 1) := by decide +kernel
theorem d_M_cost_38 : decode prog_10_method_45_code 38 = .ok (.lstore 4, 2) := by decide +kernel
theorem d_M_cost_40 : decode prog_10_method_45_code 40 = .ok (.iconst 0, 1) := by decide +kernel
theorem d_M_cost_41 : decode prog_10_method_45_code 41 = .ok (.istore 6, 2) := by decide +kernel
theorem d_M_cost_43 : decode prog_10_method_45_code 43 = .ok (.iconst 0, 1) := by decide +kernel
theorem d_M_cost_44 : decode prog_10_method_45_code 44 = .ok (.istore 7, 2) := by decide +kernel
theorem d_M_cost_46 : decode prog_10_method_45_code 46 = .ok (.iconst 0, 1) := by decide +kernel
theorem d_M_cost_47 : decode prog_10_method_45_code 47 = .ok (.istore 8, 2) := by decide +kernel
theorem d_M_cost_49 : decode prog_10_method_45_code 49 = .ok (.iload 8, 2) := by decide +kernel
theorem d_M_cost_51 : decode prog_10_method_45_code 51 = .ok (.aload_n 0, 1) := by decide +kernel
theorem d_M_cost_52 : decode prog_10_method_45_code 52 = .ok (.getfield 56, 3) := by decide +kernel
theorem d_M_cost_55 : decode prog_10_method_45_code 55 = .ok (.iload_n 1, 1) := by decide +kernel
theorem d_M_cost_56 : decode prog_10_method_45_code 56 = .ok (.baload, 1) := by decide +kernel
theorem d_M_cost_57 : decode prog_10_method_45_code 57 = .ok (.if_icmp .ge 119, 3) := by decide +kernel
theorem d_M_cost_60 : decode prog_10_method_45_code 60 = .ok (.iconst 0, 1) := by decide +kernel
theorem d_M_cost_61 : decode prog_10_method_45_code 61 = .ok (.istore 9, 2) := by decide +kernel
theorem d_M_cost_63 : decode prog_10_method_45_code 63 = .ok (.iconst 0, 1) := by decide +kernel
theorem d_M_cost_64 : decode prog_10_method_45_code 64 = .ok (.istore 10, 2) := by decide +kernel
theorem d_M_cost_66 : decode prog_10_method_45_code 66 = .ok (.iload 10, 2) := by decide +kernel
theorem d_M_cost_68 : decode prog_10_method_45_code 68 = .ok (.iload_n 3, 1) := by decide +kernel
theorem d_M_cost_69 : decode prog_10_method_45_code 69 = .ok (.if_icmp .ge 49, 3) := by decide +kernel
theorem d_M_cost_72 : decode prog_10_method_45_code 72 = .ok (.aload_n 0, 1) := by decide +kernel
theorem d_M_cost_73 : decode prog_10_method_45_code 73 = .ok (.getfield 53, 3) := by decide +kernel
theorem d_M_cost_76 : decode prog_10_method_45_code 76 = .ok (.iload_n 1, 1) := by decide +kernel
theorem d_M_cost_77 : decode prog_10_method_45_code 77 = .ok (.laload, 1) := by decide +kernel
theorem d_M_cost_78 : decode prog_10_method_45_code 78 = .ok (.aload_n 0, 1) := by decide +kernel
theorem d_M_cost_79 : decode prog_10_method_45_code 79 = .ok (.getfield 56, 3) := by decide +kernel
theorem d_M_cost_82 : decode prog_10_method_45_code 82 = .ok (.iload_n 1, 1) := by decide +kernel
theorem d_M_cost_83 : decode prog_10_method_45_code 83 = .ok (.baload, 1) := by decide +kernel
theorem d_M_cost_84 : decode prog_10_method_45_code 84 = .ok (.iload 8, 2) := by decide +kernel
theorem d_M_cost_86 : decode prog_10_method_45_code 86 = .ok (.lload 4, 2) := by decide +kernel
theorem d_M_cost_88 : decode prog_10_method_45_code 88 = .ok (.iload_n 3, 1) := by decide +kernel
theorem d_M_cost_89 : decode prog_10_method_45_code 89 = .ok (.iload 10, 2) := by decide +kernel
theorem d_M_cost_91 : decode prog_10_method_45_code 91 = .ok (.invokestatic 166, 3) := by decide +kernel
theorem d_M_cost_94 : decode prog_10_method_45_code 94 = .ok (.istore 11, 2) := by decide +kernel
theorem d_M_cost_96 : decode prog_10_method_45_code 96 = .ok (.iload 11, 2) := by decide +kernel
theorem d_M_cost_98 : decode prog_10_method_45_code 98 = .ok (.iload 9, 2) := by decide +kernel
theorem d_M_cost_100 : decode prog_10_method_45_code 100 = .ok (.if_icmp .le 8, 3) := by decide +kernel
theorem d_M_cost_103 : decode prog_10_method_45_code 103 = .ok (.iload 11, 2) := by decide +kernel
theorem d_M_cost_105 : decode prog_10_method_45_code 105 = .ok (.goto 5, 3) := by decide +kernel
theorem d_M_cost_108 : decode prog_10_method_45_code 108 = .ok (.iload 9, 2) := by decide +kernel
theorem d_M_cost_110 : decode prog_10_method_45_code 110 = .ok (.istore 9, 2) := by decide +kernel
theorem d_M_cost_112 : decode prog_10_method_45_code 112 = .ok (.iinc 10 1, 3) := by decide +kernel
theorem d_M_cost_115 : decode prog_10_method_45_code 115 = .ok (.goto (-49), 3) := by decide +kernel
theorem d_M_cost_118 : decode prog_10_method_45_code 118 = .ok (.iload 6, 2) := by decide +kernel
theorem d_M_cost_120 : decode prog_10_method_45_code 120 = .ok (.iload 9, 2) := by decide +kernel
theorem d_M_cost_122 : decode prog_10_method_45_code 122 = .ok (.iconst 3, 1) := by decide +kernel
theorem d_M_cost_123 : decode prog_10_method_45_code 123 = .ok (.if_icmp .lt 7, 3) := by decide +kernel
theorem d_M_cost_126 : decode prog_10_method_45_code 126 = .ok (.iconst 2, 1) := by decide +kernel
theorem d_M_cost_127 : decode prog_10_method_45_code 127 = .ok (.goto 13, 3) := by decide +kernel
theorem d_M_cost_130 : decode prog_10_method_45_code 130 = .ok (.iload 7, 2) := by decide +kernel
theorem d_M_cost_132 : decode prog_10_method_45_code 132 = .ok (.ifCond .eq 7, 3) := by decide +kernel
theorem d_M_cost_135 : decode prog_10_method_45_code 135 = .ok (.iconst 1, 1) := by decide +kernel
theorem d_M_cost_136 : decode prog_10_method_45_code 136 = .ok (.goto 4, 3) := by decide +kernel
theorem d_M_cost_139 : decode prog_10_method_45_code 139 = .ok (.iconst 2, 1) := by decide +kernel
theorem d_M_cost_140 : decode prog_10_method_45_code 140 = .ok (.iadd, 1) := by decide +kernel
theorem d_M_cost_141 : decode prog_10_method_45_code 141 = .ok (.istore 6, 2) := by decide +kernel
theorem d_M_cost_143 : decode prog_10_method_45_code 143 = .ok (.iload 9, 2) := by decide +kernel
theorem d_M_cost_145 : decode prog_10_method_45_code 145 = .ok (.iconst 3, 1) := by decide +kernel
theorem d_M_cost_146 : decode prog_10_method_45_code 146 = .ok (.if_icmp .ge 7, 3) := by decide +kernel
theorem d_M_cost_149 : decode prog_10_method_45_code 149 = .ok (.iconst 1, 1) := by decide +kernel
theorem d_M_cost_150 : decode prog_10_method_45_code 150 = .ok (.goto 4, 3) := by decide +kernel
theorem d_M_cost_153 : decode prog_10_method_45_code 153 = .ok (.iconst 0, 1) := by decide +kernel
theorem d_M_cost_154 : decode prog_10_method_45_code 154 = .ok (.istore 7, 2) := by decide +kernel
theorem d_M_cost_156 : decode prog_10_method_45_code 156 = .ok (.iload 8, 2) := by decide +kernel
theorem d_M_cost_158 : decode prog_10_method_45_code 158 = .ok (.iload 9, 2) := by decide +kernel
theorem d_M_cost_160 : decode prog_10_method_45_code 160 = .ok (.iconst 3, 1) := by decide +kernel
theorem d_M_cost_161 : decode prog_10_method_45_code 161 = .ok (.if_icmp .lt 8, 3) := by decide +kernel
theorem d_M_cost_164 : decode prog_10_method_45_code 164 = .ok (.iload 9, 2) := by decide +kernel
theorem d_M_cost_166 : decode prog_10_method_45_code 166 = .ok (.goto 4, 3) := by decide +kernel
theorem d_M_cost_169 : decode prog_10_method_45_code 169 = .ok (.iconst 1, 1) := by decide +kernel
theorem d_M_cost_170 : decode prog_10_method_45_code 170 = .ok (.iadd, 1) := by decide +kernel
theorem d_M_cost_171 : decode prog_10_method_45_code 171 = .ok (.istore 8, 2) := by decide +kernel
theorem d_M_cost_173 : decode prog_10_method_45_code 173 = .ok (.goto (-124), 3) := by decide +kernel
theorem d_M_cost_176 : decode prog_10_method_45_code 176 = .ok (.iload 6, 2) := by decide +kernel
theorem d_M_cost_178 : decode prog_10_method_45_code 178 = .ok (.ireturn, 1) := by decide +kernel
set_option maxHeartbeats 4000000 in
set_option maxRecDepth 100000 in
theorem c_M_cost0 {l : Launch} {E : Ev} {σ : SS} {ad : Nat → Nat} (hI : rfI ad) (hB : rB σ) {sz : Nat} {k : Nat} (hk : k < 512) (hX9 : ∀ k, σ 17 k < 2 ^ 48) (hn8 : ∀ k, σ 18 k < 13) (hb0 : σ 19 k = 0) : MCi l E y_M_cost prog_10_method_45_code 12 (some .int) 2 50 0 0 [.ref (ad 0), .int (nI k)] (rfM E σ ad) sz (fun r M' => r = nI (cstK σ k) ∧ M' = rfM E σ ad) := by
  refine mc_of R_M rfl [some (.ref (ad 0)), some (.int (nI k)), none, none, none, none, none, none, none, none, none, none] (by decide) (Nat.le_of_ble_eq_true rfl) rfl ?_
  intro p e R s m ag below meth c ls Q A X hAe hQ hR hsz hw hl
  rw [← hAe] at hQ
  obtain ⟨⟨hx, hb, hml, hown, hts⟩, hE, hA, hr, hlk, hnm⟩ := X
  have hK := hE.1
  first | refine x_aload_n hx hb d_M_cost_0 hl rfl ?_ | refine x_aload_nQ hx hb d_M_cost_0 hl rfl ?_
  refine m_get hx hb hts hown hK hw ci_M (rf_at hI 0 (by decide) rfl) 19 (by decide) (wm3 91 rfl rfl) rfl d_M_cost_1 ?_
  refine x_iload_n hx hb d_M_cost_4 hl rfl ?_
  refine rl_19 hx hb hK hI hB hw (by omega) d_M_cost_5 (fun hv5 => ?_)
  refine lv_iconst (v := nI 1) hx hb d_M_cost_6 (by decide) ?_
  refine lv_isub hx hb d_M_cost_7 ?_
  rw [hb0, show nI 0 - nI 1 = (-1 : Int32) by decide]
  refine x_istore_n hx hb d_M_cost_8 hl (Nat.le_of_ble_eq_true rfl) (lh_k (i := 1) rfl (by first | exact lk_n | exact lk_i | exact lk_r | exact lk_q | exact lk_0)) (fun ls hl => ?_)
  refine x_iload_n hx hb d_M_cost_9 hl rfl ?_
  refine lv_if_ge hx hb d_M_cost_10 rfl (fun h10 => ?_) (fun h10 => ?_)
  · exact absurd h10 (by decide)
  · refine lv_iconst (v := nI 0) hx hb d_M_cost_13 (by decide) ?_
    refine lv_goto hx hb d_M_cost_14 rfl ?_
    refine x_istore_n hx hb d_M_cost_23 hl (Nat.le_of_ble_eq_true rfl) (lh_k (i := 2) rfl (by first | exact lk_n | exact lk_i | exact lk_r | exact lk_q | exact lk_0)) (fun ls hl => ?_)
    refine x_iload_n hx hb d_M_cost_24 hl rfl ?_
    refine lv_if_ge hx hb d_M_cost_25 rfl (fun h25 => ?_) (fun h25 => ?_)
    · exact absurd h25 (by decide)
    · refine lv_lconst (v := 0) hx hb d_M_cost_28 (by decide) ?_
      refine lv_goto hx hb d_M_cost_29 rfl ?_
      refine x_lstore hx hb d_M_cost_38 hl (Nat.le_of_ble_eq_true rfl) (lh_k (i := 3) rfl (by first | exact lk_n | exact lk_i | exact lk_r | exact lk_q | exact lk_0)) (fun ls hl => ?_)
      refine lv_iconst (v := nI 0) hx hb d_M_cost_40 (by decide) ?_
      refine x_istore hx hb d_M_cost_41 hl (Nat.le_of_ble_eq_true rfl) (lh_k (i := 5) rfl (by first | exact lk_n | exact lk_i | exact lk_r | exact lk_q | exact lk_0)) (fun ls hl => ?_)
      refine lv_iconst (v := nI 0) hx hb d_M_cost_43 (by decide) ?_
      refine x_istore hx hb d_M_cost_44 hl (Nat.le_of_ble_eq_true rfl) (lh_k (i := 6) rfl (by first | exact lk_n | exact lk_i | exact lk_r | exact lk_q | exact lk_0)) (fun ls hl => ?_)
      refine lv_iconst (v := nI 0) hx hb d_M_cost_46 (by decide) ?_
      refine x_istore hx hb d_M_cost_47 hl (Nat.le_of_ble_eq_true rfl) (lh_k (i := 7) rfl (by first | exact lk_n | exact lk_i | exact lk_r | exact lk_q | exact lk_0)) (fun ls hl => ?_)
      obtain ⟨m0, hm0⟩ : ∃ m0, m0 = 0 := ⟨0, rfl⟩
      obtain ⟨Y, hYe⟩ : ∃ Y, Y = 0 := ⟨0, rfl⟩
      have hY : Y < 2 ^ 48 := by omega
      have hQ2 : cstK σ k = csf (σ 17 k) (σ 18 k) Y m0 13 0 0 false := by unfold cstK; rw [if_pos hb0, hm0, hYe]
      rw [hQ2] at hQ
      have hl : lh ls [some (.ref (ad 0)), some (.int (nI k)), some (.int (-1)), some (.int (nI m0)), some (.long (lN Y)), none, some (.int (nI 0)), some (.int (bz false)), some (.int (nI 0)), none, none, none] := by rw [hm0, hYe]; exact hl
      have hX := hX9 k
      have hn9 := hn8 k
      have loopI : ∀ (u j L T p0 : Nat) (sg : Bool) (H : Heap) (locs : List Loc) (ls : Array Slot), j + u = m0 → L ≤ 13 → p0 < 13 → mw E.1 vwCl A s.heap (rfM E σ ad) H locs → lh ls [some (.ref (ad 0)), some (.int (nI k)), some (.int (-1)), some (.int (nI m0)), some (.long (lN Y)), none, some (.int (nI T)), some (.int (bz sg)), some (.int (nI p0)), some (.int (nI L)), some (.int (nI j)), none] → (∀ (H : Heap) (locs : List Loc) (ls : Array Slot), mw E.1 vwCl A s.heap (rfM E σ ad) H locs → lh ls [some (.ref (ad 0)), some (.int (nI k)), some (.int (-1)), some (.int (nI m0)), some (.long (lN Y)), none, some (.int (nI T)), some (.int (bz sg)), some (.int (nI p0)), some (.int (nI (lgf (σ 17 k) (σ 18 k) p0 Y m0 u j L))), none, none] → W p l e R s m ag below meth c H locs 0 0 Q (F0 m 118 ls [])) → W p l e R s m ag below meth c H locs 0 0 Q (F0 m 66 ls []) := by
        intro u j L T p0 sg
        induction u generalizing j L with
        | zero =>
          intro H locs ls hj hL hp0 hw hl kk
          refine x_iload hx hb d_M_cost_66 hl rfl ?_
          refine x_iload_n hx hb d_M_cost_68 hl rfl ?_
          refine x_icmp_ge hx hb d_M_cost_69 rfl (by omega) (by omega) (fun h69 => ?_) (fun h69 => ?_)
          · exact kk H locs ls hw (lh_drop 10 (lh_drop 11 hl))
          · exact absurd h69 (by omega)
        | succ u ih =>
          intro H locs ls hj hL hp0 hw hl kk
          have ih := fun j L H locs ls a b => ih j L H locs ls a b hp0
          refine x_iload hx hb d_M_cost_66 hl rfl ?_
          refine x_iload_n hx hb d_M_cost_68 hl rfl ?_
          refine x_icmp_ge hx hb d_M_cost_69 rfl (by omega) (by omega) (fun h69 => ?_) (fun h69 => ?_)
          · exact absurd h69 (by omega)
          · first | refine x_aload_n hx hb d_M_cost_72 hl rfl ?_ | refine x_aload_nQ hx hb d_M_cost_72 hl rfl ?_
            refine m_get hx hb hts hown hK hw ci_M (rf_at hI 0 (by decide) rfl) 17 (by decide) (wm3 89 rfl rfl) rfl d_M_cost_73 ?_
            refine x_iload_n hx hb d_M_cost_76 hl rfl ?_
            refine rl_17 hx hb hK hI hw (by omega) d_M_cost_77 ?_
            first | refine x_aload_n hx hb d_M_cost_78 hl rfl ?_ | refine x_aload_nQ hx hb d_M_cost_78 hl rfl ?_
            refine m_get hx hb hts hown hK hw ci_M (rf_at hI 0 (by decide) rfl) 18 (by decide) (wm3 90 rfl rfl) rfl d_M_cost_79 ?_
            refine x_iload_n hx hb d_M_cost_82 hl rfl ?_
            refine rl_18 hx hb hK hI hB hw (by omega) d_M_cost_83 (fun hv83 => ?_)
            refine x_iload hx hb d_M_cost_84 hl rfl ?_
            refine x_lload hx hb d_M_cost_86 hl rfl ?_
            refine x_iload_n hx hb d_M_cost_88 hl rfl ?_
            refine x_iload hx hb d_M_cost_89 hl rfl ?_
            refine m_calli (k_S ⟨hx, hb, hml, hown, hts⟩ hE hA hw (c_M_piece hX hY (by omega) (by omega) (by omega) (by omega)) (wm4 67 rfl rfl) (wm4 68 rfl rfl) (wm1 9 rfl rfl) (wm4 69 rfl rfl) rfl rfl ar_M_piece ⟨Nat.le_trans (Nat.le_of_ble_eq_true rfl) hR.1, Nat.le_trans (Nat.le_of_ble_eq_true rfl) hR.2.1⟩ rfl hl.1 rfl (Nat.le_of_ble_eq_true rfl) d_M_cost_91 ⟨Nat.le_trans (Nat.le_of_ble_eq_true rfl) hR.2.2.1, Nat.le_trans (Nat.le_of_ble_eq_true rfl) hR.2.2.2⟩) hw (mfr_in hw hA) (fun r91 M91 H locs hP91 hw => ?_)
            obtain ⟨rfl, hM91⟩ := hP91
            rw [hM91] at hw
            have hp9 := pcf_le (X := σ 17 k) (n := σ 18 k) (k := p0) (Y := Y) (m := m0) (j := j) 13 0
            refine x_istore hx hb d_M_cost_94 hl (Nat.le_of_ble_eq_true rfl) (lh_k (i := 10) rfl (by first | exact lk_n | exact lk_i | exact lk_r | exact lk_q | exact lk_0)) (fun ls hl => ?_)
            refine x_iload hx hb d_M_cost_96 hl rfl ?_
            refine x_iload hx hb d_M_cost_98 hl rfl ?_
            refine x_icmp_le hx hb d_M_cost_100 rfl (by omega) (by omega) (fun h100 => ?_) (fun h100 => ?_)
            · have hif : (if L < pcf (σ 17 k) (σ 18 k) p0 Y m0 j 13 0 then pcf (σ 17 k) (σ 18 k) p0 Y m0 j 13 0 else L) = L := if_neg (by omega)
              refine x_iload hx hb d_M_cost_108 hl rfl ?_
              refine x_istore hx hb d_M_cost_110 hl (Nat.le_of_ble_eq_true rfl) (lh_k (i := 8) rfl (by first | exact lk_n | exact lk_i | exact lk_r | exact lk_q | exact lk_0)) (fun ls hl => ?_)
              refine x_iincN hx hb d_M_cost_112 hl rfl (lh_k (i := 9) rfl (by first | exact lk_n | exact lk_i | exact lk_r | exact lk_q | exact lk_0)) (fun ls hl => ?_)
              refine lv_goto hx hb d_M_cost_115 rfl ?_
              refine ih (j + 1) _ H locs ls (by omega) (by omega) hw (lh_drop 11 hl) (fun H locs ls hw hl => kk H locs ls hw ?_)
              unfold lgf
              rw [hif]
              exact hl
            · have hif : (if L < pcf (σ 17 k) (σ 18 k) p0 Y m0 j 13 0 then pcf (σ 17 k) (σ 18 k) p0 Y m0 j 13 0 else L) = pcf (σ 17 k) (σ 18 k) p0 Y m0 j 13 0 := if_pos (by omega)
              refine x_iload hx hb d_M_cost_103 hl rfl ?_
              refine lv_goto hx hb d_M_cost_105 rfl ?_
              refine x_istore hx hb d_M_cost_110 hl (Nat.le_of_ble_eq_true rfl) (lh_k (i := 8) rfl (by first | exact lk_n | exact lk_i | exact lk_r | exact lk_q | exact lk_0)) (fun ls hl => ?_)
              refine x_iincN hx hb d_M_cost_112 hl rfl (lh_k (i := 9) rfl (by first | exact lk_n | exact lk_i | exact lk_r | exact lk_q | exact lk_0)) (fun ls hl => ?_)
              refine lv_goto hx hb d_M_cost_115 rfl ?_
              refine ih (j + 1) _ H locs ls (by omega) (by omega) hw (lh_drop 11 hl) (fun H locs ls hw hl => kk H locs ls hw ?_)
              unfold lgf
              rw [hif]
              exact hl
      have loopO : ∀ (u p0 T : Nat) (sg : Bool) (H : Heap) (locs : List Loc) (ls : Array Slot), σ 18 k < p0 + u → p0 ≤ 26 → mw E.1 vwCl A s.heap (rfM E σ ad) H locs → lh ls [some (.ref (ad 0)), some (.int (nI k)), some (.int (-1)), some (.int (nI m0)), some (.long (lN Y)), none, some (.int (nI T)), some (.int (bz sg)), some (.int (nI p0)), none, none, none] → csf (σ 17 k) (σ 18 k) Y m0 u p0 T sg = csf (σ 17 k) (σ 18 k) Y m0 13 0 0 false → W p l e R s m ag below meth c H locs 0 0 Q (F0 m 49 ls []) := by
        intro u
        induction u with
        | zero =>
          intro p0 T sg H locs ls hu hp26 hw hl hT
          refine x_iload hx hb d_M_cost_49 hl rfl ?_
          first | refine x_aload_n hx hb d_M_cost_51 hl rfl ?_ | refine x_aload_nQ hx hb d_M_cost_51 hl rfl ?_
          refine m_get hx hb hts hown hK hw ci_M (rf_at hI 0 (by decide) rfl) 18 (by decide) (wm3 90 rfl rfl) rfl d_M_cost_52 ?_
          refine x_iload_n hx hb d_M_cost_55 hl rfl ?_
          refine rl_18 hx hb hK hI hB hw (by omega) d_M_cost_56 (fun hv56 => ?_)
          refine x_icmp_ge hx hb d_M_cost_57 rfl (by omega) (by omega) (fun h57 => ?_) (fun h57 => ?_)
          · refine x_iload hx hb d_M_cost_176 hl rfl ?_
            exact x_reti hQ hx hb hr hlk rfl hw (by omega) (by omega) d_M_cost_178 (⟨by rw [← hT]; rfl, rfl⟩)
          · exact absurd h57 (by omega)
        | succ u ih =>
          intro p0 T sg H locs ls hu hp26 hw hl hT
          refine x_iload hx hb d_M_cost_49 hl rfl ?_
          first | refine x_aload_n hx hb d_M_cost_51 hl rfl ?_ | refine x_aload_nQ hx hb d_M_cost_51 hl rfl ?_
          refine m_get hx hb hts hown hK hw ci_M (rf_at hI 0 (by decide) rfl) 18 (by decide) (wm3 90 rfl rfl) rfl d_M_cost_52 ?_
          refine x_iload_n hx hb d_M_cost_55 hl rfl ?_
          refine rl_18 hx hb hK hI hB hw (by omega) d_M_cost_56 (fun hv56 => ?_)
          refine x_icmp_ge hx hb d_M_cost_57 rfl (by omega) (by omega) (fun h57 => ?_) (fun h57 => ?_)
          · have hT2 := csf_e (X := σ 17 k) (n := σ 18 k) (Y := Y) (m := m0) (p := p0) (T := T) (s := sg) h57 (u + 1)
            refine x_iload hx hb d_M_cost_176 hl rfl ?_
            exact x_reti hQ hx hb hr hlk rfl hw (by omega) (by omega) d_M_cost_178 (⟨by rw [← hT, hT2], rfl⟩)
          · refine lv_iconst (v := nI 0) hx hb d_M_cost_60 (by decide) ?_
            refine x_istore hx hb d_M_cost_61 hl (Nat.le_of_ble_eq_true rfl) (lh_k (i := 8) rfl (by first | exact lk_n | exact lk_i | exact lk_r | exact lk_q | exact lk_0)) (fun ls hl => ?_)
            refine lv_iconst (v := nI 0) hx hb d_M_cost_63 (by decide) ?_
            refine x_istore hx hb d_M_cost_64 hl (Nat.le_of_ble_eq_true rfl) (lh_k (i := 9) rfl (by first | exact lk_n | exact lk_i | exact lk_r | exact lk_q | exact lk_0)) (fun ls hl => ?_)
            refine loopI m0 0 0 T p0 sg H locs ls (by omega) (by omega) (by omega) hw hl (fun H locs ls hw hl => ?_)
            have hL9 := lgf_le (X := σ 17 k) (n := σ 18 k) (p := p0) (Y := Y) (m := m0) m0 0 0 (by omega)
            refine x_iload hx hb d_M_cost_118 hl rfl ?_
            refine x_iload hx hb d_M_cost_120 hl rfl ?_
            refine lv_iconst (v := nI 3) hx hb d_M_cost_122 (by decide) ?_
            refine x_icmp_lt hx hb d_M_cost_123 rfl (by omega) (by omega) (fun h123 => ?_) (fun h123 => ?_)
            · have hT2 := csf_2 (X := σ 17 k) (Y := Y) (m := m0) (u := u) (T := T) (s := sg) h57 h123
              refine x_iload hx hb d_M_cost_130 hl rfl ?_
              refine x_if_eqB hx hb d_M_cost_132 rfl (fun h132 => ?_) (fun h132 => ?_)
              · subst h132
                refine lv_iconst (v := nI 2) hx hb d_M_cost_139 (by decide) ?_
                first | refine x_iadd hx hb d_M_cost_140 ?_ | refine lv_iadd hx hb d_M_cost_140 ?_
                refine x_istore hx hb d_M_cost_141 hl (Nat.le_of_ble_eq_true rfl) (lh_k (i := 5) rfl (by first | exact lk_n | exact lk_i | exact lk_r | exact lk_q | exact lk_0)) (fun ls hl => ?_)
                refine x_iload hx hb d_M_cost_143 hl rfl ?_
                refine lv_iconst (v := nI 3) hx hb d_M_cost_145 (by decide) ?_
                refine x_icmp_ge hx hb d_M_cost_146 rfl (by omega) (by omega) (fun h146 => ?_) (fun h146 => ?_)
                · first
                    | exact absurd h146 (by omega)
                    | refine lv_iconst (v := nI 0) hx hb d_M_cost_153 (by decide) ?_
                      refine x_istore hx hb d_M_cost_154 hl (Nat.le_of_ble_eq_true rfl) (lh_k (i := 6) rfl (by first | exact lk_n | exact lk_i | exact lk_r | exact lk_q | exact lk_0)) (fun ls hl => ?_)
                      refine x_iload hx hb d_M_cost_156 hl rfl ?_
                      refine x_iload hx hb d_M_cost_158 hl rfl ?_
                      refine lv_iconst (v := nI 3) hx hb d_M_cost_160 (by decide) ?_
                      refine x_icmp_lt hx hb d_M_cost_161 rfl (by omega) (by omega) (fun h161 => ?_) (fun h161 => ?_)
                      · first
                          | exact absurd h161 (by omega)
                          | refine lv_iconst (v := nI 1) hx hb d_M_cost_169 (by decide) ?_
                            first | refine x_iadd hx hb d_M_cost_170 ?_ | refine lv_iadd hx hb d_M_cost_170 ?_
                            refine x_istore hx hb d_M_cost_171 hl (Nat.le_of_ble_eq_true rfl) (lh_k (i := 7) rfl (by first | exact lk_n | exact lk_i | exact lk_r | exact lk_q | exact lk_0)) (fun ls hl => ?_)
                            refine lv_goto hx hb d_M_cost_173 rfl ?_
                            first | exact ih _ _ true H locs ls (by omega) (by omega) hw (lh_drop 9 hl) (hT2.symm.trans hT) | exact ih _ _ false H locs ls (by omega) (by omega) hw (lh_drop 9 hl) (hT2.symm.trans hT)
                      · first
                          | exact absurd h161 (by omega)
                          | refine x_iload hx hb d_M_cost_164 hl rfl ?_
                            refine lv_goto hx hb d_M_cost_166 rfl ?_
                            first | refine x_iadd hx hb d_M_cost_170 ?_ | refine lv_iadd hx hb d_M_cost_170 ?_
                            refine x_istore hx hb d_M_cost_171 hl (Nat.le_of_ble_eq_true rfl) (lh_k (i := 7) rfl (by first | exact lk_n | exact lk_i | exact lk_r | exact lk_q | exact lk_0)) (fun ls hl => ?_)
                            refine lv_goto hx hb d_M_cost_173 rfl ?_
                            first | exact ih _ _ true H locs ls (by omega) (by omega) hw (lh_drop 9 hl) (hT2.symm.trans hT) | exact ih _ _ false H locs ls (by omega) (by omega) hw (lh_drop 9 hl) (hT2.symm.trans hT)
                · first
                    | exact absurd h146 (by omega)
                    | refine lv_iconst (v := nI 1) hx hb d_M_cost_149 (by decide) ?_
                      refine lv_goto hx hb d_M_cost_150 rfl ?_
                      refine x_istore hx hb d_M_cost_154 hl (Nat.le_of_ble_eq_true rfl) (lh_k (i := 6) rfl (by first | exact lk_n | exact lk_i | exact lk_r | exact lk_q | exact lk_0)) (fun ls hl => ?_)
                      refine x_iload hx hb d_M_cost_156 hl rfl ?_
                      refine x_iload hx hb d_M_cost_158 hl rfl ?_
                      refine lv_iconst (v := nI 3) hx hb d_M_cost_160 (by decide) ?_
                      refine x_icmp_lt hx hb d_M_cost_161 rfl (by omega) (by omega) (fun h161 => ?_) (fun h161 => ?_)
                      · first
                          | exact absurd h161 (by omega)
                          | refine lv_iconst (v := nI 1) hx hb d_M_cost_169 (by decide) ?_
                            first | refine x_iadd hx hb d_M_cost_170 ?_ | refine lv_iadd hx hb d_M_cost_170 ?_
                            refine x_istore hx hb d_M_cost_171 hl (Nat.le_of_ble_eq_true rfl) (lh_k (i := 7) rfl (by first | exact lk_n | exact lk_i | exact lk_r | exact lk_q | exact lk_0)) (fun ls hl => ?_)
                            refine lv_goto hx hb d_M_cost_173 rfl ?_
                            first | exact ih _ _ true H locs ls (by omega) (by omega) hw (lh_drop 9 hl) (hT2.symm.trans hT) | exact ih _ _ false H locs ls (by omega) (by omega) hw (lh_drop 9 hl) (hT2.symm.trans hT)
                      · first
                          | exact absurd h161 (by omega)
                          | refine x_iload hx hb d_M_cost_164 hl rfl ?_
                            refine lv_goto hx hb d_M_cost_166 rfl ?_
                            first | refine x_iadd hx hb d_M_cost_170 ?_ | refine lv_iadd hx hb d_M_cost_170 ?_
                            refine x_istore hx hb d_M_cost_171 hl (Nat.le_of_ble_eq_true rfl) (lh_k (i := 7) rfl (by first | exact lk_n | exact lk_i | exact lk_r | exact lk_q | exact lk_0)) (fun ls hl => ?_)
                            refine lv_goto hx hb d_M_cost_173 rfl ?_
                            first | exact ih _ _ true H locs ls (by omega) (by omega) hw (lh_drop 9 hl) (hT2.symm.trans hT) | exact ih _ _ false H locs ls (by omega) (by omega) hw (lh_drop 9 hl) (hT2.symm.trans hT)
              · subst h132
                refine lv_iconst (v := nI 1) hx hb d_M_cost_135 (by decide) ?_
                refine lv_goto hx hb d_M_cost_136 rfl ?_
                first | refine x_iadd hx hb d_M_cost_140 ?_ | refine lv_iadd hx hb d_M_cost_140 ?_
                refine x_istore hx hb d_M_cost_141 hl (Nat.le_of_ble_eq_true rfl) (lh_k (i := 5) rfl (by first | exact lk_n | exact lk_i | exact lk_r | exact lk_q | exact lk_0)) (fun ls hl => ?_)
                refine x_iload hx hb d_M_cost_143 hl rfl ?_
                refine lv_iconst (v := nI 3) hx hb d_M_cost_145 (by decide) ?_
                refine x_icmp_ge hx hb d_M_cost_146 rfl (by omega) (by omega) (fun h146 => ?_) (fun h146 => ?_)
                · first
                    | exact absurd h146 (by omega)
                    | refine lv_iconst (v := nI 0) hx hb d_M_cost_153 (by decide) ?_
                      refine x_istore hx hb d_M_cost_154 hl (Nat.le_of_ble_eq_true rfl) (lh_k (i := 6) rfl (by first | exact lk_n | exact lk_i | exact lk_r | exact lk_q | exact lk_0)) (fun ls hl => ?_)
                      refine x_iload hx hb d_M_cost_156 hl rfl ?_
                      refine x_iload hx hb d_M_cost_158 hl rfl ?_
                      refine lv_iconst (v := nI 3) hx hb d_M_cost_160 (by decide) ?_
                      refine x_icmp_lt hx hb d_M_cost_161 rfl (by omega) (by omega) (fun h161 => ?_) (fun h161 => ?_)
                      · first
                          | exact absurd h161 (by omega)
                          | refine lv_iconst (v := nI 1) hx hb d_M_cost_169 (by decide) ?_
                            first | refine x_iadd hx hb d_M_cost_170 ?_ | refine lv_iadd hx hb d_M_cost_170 ?_
                            refine x_istore hx hb d_M_cost_171 hl (Nat.le_of_ble_eq_true rfl) (lh_k (i := 7) rfl (by first | exact lk_n | exact lk_i | exact lk_r | exact lk_q | exact lk_0)) (fun ls hl => ?_)
                            refine lv_goto hx hb d_M_cost_173 rfl ?_
                            first | exact ih _ _ true H locs ls (by omega) (by omega) hw (lh_drop 9 hl) (hT2.symm.trans hT) | exact ih _ _ false H locs ls (by omega) (by omega) hw (lh_drop 9 hl) (hT2.symm.trans hT)
                      · first
                          | exact absurd h161 (by omega)
                          | refine x_iload hx hb d_M_cost_164 hl rfl ?_
                            refine lv_goto hx hb d_M_cost_166 rfl ?_
                            first | refine x_iadd hx hb d_M_cost_170 ?_ | refine lv_iadd hx hb d_M_cost_170 ?_
                            refine x_istore hx hb d_M_cost_171 hl (Nat.le_of_ble_eq_true rfl) (lh_k (i := 7) rfl (by first | exact lk_n | exact lk_i | exact lk_r | exact lk_q | exact lk_0)) (fun ls hl => ?_)
                            refine lv_goto hx hb d_M_cost_173 rfl ?_
                            first | exact ih _ _ true H locs ls (by omega) (by omega) hw (lh_drop 9 hl) (hT2.symm.trans hT) | exact ih _ _ false H locs ls (by omega) (by omega) hw (lh_drop 9 hl) (hT2.symm.trans hT)
                · first
                    | exact absurd h146 (by omega)
                    | refine lv_iconst (v := nI 1) hx hb d_M_cost_149 (by decide) ?_
                      refine lv_goto hx hb d_M_cost_150 rfl ?_
                      refine x_istore hx hb d_M_cost_154 hl (Nat.le_of_ble_eq_true rfl) (lh_k (i := 6) rfl (by first | exact lk_n | exact lk_i | exact lk_r | exact lk_q | exact lk_0)) (fun ls hl => ?_)
                      refine x_iload hx hb d_M_cost_156 hl rfl ?_
                      refine x_iload hx hb d_M_cost_158 hl rfl ?_
                      refine lv_iconst (v := nI 3) hx hb d_M_cost_160 (by decide) ?_
                      refine x_icmp_lt hx hb d_M_cost_161 rfl (by omega) (by omega) (fun h161 => ?_) (fun h161 => ?_)
                      · first
                          | exact absurd h161 (by omega)
                          | refine lv_iconst (v := nI 1) hx hb d_M_cost_169 (by decide) ?_
                            first | refine x_iadd hx hb d_M_cost_170 ?_ | refine lv_iadd hx hb d_M_cost_170 ?_
                            refine x_istore hx hb d_M_cost_171 hl (Nat.le_of_ble_eq_true rfl) (lh_k (i := 7) rfl (by first | exact lk_n | exact lk_i | exact lk_r | exact lk_q | exact lk_0)) (fun ls hl => ?_)
                            refine lv_goto hx hb d_M_cost_173 rfl ?_
                            first | exact ih _ _ true H locs ls (by omega) (by omega) hw (lh_drop 9 hl) (hT2.symm.trans hT) | exact ih _ _ false H locs ls (by omega) (by omega) hw (lh_drop 9 hl) (hT2.symm.trans hT)
                      · first
                          | exact absurd h161 (by omega)
                          | refine x_iload hx hb d_M_cost_164 hl rfl ?_
                            refine lv_goto hx hb d_M_cost_166 rfl ?_
                            first | refine x_iadd hx hb d_M_cost_170 ?_ | refine lv_iadd hx hb d_M_cost_170 ?_
                            refine x_istore hx hb d_M_cost_171 hl (Nat.le_of_ble_eq_true rfl) (lh_k (i := 7) rfl (by first | exact lk_n | exact lk_i | exact lk_r | exact lk_q | exact lk_0)) (fun ls hl => ?_)
                            refine lv_goto hx hb d_M_cost_173 rfl ?_
                            first | exact ih _ _ true H locs ls (by omega) (by omega) hw (lh_drop 9 hl) (hT2.symm.trans hT) | exact ih _ _ false H locs ls (by omega) (by omega) hw (lh_drop 9 hl) (hT2.symm.trans hT)
            · have hT2 := csf_1 (X := σ 17 k) (Y := Y) (m := m0) (u := u) (T := T) (s := sg) h57 h123
              refine lv_iconst (v := nI 2) hx hb d_M_cost_126 (by decide) ?_
              refine lv_goto hx hb d_M_cost_127 rfl ?_
              first | refine x_iadd hx hb d_M_cost_140 ?_ | refine lv_iadd hx hb d_M_cost_140 ?_
              refine x_istore hx hb d_M_cost_141 hl (Nat.le_of_ble_eq_true rfl) (lh_k (i := 5) rfl (by first | exact lk_n | exact lk_i | exact lk_r | exact lk_q | exact lk_0)) (fun ls hl => ?_)
              refine x_iload hx hb d_M_cost_143 hl rfl ?_
              refine lv_iconst (v := nI 3) hx hb d_M_cost_145 (by decide) ?_
              refine x_icmp_ge hx hb d_M_cost_146 rfl (by omega) (by omega) (fun h146 => ?_) (fun h146 => ?_)
              · first
                  | exact absurd h146 (by omega)
                  | refine lv_iconst (v := nI 0) hx hb d_M_cost_153 (by decide) ?_
                    refine x_istore hx hb d_M_cost_154 hl (Nat.le_of_ble_eq_true rfl) (lh_k (i := 6) rfl (by first | exact lk_n | exact lk_i | exact lk_r | exact lk_q | exact lk_0)) (fun ls hl => ?_)
                    refine x_iload hx hb d_M_cost_156 hl rfl ?_
                    refine x_iload hx hb d_M_cost_158 hl rfl ?_
                    refine lv_iconst (v := nI 3) hx hb d_M_cost_160 (by decide) ?_
                    refine x_icmp_lt hx hb d_M_cost_161 rfl (by omega) (by omega) (fun h161 => ?_) (fun h161 => ?_)
                    · first
                        | exact absurd h161 (by omega)
                        | refine lv_iconst (v := nI 1) hx hb d_M_cost_169 (by decide) ?_
                          first | refine x_iadd hx hb d_M_cost_170 ?_ | refine lv_iadd hx hb d_M_cost_170 ?_
                          refine x_istore hx hb d_M_cost_171 hl (Nat.le_of_ble_eq_true rfl) (lh_k (i := 7) rfl (by first | exact lk_n | exact lk_i | exact lk_r | exact lk_q | exact lk_0)) (fun ls hl => ?_)
                          refine lv_goto hx hb d_M_cost_173 rfl ?_
                          first | exact ih _ _ true H locs ls (by omega) (by omega) hw (lh_drop 9 hl) (hT2.symm.trans hT) | exact ih _ _ false H locs ls (by omega) (by omega) hw (lh_drop 9 hl) (hT2.symm.trans hT)
                    · first
                        | exact absurd h161 (by omega)
                        | refine x_iload hx hb d_M_cost_164 hl rfl ?_
                          refine lv_goto hx hb d_M_cost_166 rfl ?_
                          first | refine x_iadd hx hb d_M_cost_170 ?_ | refine lv_iadd hx hb d_M_cost_170 ?_
                          refine x_istore hx hb d_M_cost_171 hl (Nat.le_of_ble_eq_true rfl) (lh_k (i := 7) rfl (by first | exact lk_n | exact lk_i | exact lk_r | exact lk_q | exact lk_0)) (fun ls hl => ?_)
                          refine lv_goto hx hb d_M_cost_173 rfl ?_
                          first | exact ih _ _ true H locs ls (by omega) (by omega) hw (lh_drop 9 hl) (hT2.symm.trans hT) | exact ih _ _ false H locs ls (by omega) (by omega) hw (lh_drop 9 hl) (hT2.symm.trans hT)
              · first
                  | exact absurd h146 (by omega)
                  | refine lv_iconst (v := nI 1) hx hb d_M_cost_149 (by decide) ?_
                    refine lv_goto hx hb d_M_cost_150 rfl ?_
                    refine x_istore hx hb d_M_cost_154 hl (Nat.le_of_ble_eq_true rfl) (lh_k (i := 6) rfl (by first | exact lk_n | exact lk_i | exact lk_r | exact lk_q | exact lk_0)) (fun ls hl => ?_)
                    refine x_iload hx hb d_M_cost_156 hl rfl ?_
                    refine x_iload hx hb d_M_cost_158 hl rfl ?_
                    refine lv_iconst (v := nI 3) hx hb d_M_cost_160 (by decide) ?_
                    refine x_icmp_lt hx hb d_M_cost_161 rfl (by omega) (by omega) (fun h161 => ?_) (fun h161 => ?_)
                    · first
                        | exact absurd h161 (by omega)
                        | refine lv_iconst (v := nI 1) hx hb d_M_cost_169 (by decide) ?_
                          first | refine x_iadd hx hb d_M_cost_170 ?_ | refine lv_iadd hx hb d_M_cost_170 ?_
                          refine x_istore hx hb d_M_cost_171 hl (Nat.le_of_ble_eq_true rfl) (lh_k (i := 7) rfl (by first | exact lk_n | exact lk_i | exact lk_r | exact lk_q | exact lk_0)) (fun ls hl => ?_)
                          refine lv_goto hx hb d_M_cost_173 rfl ?_
                          first | exact ih _ _ true H locs ls (by omega) (by omega) hw (lh_drop 9 hl) (hT2.symm.trans hT) | exact ih _ _ false H locs ls (by omega) (by omega) hw (lh_drop 9 hl) (hT2.symm.trans hT)
                    · first
                        | exact absurd h161 (by omega)
                        | refine x_iload hx hb d_M_cost_164 hl rfl ?_
                          refine lv_goto hx hb d_M_cost_166 rfl ?_
                          first | refine x_iadd hx hb d_M_cost_170 ?_ | refine lv_iadd hx hb d_M_cost_170 ?_
                          refine x_istore hx hb d_M_cost_171 hl (Nat.le_of_ble_eq_true rfl) (lh_k (i := 7) rfl (by first | exact lk_n | exact lk_i | exact lk_r | exact lk_q | exact lk_0)) (fun ls hl => ?_)
                          refine lv_goto hx hb d_M_cost_173 rfl ?_
                          first | exact ih _ _ true H locs ls (by omega) (by omega) hw (lh_drop 9 hl) (hT2.symm.trans hT) | exact ih _ _ false H locs ls (by omega) (by omega) hw (lh_drop 9 hl) (hT2.symm.trans hT)
      exact loopO 13 0 0 false _ _ _ (by omega) (by omega) hw hl rfl

set_option maxHeartbeats 4000000 in
set_option maxRecDepth 100000 in
theorem c_M_cost1 {l : Launch} {E : Ev} {σ : SS} {ad : Nat → Nat} (hI : rfI ad) (hB : rB σ) {sz : Nat} {k : Nat} (hk : k < 512) (hX9 : ∀ k, σ 17 k < 2 ^ 48) (hn8 : ∀ k, σ 18 k < 13) (hb0 : 0 < σ 19 k) (hb1 : σ 19 k - 1 < 512) : MCi l E y_M_cost prog_10_method_45_code 12 (some .int) 2 50 0 0 [.ref (ad 0), .int (nI k)] (rfM E σ ad) sz (fun r M' => r = nI (cstK σ k) ∧ M' = rfM E σ ad) := by
  refine mc_of R_M rfl [some (.ref (ad 0)), some (.int (nI k)), none, none, none, none, none, none, none, none, none, none] (by decide) (Nat.le_of_ble_eq_true rfl) rfl ?_
  intro p e R s m ag below meth c ls Q A X hAe hQ hR hsz hw hl
  rw [← hAe] at hQ
  obtain ⟨⟨hx, hb, hml, hown, hts⟩, hE, hA, hr, hlk, hnm⟩ := X
  have hK := hE.1
  first | refine x_aload_n hx hb d_M_cost_0 hl rfl ?_ | refine x_aload_nQ hx hb d_M_cost_0 hl rfl ?_
  refine m_get hx hb hts hown hK hw ci_M (rf_at hI 0 (by decide) rfl) 19 (by decide) (wm3 91 rfl rfl) rfl d_M_cost_1 ?_
  refine x_iload_n hx hb d_M_cost_4 hl rfl ?_
  refine rl_19 hx hb hK hI hB hw (by omega) d_M_cost_5 (fun hv5 => ?_)
  refine lv_iconst (v := nI 1) hx hb d_M_cost_6 (by decide) ?_
  refine x_isub hx hb d_M_cost_7 (by omega) ?_
  refine x_istore_n hx hb d_M_cost_8 hl (Nat.le_of_ble_eq_true rfl) (lh_k (i := 1) rfl (by first | exact lk_n | exact lk_i | exact lk_r | exact lk_q | exact lk_0)) (fun ls hl => ?_)
  refine x_iload_n hx hb d_M_cost_9 hl rfl ?_
  refine x_if_ge hx hb d_M_cost_10 rfl (by omega) ?_
  first | refine x_aload_n hx hb d_M_cost_17 hl rfl ?_ | refine x_aload_nQ hx hb d_M_cost_17 hl rfl ?_
  refine m_get hx hb hts hown hK hw ci_M (rf_at hI 0 (by decide) rfl) 18 (by decide) (wm3 90 rfl rfl) rfl d_M_cost_18 ?_
  refine x_iload_n hx hb d_M_cost_21 hl rfl ?_
  refine rl_18 hx hb hK hI hB hw (by omega) d_M_cost_22 (fun hv22 => ?_)
  refine x_istore_n hx hb d_M_cost_23 hl (Nat.le_of_ble_eq_true rfl) (lh_k (i := 2) rfl (by first | exact lk_n | exact lk_i | exact lk_r | exact lk_q | exact lk_0)) (fun ls hl => ?_)
  refine x_iload_n hx hb d_M_cost_24 hl rfl ?_
  refine x_if_ge hx hb d_M_cost_25 rfl (by omega) ?_
  first | refine x_aload_n hx hb d_M_cost_32 hl rfl ?_ | refine x_aload_nQ hx hb d_M_cost_32 hl rfl ?_
  refine m_get hx hb hts hown hK hw ci_M (rf_at hI 0 (by decide) rfl) 17 (by decide) (wm3 89 rfl rfl) rfl d_M_cost_33 ?_
  refine x_iload_n hx hb d_M_cost_36 hl rfl ?_
  refine rl_17 hx hb hK hI hw (by omega) d_M_cost_37 ?_
  refine x_lstore hx hb d_M_cost_38 hl (Nat.le_of_ble_eq_true rfl) (lh_k (i := 3) rfl (by first | exact lk_n | exact lk_i | exact lk_r | exact lk_q | exact lk_0)) (fun ls hl => ?_)
  refine lv_iconst (v := nI 0) hx hb d_M_cost_40 (by decide) ?_
  refine x_istore hx hb d_M_cost_41 hl (Nat.le_of_ble_eq_true rfl) (lh_k (i := 5) rfl (by first | exact lk_n | exact lk_i | exact lk_r | exact lk_q | exact lk_0)) (fun ls hl => ?_)
  refine lv_iconst (v := nI 0) hx hb d_M_cost_43 (by decide) ?_
  refine x_istore hx hb d_M_cost_44 hl (Nat.le_of_ble_eq_true rfl) (lh_k (i := 6) rfl (by first | exact lk_n | exact lk_i | exact lk_r | exact lk_q | exact lk_0)) (fun ls hl => ?_)
  refine lv_iconst (v := nI 0) hx hb d_M_cost_46 (by decide) ?_
  refine x_istore hx hb d_M_cost_47 hl (Nat.le_of_ble_eq_true rfl) (lh_k (i := 7) rfl (by first | exact lk_n | exact lk_i | exact lk_r | exact lk_q | exact lk_0)) (fun ls hl => ?_)
  obtain ⟨m0, hm0⟩ : ∃ m0, m0 = σ 18 (σ 19 k - 1) := ⟨_, rfl⟩
  obtain ⟨Y, hYe⟩ : ∃ Y, Y = σ 17 (σ 19 k - 1) := ⟨_, rfl⟩
  have hY : Y < 2 ^ 48 := by rw [hYe]; exact hX9 _
  have hm9 : m0 < 13 := by rw [hm0]; exact hn8 _
  have hQ2 : cstK σ k = csf (σ 17 k) (σ 18 k) Y m0 13 0 0 false := by unfold cstK; rw [if_neg (by omega), hm0, hYe]
  rw [hQ2] at hQ
  have hl : lh ls [some (.ref (ad 0)), some (.int (nI k)), some (.int (nI (σ 19 k - 1))), some (.int (nI m0)), some (.long (lN Y)), none, some (.int (nI 0)), some (.int (bz false)), some (.int (nI 0)), none, none, none] := by rw [hm0, hYe]; exact hl
  have hX := hX9 k
  have hn9 := hn8 k
  have loopI : ∀ (u j L T p0 : Nat) (sg : Bool) (H : Heap) (locs : List Loc) (ls : Array Slot), j + u = m0 → L ≤ 13 → p0 < 13 → mw E.1 vwCl A s.heap (rfM E σ ad) H locs → lh ls [some (.ref (ad 0)), some (.int (nI k)), some (.int (nI (σ 19 k - 1))), some (.int (nI m0)), some (.long (lN Y)), none, some (.int (nI T)), some (.int (bz sg)), some (.int (nI p0)), some (.int (nI L)), some (.int (nI j)), none] → (∀ (H : Heap) (locs : List Loc) (ls : Array Slot), mw E.1 vwCl A s.heap (rfM E σ ad) H locs → lh ls [some (.ref (ad 0)), some (.int (nI k)), some (.int (nI (σ 19 k - 1))), some (.int (nI m0)), some (.long (lN Y)), none, some (.int (nI T)), some (.int (bz sg)), some (.int (nI p0)), some (.int (nI (lgf (σ 17 k) (σ 18 k) p0 Y m0 u j L))), none, none] → W p l e R s m ag below meth c H locs 0 0 Q (F0 m 118 ls [])) → W p l e R s m ag below meth c H locs 0 0 Q (F0 m 66 ls []) := by
    intro u j L T p0 sg
    induction u generalizing j L with
    | zero =>
      intro H locs ls hj hL hp0 hw hl kk
      refine x_iload hx hb d_M_cost_66 hl rfl ?_
      refine x_iload_n hx hb d_M_cost_68 hl rfl ?_
      refine x_icmp_ge hx hb d_M_cost_69 rfl (by omega) (by omega) (fun h69 => ?_) (fun h69 => ?_)
      · exact kk H locs ls hw (lh_drop 10 (lh_drop 11 hl))
      · exact absurd h69 (by omega)
    | succ u ih =>
      intro H locs ls hj hL hp0 hw hl kk
      have ih := fun j L H locs ls a b => ih j L H locs ls a b hp0
      refine x_iload hx hb d_M_cost_66 hl rfl ?_
      refine x_iload_n hx hb d_M_cost_68 hl rfl ?_
      refine x_icmp_ge hx hb d_M_cost_69 rfl (by omega) (by omega) (fun h69 => ?_) (fun h69 => ?_)
      · exact absurd h69 (by omega)
      · first | refine x_aload_n hx hb d_M_cost_72 hl rfl ?_ | refine x_aload_nQ hx hb d_M_cost_72 hl rfl ?_
        refine m_get hx hb hts hown hK hw ci_M (rf_at hI 0 (by decide) rfl) 17 (by decide) (wm3 89 rfl rfl) rfl d_M_cost_73 ?_
        refine x_iload_n hx hb d_M_cost_76 hl rfl ?_
        refine rl_17 hx hb hK hI hw (by omega) d_M_cost_77 ?_
        first | refine x_aload_n hx hb d_M_cost_78 hl rfl ?_ | refine x_aload_nQ hx hb d_M_cost_78 hl rfl ?_
        refine m_get hx hb hts hown hK hw ci_M (rf_at hI 0 (by decide) rfl) 18 (by decide) (wm3 90 rfl rfl) rfl d_M_cost_79 ?_
        refine x_iload_n hx hb d_M_cost_82 hl rfl ?_
        refine rl_18 hx hb hK hI hB hw (by omega) d_M_cost_83 (fun hv83 => ?_)
        refine x_iload hx hb d_M_cost_84 hl rfl ?_
        refine x_lload hx hb d_M_cost_86 hl rfl ?_
        refine x_iload_n hx hb d_M_cost_88 hl rfl ?_
        refine x_iload hx hb d_M_cost_89 hl rfl ?_
        refine m_calli (k_S ⟨hx, hb, hml, hown, hts⟩ hE hA hw (c_M_piece hX hY (by omega) (by omega) (by omega) (by omega)) (wm4 67 rfl rfl) (wm4 68 rfl rfl) (wm1 9 rfl rfl) (wm4 69 rfl rfl) rfl rfl ar_M_piece ⟨Nat.le_trans (Nat.le_of_ble_eq_true rfl) hR.1, Nat.le_trans (Nat.le_of_ble_eq_true rfl) hR.2.1⟩ rfl hl.1 rfl (Nat.le_of_ble_eq_true rfl) d_M_cost_91 ⟨Nat.le_trans (Nat.le_of_ble_eq_true rfl) hR.2.2.1, Nat.le_trans (Nat.le_of_ble_eq_true rfl) hR.2.2.2⟩) hw (mfr_in hw hA) (fun r91 M91 H locs hP91 hw => ?_)
        obtain ⟨rfl, hM91⟩ := hP91
        rw [hM91] at hw
        have hp9 := pcf_le (X := σ 17 k) (n := σ 18 k) (k := p0) (Y := Y) (m := m0) (j := j) 13 0
        refine x_istore hx hb d_M_cost_94 hl (Nat.le_of_ble_eq_true rfl) (lh_k (i := 10) rfl (by first | exact lk_n | exact lk_i | exact lk_r | exact lk_q | exact lk_0)) (fun ls hl => ?_)
        refine x_iload hx hb d_M_cost_96 hl rfl ?_
        refine x_iload hx hb d_M_cost_98 hl rfl ?_
        refine x_icmp_le hx hb d_M_cost_100 rfl (by omega) (by omega) (fun h100 => ?_) (fun h100 => ?_)
        · have hif : (if L < pcf (σ 17 k) (σ 18 k) p0 Y m0 j 13 0 then pcf (σ 17 k) (σ 18 k) p0 Y m0 j 13 0 else L) = L := if_neg (by omega)
          refine x_iload hx hb d_M_cost_108 hl rfl ?_
          refine x_istore hx hb d_M_cost_110 hl (Nat.le_of_ble_eq_true rfl) (lh_k (i := 8) rfl (by first | exact lk_n | exact lk_i | exact lk_r | exact lk_q | exact lk_0)) (fun ls hl => ?_)
          refine x_iincN hx hb d_M_cost_112 hl rfl (lh_k (i := 9) rfl (by first | exact lk_n | exact lk_i | exact lk_r | exact lk_q | exact lk_0)) (fun ls hl => ?_)
          refine lv_goto hx hb d_M_cost_115 rfl ?_
          refine ih (j + 1) _ H locs ls (by omega) (by omega) hw (lh_drop 11 hl) (fun H locs ls hw hl => kk H locs ls hw ?_)
          unfold lgf
          rw [hif]
          exact hl
        · have hif : (if L < pcf (σ 17 k) (σ 18 k) p0 Y m0 j 13 0 then pcf (σ 17 k) (σ 18 k) p0 Y m0 j 13 0 else L) = pcf (σ 17 k) (σ 18 k) p0 Y m0 j 13 0 := if_pos (by omega)
          refine x_iload hx hb d_M_cost_103 hl rfl ?_
          refine lv_goto hx hb d_M_cost_105 rfl ?_
          refine x_istore hx hb d_M_cost_110 hl (Nat.le_of_ble_eq_true rfl) (lh_k (i := 8) rfl (by first | exact lk_n | exact lk_i | exact lk_r | exact lk_q | exact lk_0)) (fun ls hl => ?_)
          refine x_iincN hx hb d_M_cost_112 hl rfl (lh_k (i := 9) rfl (by first | exact lk_n | exact lk_i | exact lk_r | exact lk_q | exact lk_0)) (fun ls hl => ?_)
          refine lv_goto hx hb d_M_cost_115 rfl ?_
          refine ih (j + 1) _ H locs ls (by omega) (by omega) hw (lh_drop 11 hl) (fun H locs ls hw hl => kk H locs ls hw ?_)
          unfold lgf
          rw [hif]
          exact hl
  have loopO : ∀ (u p0 T : Nat) (sg : Bool) (H : Heap) (locs : List Loc) (ls : Array Slot), σ 18 k < p0 + u → p0 ≤ 26 → mw E.1 vwCl A s.heap (rfM E σ ad) H locs → lh ls [some (.ref (ad 0)), some (.int (nI k)), some (.int (nI (σ 19 k - 1))), some (.int (nI m0)), some (.long (lN Y)), none, some (.int (nI T)), some (.int (bz sg)), some (.int (nI p0)), none, none, none] → csf (σ 17 k) (σ 18 k) Y m0 u p0 T sg = csf (σ 17 k) (σ 18 k) Y m0 13 0 0 false → W p l e R s m ag below meth c H locs 0 0 Q (F0 m 49 ls []) := by
    intro u
    induction u with
    | zero =>
      intro p0 T sg H locs ls hu hp26 hw hl hT
      refine x_iload hx hb d_M_cost_49 hl rfl ?_
      first | refine x_aload_n hx hb d_M_cost_51 hl rfl ?_ | refine x_aload_nQ hx hb d_M_cost_51 hl rfl ?_
      refine m_get hx hb hts hown hK hw ci_M (rf_at hI 0 (by decide) rfl) 18 (by decide) (wm3 90 rfl rfl) rfl d_M_cost_52 ?_
      refine x_iload_n hx hb d_M_cost_55 hl rfl ?_
      refine rl_18 hx hb hK hI hB hw (by omega) d_M_cost_56 (fun hv56 => ?_)
      refine x_icmp_ge hx hb d_M_cost_57 rfl (by omega) (by omega) (fun h57 => ?_) (fun h57 => ?_)
      · refine x_iload hx hb d_M_cost_176 hl rfl ?_
        exact x_reti hQ hx hb hr hlk rfl hw (by omega) (by omega) d_M_cost_178 (⟨by rw [← hT]; rfl, rfl⟩)
      · exact absurd h57 (by omega)
    | succ u ih =>
      intro p0 T sg H locs ls hu hp26 hw hl hT
      refine x_iload hx hb d_M_cost_49 hl rfl ?_
      first | refine x_aload_n hx hb d_M_cost_51 hl rfl ?_ | refine x_aload_nQ hx hb d_M_cost_51 hl rfl ?_
      refine m_get hx hb hts hown hK hw ci_M (rf_at hI 0 (by decide) rfl) 18 (by decide) (wm3 90 rfl rfl) rfl d_M_cost_52 ?_
      refine x_iload_n hx hb d_M_cost_55 hl rfl ?_
      refine rl_18 hx hb hK hI hB hw (by omega) d_M_cost_56 (fun hv56 => ?_)
      refine x_icmp_ge hx hb d_M_cost_57 rfl (by omega) (by omega) (fun h57 => ?_) (fun h57 => ?_)
      · have hT2 := csf_e (X := σ 17 k) (n := σ 18 k) (Y := Y) (m := m0) (p := p0) (T := T) (s := sg) h57 (u + 1)
        refine x_iload hx hb d_M_cost_176 hl rfl ?_
        exact x_reti hQ hx hb hr hlk rfl hw (by omega) (by omega) d_M_cost_178 (⟨by rw [← hT, hT2], rfl⟩)
      · refine lv_iconst (v := nI 0) hx hb d_M_cost_60 (by decide) ?_
        refine x_istore hx hb d_M_cost_61 hl (Nat.le_of_ble_eq_true rfl) (lh_k (i := 8) rfl (by first | exact lk_n | exact lk_i | exact lk_r | exact lk_q | exact lk_0)) (fun ls hl => ?_)
        refine lv_iconst (v := nI 0) hx hb d_M_cost_63 (by decide) ?_
        refine x_istore hx hb d_M_cost_64 hl (Nat.le_of_ble_eq_true rfl) (lh_k (i := 9) rfl (by first | exact lk_n | exact lk_i | exact lk_r | exact lk_q | exact lk_0)) (fun ls hl => ?_)
        refine loopI m0 0 0 T p0 sg H locs ls (by omega) (by omega) (by omega) hw hl (fun H locs ls hw hl => ?_)
        have hL9 := lgf_le (X := σ 17 k) (n := σ 18 k) (p := p0) (Y := Y) (m := m0) m0 0 0 (by omega)
        refine x_iload hx hb d_M_cost_118 hl rfl ?_
        refine x_iload hx hb d_M_cost_120 hl rfl ?_
        refine lv_iconst (v := nI 3) hx hb d_M_cost_122 (by decide) ?_
        refine x_icmp_lt hx hb d_M_cost_123 rfl (by omega) (by omega) (fun h123 => ?_) (fun h123 => ?_)
        · have hT2 := csf_2 (X := σ 17 k) (Y := Y) (m := m0) (u := u) (T := T) (s := sg) h57 h123
          refine x_iload hx hb d_M_cost_130 hl rfl ?_
          refine x_if_eqB hx hb d_M_cost_132 rfl (fun h132 => ?_) (fun h132 => ?_)
          · subst h132
            refine lv_iconst (v := nI 2) hx hb d_M_cost_139 (by decide) ?_
            first | refine x_iadd hx hb d_M_cost_140 ?_ | refine lv_iadd hx hb d_M_cost_140 ?_
            refine x_istore hx hb d_M_cost_141 hl (Nat.le_of_ble_eq_true rfl) (lh_k (i := 5) rfl (by first | exact lk_n | exact lk_i | exact lk_r | exact lk_q | exact lk_0)) (fun ls hl => ?_)
            refine x_iload hx hb d_M_cost_143 hl rfl ?_
            refine lv_iconst (v := nI 3) hx hb d_M_cost_145 (by decide) ?_
            refine x_icmp_ge hx hb d_M_cost_146 rfl (by omega) (by omega) (fun h146 => ?_) (fun h146 => ?_)
            · first
                | exact absurd h146 (by omega)
                | refine lv_iconst (v := nI 0) hx hb d_M_cost_153 (by decide) ?_
                  refine x_istore hx hb d_M_cost_154 hl (Nat.le_of_ble_eq_true rfl) (lh_k (i := 6) rfl (by first | exact lk_n | exact lk_i | exact lk_r | exact lk_q | exact lk_0)) (fun ls hl => ?_)
                  refine x_iload hx hb d_M_cost_156 hl rfl ?_
                  refine x_iload hx hb d_M_cost_158 hl rfl ?_
                  refine lv_iconst (v := nI 3) hx hb d_M_cost_160 (by decide) ?_
                  refine x_icmp_lt hx hb d_M_cost_161 rfl (by omega) (by omega) (fun h161 => ?_) (fun h161 => ?_)
                  · first
                      | exact absurd h161 (by omega)
                      | refine lv_iconst (v := nI 1) hx hb d_M_cost_169 (by decide) ?_
                        first | refine x_iadd hx hb d_M_cost_170 ?_ | refine lv_iadd hx hb d_M_cost_170 ?_
                        refine x_istore hx hb d_M_cost_171 hl (Nat.le_of_ble_eq_true rfl) (lh_k (i := 7) rfl (by first | exact lk_n | exact lk_i | exact lk_r | exact lk_q | exact lk_0)) (fun ls hl => ?_)
                        refine lv_goto hx hb d_M_cost_173 rfl ?_
                        first | exact ih _ _ true H locs ls (by omega) (by omega) hw (lh_drop 9 hl) (hT2.symm.trans hT) | exact ih _ _ false H locs ls (by omega) (by omega) hw (lh_drop 9 hl) (hT2.symm.trans hT)
                  · first
                      | exact absurd h161 (by omega)
                      | refine x_iload hx hb d_M_cost_164 hl rfl ?_
                        refine lv_goto hx hb d_M_cost_166 rfl ?_
                        first | refine x_iadd hx hb d_M_cost_170 ?_ | refine lv_iadd hx hb d_M_cost_170 ?_
                        refine x_istore hx hb d_M_cost_171 hl (Nat.le_of_ble_eq_true rfl) (lh_k (i := 7) rfl (by first | exact lk_n | exact lk_i | exact lk_r | exact lk_q | exact lk_0)) (fun ls hl => ?_)
                        refine lv_goto hx hb d_M_cost_173 rfl ?_
                        first | exact ih _ _ true H locs ls (by omega) (by omega) hw (lh_drop 9 hl) (hT2.symm.trans hT) | exact ih _ _ false H locs ls (by omega) (by omega) hw (lh_drop 9 hl) (hT2.symm.trans hT)
            · first
                | exact absurd h146 (by omega)
                | refine lv_iconst (v := nI 1) hx hb d_M_cost_149 (by decide) ?_
                  refine lv_goto hx hb d_M_cost_150 rfl ?_
                  refine x_istore hx hb d_M_cost_154 hl (Nat.le_of_ble_eq_true rfl) (lh_k (i := 6) rfl (by first | exact lk_n | exact lk_i | exact lk_r | exact lk_q | exact lk_0)) (fun ls hl => ?_)
                  refine x_iload hx hb d_M_cost_156 hl rfl ?_
                  refine x_iload hx hb d_M_cost_158 hl rfl ?_
                  refine lv_iconst (v := nI 3) hx hb d_M_cost_160 (by decide) ?_
                  refine x_icmp_lt hx hb d_M_cost_161 rfl (by omega) (by omega) (fun h161 => ?_) (fun h161 => ?_)
                  · first
                      | exact absurd h161 (by omega)
                      | refine lv_iconst (v := nI 1) hx hb d_M_cost_169 (by decide) ?_
                        first | refine x_iadd hx hb d_M_cost_170 ?_ | refine lv_iadd hx hb d_M_cost_170 ?_
                        refine x_istore hx hb d_M_cost_171 hl (Nat.le_of_ble_eq_true rfl) (lh_k (i := 7) rfl (by first | exact lk_n | exact lk_i | exact lk_r | exact lk_q | exact lk_0)) (fun ls hl => ?_)
                        refine lv_goto hx hb d_M_cost_173 rfl ?_
                        first | exact ih _ _ true H locs ls (by omega) (by omega) hw (lh_drop 9 hl) (hT2.symm.trans hT) | exact ih _ _ false H locs ls (by omega) (by omega) hw (lh_drop 9 hl) (hT2.symm.trans hT)
                  · first
                      | exact absurd h161 (by omega)
                      | refine x_iload hx hb d_M_cost_164 hl rfl ?_
                        refine lv_goto hx hb d_M_cost_166 rfl ?_
                        first | refine x_iadd hx hb d_M_cost_170 ?_ | refine lv_iadd hx hb d_M_cost_170 ?_
                        refine x_istore hx hb d_M_cost_171 hl (Nat.le_of_ble_eq_true rfl) (lh_k (i := 7) rfl (by first | exact lk_n | exact lk_i | exact lk_r | exact lk_q | exact lk_0)) (fun ls hl => ?_)
                        refine lv_goto hx hb d_M_cost_173 rfl ?_
                        first | exact ih _ _ true H locs ls (by omega) (by omega) hw (lh_drop 9 hl) (hT2.symm.trans hT) | exact ih _ _ false H locs ls (by omega) (by omega) hw (lh_drop 9 hl) (hT2.symm.trans hT)
          · subst h132
            refine lv_iconst (v := nI 1) hx hb d_M_cost_135 (by decide) ?_
            refine lv_goto hx hb d_M_cost_136 rfl ?_
            first | refine x_iadd hx hb d_M_cost_140 ?_ | refine lv_iadd hx hb d_M_cost_140 ?_
            refine x_istore hx hb d_M_cost_141 hl (Nat.le_of_ble_eq_true rfl) (lh_k (i := 5) rfl (by first | exact lk_n | exact lk_i | exact lk_r | exact lk_q | exact lk_0)) (fun ls hl => ?_)
            refine x_iload hx hb d_M_cost_143 hl rfl ?_
            refine lv_iconst (v := nI 3) hx hb d_M_cost_145 (by decide) ?_
            refine x_icmp_ge hx hb d_M_cost_146 rfl (by omega) (by omega) (fun h146 => ?_) (fun h146 => ?_)
            · first
                | exact absurd h146 (by omega)
                | refine lv_iconst (v := nI 0) hx hb d_M_cost_153 (by decide) ?_
                  refine x_istore hx hb d_M_cost_154 hl (Nat.le_of_ble_eq_true rfl) (lh_k (i := 6) rfl (by first | exact lk_n | exact lk_i | exact lk_r | exact lk_q | exact lk_0)) (fun ls hl => ?_)
                  refine x_iload hx hb d_M_cost_156 hl rfl ?_
                  refine x_iload hx hb d_M_cost_158 hl rfl ?_
                  refine lv_iconst (v := nI 3) hx hb d_M_cost_160 (by decide) ?_
                  refine x_icmp_lt hx hb d_M_cost_161 rfl (by omega) (by omega) (fun h161 => ?_) (fun h161 => ?_)
                  · first
                      | exact absurd h161 (by omega)
                      | refine lv_iconst (v := nI 1) hx hb d_M_cost_169 (by decide) ?_
                        first | refine x_iadd hx hb d_M_cost_170 ?_ | refine lv_iadd hx hb d_M_cost_170 ?_
                        refine x_istore hx hb d_M_cost_171 hl (Nat.le_of_ble_eq_true rfl) (lh_k (i := 7) rfl (by first | exact lk_n | exact lk_i | exact lk_r | exact lk_q | exact lk_0)) (fun ls hl => ?_)
                        refine lv_goto hx hb d_M_cost_173 rfl ?_
                        first | exact ih _ _ true H locs ls (by omega) (by omega) hw (lh_drop 9 hl) (hT2.symm.trans hT) | exact ih _ _ false H locs ls (by omega) (by omega) hw (lh_drop 9 hl) (hT2.symm.trans hT)
                  · first
                      | exact absurd h161 (by omega)
                      | refine x_iload hx hb d_M_cost_164 hl rfl ?_
                        refine lv_goto hx hb d_M_cost_166 rfl ?_
                        first | refine x_iadd hx hb d_M_cost_170 ?_ | refine lv_iadd hx hb d_M_cost_170 ?_
                        refine x_istore hx hb d_M_cost_171 hl (Nat.le_of_ble_eq_true rfl) (lh_k (i := 7) rfl (by first | exact lk_n | exact lk_i | exact lk_r | exact lk_q | exact lk_0)) (fun ls hl => ?_)
                        refine lv_goto hx hb d_M_cost_173 rfl ?_
                        first | exact ih _ _ true H locs ls (by omega) (by omega) hw (lh_drop 9 hl) (hT2.symm.trans hT) | exact ih _ _ false H locs ls (by omega) (by omega) hw (lh_drop 9 hl) (hT2.symm.trans hT)
            · first
                | exact absurd h146 (by omega)
                | refine lv_iconst (v := nI 1) hx hb d_M_cost_149 (by decide) ?_
                  refine lv_goto hx hb d_M_cost_150 rfl ?_
                  refine x_istore hx hb d_M_cost_154 hl (Nat.le_of_ble_eq_true rfl) (lh_k (i := 6) rfl (by first | exact lk_n | exact lk_i | exact lk_r | exact lk_q | exact lk_0)) (fun ls hl => ?_)
                  refine x_iload hx hb d_M_cost_156 hl rfl ?_
                  refine x_iload hx hb d_M_cost_158 hl rfl ?_
                  refine lv_iconst (v := nI 3) hx hb d_M_cost_160 (by decide) ?_
                  refine x_icmp_lt hx hb d_M_cost_161 rfl (by omega) (by omega) (fun h161 => ?_) (fun h161 => ?_)
                  · first
                      | exact absurd h161 (by omega)
                      | refine lv_iconst (v := nI 1) hx hb d_M_cost_169 (by decide) ?_
                        first | refine x_iadd hx hb d_M_cost_170 ?_ | refine lv_iadd hx hb d_M_cost_170 ?_
                        refine x_istore hx hb d_M_cost_171 hl (Nat.le_of_ble_eq_true rfl) (lh_k (i := 7) rfl (by first | exact lk_n | exact lk_i | exact lk_r | exact lk_q | exact lk_0)) (fun ls hl => ?_)
                        refine lv_goto hx hb d_M_cost_173 rfl ?_
                        first | exact ih _ _ true H locs ls (by omega) (by omega) hw (lh_drop 9 hl) (hT2.symm.trans hT) | exact ih _ _ false H locs ls (by omega) (by omega) hw (lh_drop 9 hl) (hT2.symm.trans hT)
                  · first
                      | exact absurd h161 (by omega)
                      | refine x_iload hx hb d_M_cost_164 hl rfl ?_
                        refine lv_goto hx hb d_M_cost_166 rfl ?_
                        first | refine x_iadd hx hb d_M_cost_170 ?_ | refine lv_iadd hx hb d_M_cost_170 ?_
                        refine x_istore hx hb d_M_cost_171 hl (Nat.le_of_ble_eq_true rfl) (lh_k (i := 7) rfl (by first | exact lk_n | exact lk_i | exact lk_r | exact lk_q | exact lk_0)) (fun ls hl => ?_)
                        refine lv_goto hx hb d_M_cost_173 rfl ?_
                        first | exact ih _ _ true H locs ls (by omega) (by omega) hw (lh_drop 9 hl) (hT2.symm.trans hT) | exact ih _ _ false H locs ls (by omega) (by omega) hw (lh_drop 9 hl) (hT2.symm.trans hT)
        · have hT2 := csf_1 (X := σ 17 k) (Y := Y) (m := m0) (u := u) (T := T) (s := sg) h57 h123
          refine lv_iconst (v := nI 2) hx hb d_M_cost_126 (by decide) ?_
          refine lv_goto hx hb d_M_cost_127 rfl ?_
          first | refine x_iadd hx hb d_M_cost_140 ?_ | refine lv_iadd hx hb d_M_cost_140 ?_
          refine x_istore hx hb d_M_cost_141 hl (Nat.le_of_ble_eq_true rfl) (lh_k (i := 5) rfl (by first | exact lk_n | exact lk_i | exact lk_r | exact lk_q | exact lk_0)) (fun ls hl => ?_)
          refine x_iload hx hb d_M_cost_143 hl rfl ?_
          refine lv_iconst (v := nI 3) hx hb d_M_cost_145 (by decide) ?_
          refine x_icmp_ge hx hb d_M_cost_146 rfl (by omega) (by omega) (fun h146 => ?_) (fun h146 => ?_)
          · first
              | exact absurd h146 (by omega)
              | refine lv_iconst (v := nI 0) hx hb d_M_cost_153 (by decide) ?_
                refine x_istore hx hb d_M_cost_154 hl (Nat.le_of_ble_eq_true rfl) (lh_k (i := 6) rfl (by first | exact lk_n | exact lk_i | exact lk_r | exact lk_q | exact lk_0)) (fun ls hl => ?_)
                refine x_iload hx hb d_M_cost_156 hl rfl ?_
                refine x_iload hx hb d_M_cost_158 hl rfl ?_
                refine lv_iconst (v := nI 3) hx hb d_M_cost_160 (by decide) ?_
                refine x_icmp_lt hx hb d_M_cost_161 rfl (by omega) (by omega) (fun h161 => ?_) (fun h161 => ?_)
                · first
                    | exact absurd h161 (by omega)
                    | refine lv_iconst (v := nI 1) hx hb d_M_cost_169 (by decide) ?_
                      first | refine x_iadd hx hb d_M_cost_170 ?_ | refine lv_iadd hx hb d_M_cost_170 ?_
                      refine x_istore hx hb d_M_cost_171 hl (Nat.le_of_ble_eq_true rfl) (lh_k (i := 7) rfl (by first | exact lk_n | exact lk_i | exact lk_r | exact lk_q | exact lk_0)) (fun ls hl => ?_)
                      refine lv_goto hx hb d_M_cost_173 rfl ?_
                      first | exact ih _ _ true H locs ls (by omega) (by omega) hw (lh_drop 9 hl) (hT2.symm.trans hT) | exact ih _ _ false H locs ls (by omega) (by omega) hw (lh_drop 9 hl) (hT2.symm.trans hT)
                · first
                    | exact absurd h161 (by omega)
                    | refine x_iload hx hb d_M_cost_164 hl rfl ?_
                      refine lv_goto hx hb d_M_cost_166 rfl ?_
                      first | refine x_iadd hx hb d_M_cost_170 ?_ | refine lv_iadd hx hb d_M_cost_170 ?_
                      refine x_istore hx hb d_M_cost_171 hl (Nat.le_of_ble_eq_true rfl) (lh_k (i := 7) rfl (by first | exact lk_n | exact lk_i | exact lk_r | exact lk_q | exact lk_0)) (fun ls hl => ?_)
                      refine lv_goto hx hb d_M_cost_173 rfl ?_
                      first | exact ih _ _ true H locs ls (by omega) (by omega) hw (lh_drop 9 hl) (hT2.symm.trans hT) | exact ih _ _ false H locs ls (by omega) (by omega) hw (lh_drop 9 hl) (hT2.symm.trans hT)
          · first
              | exact absurd h146 (by omega)
              | refine lv_iconst (v := nI 1) hx hb d_M_cost_149 (by decide) ?_
                refine lv_goto hx hb d_M_cost_150 rfl ?_
                refine x_istore hx hb d_M_cost_154 hl (Nat.le_of_ble_eq_true rfl) (lh_k (i := 6) rfl (by first | exact lk_n | exact lk_i | exact lk_r | exact lk_q | exact lk_0)) (fun ls hl => ?_)
                refine x_iload hx hb d_M_cost_156 hl rfl ?_
                refine x_iload hx hb d_M_cost_158 hl rfl ?_
                refine lv_iconst (v := nI 3) hx hb d_M_cost_160 (by decide) ?_
                refine x_icmp_lt hx hb d_M_cost_161 rfl (by omega) (by omega) (fun h161 => ?_) (fun h161 => ?_)
                · first
                    | exact absurd h161 (by omega)
                    | refine lv_iconst (v := nI 1) hx hb d_M_cost_169 (by decide) ?_
                      first | refine x_iadd hx hb d_M_cost_170 ?_ | refine lv_iadd hx hb d_M_cost_170 ?_
                      refine x_istore hx hb d_M_cost_171 hl (Nat.le_of_ble_eq_true rfl) (lh_k (i := 7) rfl (by first | exact lk_n | exact lk_i | exact lk_r | exact lk_q | exact lk_0)) (fun ls hl => ?_)
                      refine lv_goto hx hb d_M_cost_173 rfl ?_
                      first | exact ih _ _ true H locs ls (by omega) (by omega) hw (lh_drop 9 hl) (hT2.symm.trans hT) | exact ih _ _ false H locs ls (by omega) (by omega) hw (lh_drop 9 hl) (hT2.symm.trans hT)
                · first
                    | exact absurd h161 (by omega)
                    | refine x_iload hx hb d_M_cost_164 hl rfl ?_
                      refine lv_goto hx hb d_M_cost_166 rfl ?_
                      first | refine x_iadd hx hb d_M_cost_170 ?_ | refine lv_iadd hx hb d_M_cost_170 ?_
                      refine x_istore hx hb d_M_cost_171 hl (Nat.le_of_ble_eq_true rfl) (lh_k (i := 7) rfl (by first | exact lk_n | exact lk_i | exact lk_r | exact lk_q | exact lk_0)) (fun ls hl => ?_)
                      refine lv_goto hx hb d_M_cost_173 rfl ?_
                      first | exact ih _ _ true H locs ls (by omega) (by omega) hw (lh_drop 9 hl) (hT2.symm.trans hT) | exact ih _ _ false H locs ls (by omega) (by omega) hw (lh_drop 9 hl) (hT2.symm.trans hT)
  exact loopO 13 0 0 false _ _ _ (by omega) (by omega) hw hl rfl
end
section
/-! storing a text, as a function of the state -/
section STO
theorem nx_nd (a b : Nat) : nI a &&& nI b = nI (a &&& b) := by
  apply Int32.toBitVec_inj.mp
  rw [Int32.toBitVec_and]
  show BitVec.ofNat 32 a &&& BitVec.ofNat 32 b = BitVec.ofNat 32 (a &&& b)
  apply BitVec.eq_of_toNat_eq
  rw [BitVec.toNat_and, BitVec.toNat_ofNat, BitVec.toNat_ofNat, BitVec.toNat_ofNat, Nat.and_mod_two_pow]
theorem cmp_eq {x y : Nat} (hx : x < 2 ^ 63) (hy : y < 2 ^ 63) : lg_cmp (lN x) (lN y) = 0 ↔ x = y := by
  unfold lg_cmp
  constructor
  · intro h
    split at h
    · exact absurd h (by decide)
    · split at h
      · next e => exact (pk_lEQ hx hy).mp e
      · exact absurd h (by decide)
  · rintro rfl
    rw [if_neg (by show ¬ lN x < lN x; rw [pk_lLT hx hx]; omega), if_pos rfl]
/-- how far back the base of a text of count c is sought -/
def frb (c : Nat) : Nat := c - (c &&& (c - 1))
theorem frb_0 : frb 0 = 0 := by decide
def eqf (τ : SS) (n : Nat) : Nat → Nat → Nat
  | 0, k => k
  | u + 1, k => if τ 18 k = τ 7 n ∧ τ 17 k = τ 9 n then k else eqf τ n u (k + 1)
theorem eqf_le {τ : SS} {n : Nat} : ∀ u k, eqf τ n u k ≤ k + u
  | 0, k => Nat.le_refl _
  | u + 1, k => by
    unfold eqf
    split
    · omega
    · have := eqf_le (τ := τ) (n := n) u (k + 1)
      omega
def anc (τ : SS) : Nat → Nat → Nat
  | 0, a => a
  | u + 1, a => anc τ u (τ 13 a)
def st5 (τ : SS) (n bv cv : Nat) : SS := sp (sp (sp (sp (sp (sp τ 17 (τ 16 0) (τ 9 n)) 18 (τ 16 0) (τ 7 n)) 19 (τ 16 0) bv) 20 (τ 16 0) cv) 16 0 (τ 16 0 + 1)) 15 n (τ 16 0 + 1)
/-- the representation of the ancestor, plus one -/
def oldf (τ : SS) (n : Nat) : Nat := if τ 6 (anc τ (frb (τ 11 n)) n) = 2 ∧ 0 < τ 11 n then τ 15 (anc τ (frb (τ 11 n)) n) else 0
def st3 (τ : SS) (n : Nat) : SS := if 0 < oldf τ n ∧ τ 20 (oldf τ n - 1) < 1 + alw 20 (τ 11 n) 0 then st5 τ n (oldf τ n) (τ 20 (oldf τ n - 1) + 1) else st5 τ n 0 1
def st2 (τ : SS) (n : Nat) : SS := if τ 7 n = 0 then τ else if eqf τ n (τ 16 0) 0 < τ 16 0 then sp τ 15 n (eqf τ n (τ 16 0) 0 + 1) else st3 τ n
/-- the text of node n is stored -/
def stf (σ : SS) (n : Nat) : SS := st2 (sp σ 15 n 0) n
theorem st2_0 {τ : SS} {n : Nat} (h : τ 7 n = 0) : st2 τ n = τ := if_pos h
theorem st2_1 {τ : SS} {n k : Nat} (h : τ 7 n ≠ 0) (h1 : eqf τ n (τ 16 0) 0 = k) (h2 : k < τ 16 0) : st2 τ n = sp τ 15 n (k + 1) := by
  unfold st2
  rw [if_neg h, if_pos (by omega), h1]
theorem st2_3 {τ : SS} {n : Nat} (h : τ 7 n ≠ 0) (h1 : eqf τ n (τ 16 0) 0 = τ 16 0) : st2 τ n = st3 τ n := by
  unfold st2
  rw [if_neg h, if_neg (by omega)]
theorem oldf_0 {τ : SS} {n a : Nat} (ha : anc τ (frb (τ 11 n)) n = a) (h : τ 6 a ≠ 2 ∨ τ 11 n = 0) : oldf τ n = 0 := by
  unfold oldf
  rw [ha, if_neg]
  rintro ⟨z1, z2⟩
  rcases h with h | h
  · exact h z1
  · omega
theorem oldf_1 {τ : SS} {n a : Nat} (ha : anc τ (frb (τ 11 n)) n = a) (h : τ 6 a = 2) (h2 : 0 < τ 11 n) : oldf τ n = τ 15 a := by
  unfold oldf
  rw [ha, if_pos ⟨h, h2⟩]
theorem st3_f {τ : SS} {n o : Nat} (ho : oldf τ n = o) (h : o = 0 ∨ 1 + alw 20 (τ 11 n) 0 ≤ τ 20 (o - 1)) : st3 τ n = st5 τ n 0 1 := by
  unfold st3
  rw [ho, if_neg]
  rintro ⟨z1, z2⟩
  omega
theorem st3_t {τ : SS} {n o : Nat} (ho : oldf τ n = o) (h : 0 < o) (h2 : τ 20 (o - 1) < 1 + alw 20 (τ 11 n) 0) : st3 τ n = st5 τ n o (τ 20 (o - 1) + 1) := by
  unfold st3
  rw [ho, if_pos ⟨h, h2⟩]
theorem alw_le {c : Nat} : ∀ u k, alw u c k ≤ k + u
  | 0, k => Nat.le_refl _
  | u + 1, k => by
    unfold alw
    split
    · have := alw_le (c := c) u (k + 1)
      omega
    · omega
end STO
end
section
theorem d_M_stored_0 : decode prog_10_method_46_code 0 = .ok (.iload_n 1, 1) := by decide +kernel
theorem d_M_stored_1 : decode prog_10_method_46_code 1 = .ok (.ifCond .lt 11, 3) := by decide +kernel
theorem d_M_stored_4 : decode prog_10_method_46_code 4 = .ok (.iload_n 1, 1) := by decide +kernel
theorem d_M_stored_5 : decode prog_10_method_46_code 5 = .ok (.aload_n 0, 1) := by decide +kernel
theorem d_M_stored_6 : decode prog_10_method_46_code 6 = .ok (.getfield 142, 3) := by decide +kernel
theorem d_M_stored_9 : decode prog_10_method_46_code 9 = .ok (.if_icmp .lt 5, 3) := by decide +kernel
theorem d_M_stored_12 : decode prog_10_method_46_code 12 = .ok (.iconst (-1), 1) := by decide +kernel
theorem d_M_stored_13 : decode prog_10_method_46_code 13 = .ok (.ireturn, 1) := by decide +kernel
theorem d_M_stored_14 : decode prog_10_method_46_code 14 = .ok (.iload_n 2, 1) := by decide +kernel
theorem d_M_stored_15 : decode prog_10_method_46_code 15 = .ok (.ifCond .ne 12, 3) := by decide +kernel
theorem d_M_stored_18 : decode prog_10_method_46_code 18 = .ok (.aload_n 0, 1) := by decide +kernel
theorem d_M_stored_19 : decode prog_10_method_46_code 19 = .ok (.getfield 59, 3) := by decide +kernel
theorem d_M_stored_22 : decode prog_10_method_46_code 22 = .ok (.iload_n 1, 1) := by decide +kernel
theorem d_M_stored_23 : decode prog_10_method_46_code 23 = .ok (.saload, 1) := by decide +kernel
theorem d_M_stored_24 : decode prog_10_method_46_code 24 = .ok (.iconst 1, 1) := by decide +kernel
theorem d_M_stored_25 : decode prog_10_method_46_code 25 = .ok (.isub, 1) := by decide +kernel
theorem d_M_stored_26 : decode prog_10_method_46_code 26 = .ok (.ireturn, 1) := by decide +kernel
theorem d_M_stored_27 : decode prog_10_method_46_code 27 = .ok (.iload_n 2, 1) := by decide +kernel
theorem d_M_stored_28 : decode prog_10_method_46_code 28 = .ok (.iconst 1, 1) := by decide +kernel
theorem d_M_stored_29 : decode prog_10_method_46_code 29 = .ok (.if_icmp .ne 12, 3) := by decide +kernel
theorem d_M_stored_32 : decode prog_10_method_46_code 32 = .ok (.aload_n 0, 1) := by decide +kernel
theorem d_M_stored_33 : decode prog_10_method_46_code 33 = .ok (.getfield 62, 3) := by decide +kernel
theorem d_M_stored_36 : decode prog_10_method_46_code 36 = .ok (.iload_n 1, 1) := by decide +kernel
theorem d_M_stored_37 : decode prog_10_method_46_code 37 = .ok (.baload, 1) := by decide +kernel
theorem d_M_stored_38 : decode prog_10_method_46_code 38 = .ok (.goto 31, 3) := by decide +kernel
theorem d_M_stored_41 : decode prog_10_method_46_code 41 = .ok (.iload_n 2, 1) := by decide +kernel
theorem d_M_stored_42 : decode prog_10_method_46_code 42 = .ok (.iconst 2, 1) := by decide +kernel
theorem d_M_stored_43 : decode prog_10_method_46_code 43 = .ok (.if_icmp .ne 11, 3) := by decide +kernel
theorem d_M_stored_46 : decode prog_10_method_46_code 46 = .ok (.aload_n 0, 1) := by decide +kernel
theorem d_M_stored_47 : decode prog_10_method_46_code 47 = .ok (.iload_n 1, 1) := by decide +kernel
theorem d_M_stored_48 : decode prog_10_method_46_code 48 = .ok (.invokevirtual 170, 3) := by decide +kernel
theorem d_M_stored_51 : decode prog_10_method_46_code 51 = .ok (.goto 18, 3) := by decide +kernel
theorem d_M_stored_54 : decode prog_10_method_46_code 54 = .ok (.iload_n 2, 1) := by decide +kernel
theorem d_M_stored_55 : decode prog_10_method_46_code 55 = .ok (.iconst 3, 1) := by decide +kernel
theorem d_M_stored_56 : decode prog_10_method_46_code 56 = .ok (.if_icmp .ne 12, 3) := by decide +kernel
theorem d_M_stored_59 : decode prog_10_method_46_code 59 = .ok (.aload_n 0, 1) := by decide +kernel
theorem d_M_stored_60 : decode prog_10_method_46_code 60 = .ok (.getfield 56, 3) := by decide +kernel
theorem d_M_stored_63 : decode prog_10_method_46_code 63 = .ok (.iload_n 1, 1) := by decide +kernel
theorem d_M_stored_64 : decode prog_10_method_46_code 64 = .ok (.baload, 1) := by decide +kernel
theorem d_M_stored_65 : decode prog_10_method_46_code 65 = .ok (.goto 4, 3) := by decide +kernel
theorem d_M_stored_68 : decode prog_10_method_46_code 68 = .ok (.iconst (-1), 1) := by decide +kernel
theorem d_M_stored_69 : decode prog_10_method_46_code 69 = .ok (.ireturn, 1) := by decide +kernel

theorem d_M_store_0 : decode prog_10_method_28_code 0 = .ok (.aload_n 0, 1) := by decide +kernel
theorem d_M_store_1 : decode prog_10_method_28_code 1 = .ok (.getfield 50, 3) := by decide +kernel
theorem d_M_store_4 : decode prog_10_method_28_code 4 = .ok (.iload_n 1, 1) := by decide +kernel
theorem d_M_store_5 : decode prog_10_method_28_code 5 = .ok (.iconst 0, 1) := by decide +kernel
theorem d_M_store_6 : decode prog_10_method_28_code 6 = .ok (.sastore, 1) := by decide +kernel
theorem d_M_store_7 : decode prog_10_method_28_code 7 = .ok (.aload_n 0, 1) := by decide +kernel
theorem d_M_store_8 : decode prog_10_method_28_code 8 = .ok (.getfield 25, 3) := by decide +kernel
theorem d_M_store_11 : decode prog_10_method_28_code 11 = .ok (.iload_n 1, 1) := by decide +kernel
theorem d_M_store_12 : decode prog_10_method_28_code 12 = .ok (.baload, 1) := by decide +kernel
theorem d_M_store_13 : decode prog_10_method_28_code 13 = .ok (.ifCond .ne 4, 3) := by decide +kernel
theorem d_M_store_16 : decode prog_10_method_28_code 16 = .ok (.return_, 1) := by decide +kernel
theorem d_M_store_17 : decode prog_10_method_28_code 17 = .ok (.iconst 0, 1) := by decide +kernel
theorem d_M_store_18 : decode prog_10_method_28_code 18 = .ok (.istore_n 2, 1) := by decide +kernel
theorem d_M_store_19 : decode prog_10_method_28_code 19 = .ok (.iload_n 2, 1) := by decide +kernel
theorem d_M_store_20 : decode prog_10_method_28_code 20 = .ok (.aload_n 0, 1) := by decide +kernel
theorem d_M_store_21 : decode prog_10_method_28_code 21 = .ok (.getfield 142, 3) := by decide +kernel
theorem d_M_store_24 : decode prog_10_method_28_code 24 = .ok (.if_icmp .ge 51, 3) := by decide +kernel
theorem d_M_store_27 : decode prog_10_method_28_code 27 = .ok (.aload_n 0, 1) := by decide +kernel
theorem d_M_store_28 : decode prog_10_method_28_code 28 = .ok (.getfield 56, 3) := by decide +kernel
theorem d_M_store_31 : decode prog_10_method_28_code 31 = .ok (.iload_n 2, 1) := by decide +kernel
theorem d_M_store_32 : decode prog_10_method_28_code 32 = .ok (.baload, 1) := by decide +kernel
theorem d_M_store_33 : decode prog_10_method_28_code 33 = .ok (.aload_n 0, 1) := by decide +kernel
theorem d_M_store_34 : decode prog_10_method_28_code 34 = .ok (.getfield 25, 3) := by decide +kernel
theorem d_M_store_37 : decode prog_10_method_28_code 37 = .ok (.iload_n 1, 1) := by decide +kernel
theorem d_M_store_38 : decode prog_10_method_28_code 38 = .ok (.baload, 1) := by decide +kernel
theorem d_M_store_39 : decode prog_10_method_28_code 39 = .ok (.if_icmp .ne 30, 3) := by decide +kernel
theorem d_M_store_42 : decode prog_10_method_28_code 42 = .ok (.aload_n 0, 1) := by decide +kernel
theorem d_M_store_43 : decode prog_10_method_28_code 43 = .ok (.getfield 53, 3) := by decide +kernel
theorem d_M_store_46 : decode prog_10_method_28_code 46 = .ok (.iload_n 2, 1) := by decide +kernel
theorem d_M_store_47 : decode prog_10_method_28_code 47 = .ok (.laload, 1) := by decide +kernel
theorem d_M_store_48 : decode prog_10_method_28_code 48 = .ok (.aload_n 0, 1) := by decide +kernel
theorem d_M_store_49 : decode prog_10_method_28_code 49 = .ok (.getfield 31, 3) := by decide +kernel
theorem d_M_store_52 : decode prog_10_method_28_code 52 = .ok (.iload_n 1, 1) := by decide +kernel
theorem d_M_store_53 : decode prog_10_method_28_code 53 = .ok (.laload, 1) := by decide +kernel
theorem d_M_store_54 : decode prog_10_method_28_code 54 = .ok (.lcmp, 1) := by decide +kernel
theorem d_M_store_55 : decode prog_10_method_28_code 55 = .ok (.ifCond .ne 14, 3) := by decide +kernel
theorem d_M_store_58 : decode prog_10_method_28_code 58 = .ok (.aload_n 0, 1) := by decide +kernel
theorem d_M_store_59 : decode prog_10_method_28_code 59 = .ok (.getfield 50, 3) := by decide +kernel
theorem d_M_store_62 : decode prog_10_method_28_code 62 = .ok (.iload_n 1, 1) := by decide +kernel
theorem d_M_store_63 : decode prog_10_method_28_code 63 = .ok (.iload_n 2, 1) := by decide +kernel
theorem d_M_store_64 : decode prog_10_method_28_code 64 = .ok (.iconst 1, 1) := by decide +kernel
theorem d_M_store_65 : decode prog_10_method_28_code 65 = .ok (.iadd, 1) := by decide +kernel
theorem d_M_store_66 : decode prog_10_method_28_code 66 = .ok (.i2s, 1) := by decide +kernel
theorem d_M_store_67 : decode prog_10_method_28_code 67 = .ok (.sastore, 1) := by decide +kernel
theorem d_M_store_68 : decode prog_10_method_28_code 68 = .ok (.return_, 1) := by decide +kernel
theorem d_M_store_69 : decode prog_10_method_28_code 69 = .ok (.iinc 2 1, 3) := by decide +kernel
theorem d_M_store_72 : decode prog_10_method_28_code 72 = .ok (.goto (-53), 3) := by decide +kernel
theorem d_M_store_75 : decode prog_10_method_28_code 75 = .ok (.aload_n 0, 1) := by decide +kernel
theorem d_M_store_76 : decode prog_10_method_28_code 76 = .ok (.getfield 38, 3) := by decide +kernel
theorem d_M_store_79 : decode prog_10_method_28_code 79 = .ok (.iload_n 1, 1) := by decide +kernel
theorem d_M_store_80 : decode prog_10_method_28_code 80 = .ok (.saload, 1) := by decide +kernel
theorem d_M_store_81 : decode prog_10_method_28_code 81 = .ok (.istore_n 2, 1) := by decide +kernel
theorem d_M_store_82 : decode prog_10_method_28_code 82 = .ok (.iload_n 2, 1) := by decide +kernel
theorem d_M_store_83 : decode prog_10_method_28_code 83 = .ok (.iload_n 2, 1) := by decide +kernel
theorem d_M_store_84 : decode prog_10_method_28_code 84 = .ok (.iload_n 2, 1) := by decide +kernel
theorem d_M_store_85 : decode prog_10_method_28_code 85 = .ok (.iconst 1, 1) := by decide +kernel
theorem d_M_store_86 : decode prog_10_method_28_code 86 = .ok (.isub, 1) := by decide +kernel
theorem d_M_store_87 : decode prog_10_method_28_code 87 = .ok (.iand, 1) := by decide +kernel
theorem d_M_store_88 : decode prog_10_method_28_code 88 = .ok (.isub, 1) := by decide +kernel
theorem d_M_store_89 : decode prog_10_method_28_code 89 = .ok (.istore_n 3, 1) := by decide +kernel
theorem d_M_store_90 : decode prog_10_method_28_code 90 = .ok (.iload_n 1, 1) := by decide +kernel
theorem d_M_store_91 : decode prog_10_method_28_code 91 = .ok (.istore 4, 2) := by decide +kernel
theorem d_M_store_93 : decode prog_10_method_28_code 93 = .ok (.iconst 0, 1) := by decide +kernel
theorem d_M_store_94 : decode prog_10_method_28_code 94 = .ok (.istore 5, 2) := by decide +kernel
theorem d_M_store_96 : decode prog_10_method_28_code 96 = .ok (.iload 5, 2) := by decide +kernel
theorem d_M_store_98 : decode prog_10_method_28_code 98 = .ok (.iload_n 3, 1) := by decide +kernel
theorem d_M_store_99 : decode prog_10_method_28_code 99 = .ok (.if_icmp .ge 18, 3) := by decide +kernel
theorem d_M_store_102 : decode prog_10_method_28_code 102 = .ok (.aload_n 0, 1) := by decide +kernel
theorem d_M_store_103 : decode prog_10_method_28_code 103 = .ok (.getfield 44, 3) := by decide +kernel
theorem d_M_store_106 : decode prog_10_method_28_code 106 = .ok (.iload 4, 2) := by decide +kernel
theorem d_M_store_108 : decode prog_10_method_28_code 108 = .ok (.saload, 1) := by decide +kernel
theorem d_M_store_109 : decode prog_10_method_28_code 109 = .ok (.istore 4, 2) := by decide +kernel
theorem d_M_store_111 : decode prog_10_method_28_code 111 = .ok (.iinc 5 1, 3) := by decide +kernel
theorem d_M_store_114 : decode prog_10_method_28_code 114 = .ok (.goto (-18), 3) := by decide +kernel
theorem d_M_store_117 : decode prog_10_method_28_code 117 = .ok (.aload_n 0, 1) := by decide +kernel
theorem d_M_store_118 : decode prog_10_method_28_code 118 = .ok (.getfield 21, 3) := by decide +kernel
theorem d_M_store_121 : decode prog_10_method_28_code 121 = .ok (.iload 4, 2) := by decide +kernel
theorem d_M_store_123 : decode prog_10_method_28_code 123 = .ok (.baload, 1) := by decide +kernel
theorem d_M_store_124 : decode prog_10_method_28_code 124 = .ok (.iconst 2, 1) := by decide +kernel
theorem d_M_store_125 : decode prog_10_method_28_code 125 = .ok (.if_icmp .ne 17, 3) := by decide +kernel
theorem d_M_store_128 : decode prog_10_method_28_code 128 = .ok (.iload_n 2, 1) := by decide +kernel
theorem d_M_store_129 : decode prog_10_method_28_code 129 = .ok (.ifCond .le 13, 3) := by decide +kernel
theorem d_M_store_132 : decode prog_10_method_28_code 132 = .ok (.aload_n 0, 1) := by decide +kernel
theorem d_M_store_133 : decode prog_10_method_28_code 133 = .ok (.getfield 50, 3) := by decide +kernel
theorem d_M_store_136 : decode prog_10_method_28_code 136 = .ok (.iload 4, 2) := by decide +kernel
theorem d_M_store_138 : decode prog_10_method_28_code 138 = .ok (.saload, 1) := by decide +kernel
theorem d_M_store_139 : decode prog_10_method_28_code 139 = .ok (.goto 4, 3) := by decide +kernel
theorem d_M_store_142 : decode prog_10_method_28_code 142 = .ok (.iconst 0, 1) := by decide +kernel
theorem d_M_store_143 : decode prog_10_method_28_code 143 = .ok (.istore 5, 2) := by decide +kernel
theorem d_M_store_145 : decode prog_10_method_28_code 145 = .ok (.iload 5, 2) := by decide +kernel
theorem d_M_store_147 : decode prog_10_method_28_code 147 = .ok (.ifCond .le 23, 3) := by decide +kernel
theorem d_M_store_150 : decode prog_10_method_28_code 150 = .ok (.aload_n 0, 1) := by decide +kernel
theorem d_M_store_151 : decode prog_10_method_28_code 151 = .ok (.getfield 62, 3) := by decide +kernel
theorem d_M_store_154 : decode prog_10_method_28_code 154 = .ok (.iload 5, 2) := by decide +kernel
theorem d_M_store_156 : decode prog_10_method_28_code 156 = .ok (.iconst 1, 1) := by decide +kernel
theorem d_M_store_157 : decode prog_10_method_28_code 157 = .ok (.isub, 1) := by decide +kernel
theorem d_M_store_158 : decode prog_10_method_28_code 158 = .ok (.baload, 1) := by decide +kernel
theorem d_M_store_159 : decode prog_10_method_28_code 159 = .ok (.iload_n 2, 1) := by decide +kernel
theorem d_M_store_160 : decode prog_10_method_28_code 160 = .ok (.invokestatic 145, 3) := by decide +kernel
theorem d_M_store_163 : decode prog_10_method_28_code 163 = .ok (.if_icmp .ge 7, 3) := by decide +kernel
theorem d_M_store_166 : decode prog_10_method_28_code 166 = .ok (.iconst 1, 1) := by decide +kernel
theorem d_M_store_167 : decode prog_10_method_28_code 167 = .ok (.goto 4, 3) := by decide +kernel
theorem d_M_store_170 : decode prog_10_method_28_code 170 = .ok (.iconst 0, 1) := by decide +kernel
theorem d_M_store_171 : decode prog_10_method_28_code 171 = .ok (.istore 6, 2) := by decide +kernel
theorem d_M_store_173 : decode prog_10_method_28_code 173 = .ok (.aload_n 0, 1) := by decide +kernel
theorem d_M_store_174 : decode prog_10_method_28_code 174 = .ok (.getfield 53, 3) := by decide +kernel
theorem d_M_store_177 : decode prog_10_method_28_code 177 = .ok (.aload_n 0, 1) := by decide +kernel
theorem d_M_store_178 : decode prog_10_method_28_code 178 = .ok (.getfield 142, 3) := by decide +kernel
theorem d_M_store_181 : decode prog_10_method_28_code 181 = .ok (.aload_n 0, 1) := by decide +kernel
theorem d_M_store_182 : decode prog_10_method_28_code 182 = .ok (.getfield 31, 3) := by decide +kernel
theorem d_M_store_185 : decode prog_10_method_28_code 185 = .ok (.iload_n 1, 1) := by decide +kernel
theorem d_M_store_186 : decode prog_10_method_28_code 186 = .ok (.laload, 1) := by decide +kernel
theorem d_M_store_187 : decode prog_10_method_28_code 187 = .ok (.lastore, 1) := by decide +kernel
theorem d_M_store_188 : decode prog_10_method_28_code 188 = .ok (.aload_n 0, 1) := by decide +kernel
theorem d_M_store_189 : decode prog_10_method_28_code 189 = .ok (.getfield 56, 3) := by decide +kernel
theorem d_M_store_192 : decode prog_10_method_28_code 192 = .ok (.aload_n 0, 1) := by decide +kernel
theorem d_M_store_193 : decode prog_10_method_28_code 193 = .ok (.getfield 142, 3) := by decide +kernel
theorem d_M_store_196 : decode prog_10_method_28_code 196 = .ok (.aload_n 0, 1) := by decide +kernel
theorem d_M_store_197 : decode prog_10_method_28_code 197 = .ok (.getfield 25, 3) := by decide +kernel
theorem d_M_store_200 : decode prog_10_method_28_code 200 = .ok (.iload_n 1, 1) := by decide +kernel
theorem d_M_store_201 : decode prog_10_method_28_code 201 = .ok (.baload, 1) := by decide +kernel
theorem d_M_store_202 : decode prog_10_method_28_code 202 = .ok (.bastore, 1) := by decide +kernel
theorem d_M_store_203 : decode prog_10_method_28_code 203 = .ok (.aload_n 0, 1) := by decide +kernel
theorem d_M_store_204 : decode prog_10_method_28_code 204 = .ok (.getfield 59, 3) := by decide +kernel
theorem d_M_store_207 : decode prog_10_method_28_code 207 = .ok (.aload_n 0, 1) := by decide +kernel
theorem d_M_store_208 : decode prog_10_method_28_code 208 = .ok (.getfield 142, 3) := by decide +kernel
theorem d_M_store_211 : decode prog_10_method_28_code 211 = .ok (.iload 6, 2) := by decide +kernel
theorem d_M_store_213 : decode prog_10_method_28_code 213 = .ok (.ifCond .eq 8, 3) := by decide +kernel
theorem d_M_store_216 : decode prog_10_method_28_code 216 = .ok (.iload 5, 2) := by decide +kernel
theorem d_M_store_218 : decode prog_10_method_28_code 218 = .ok (.goto 4, 3) := by decide +kernel
theorem d_M_store_221 : decode prog_10_method_28_code 221 = .ok (.iconst 0, 1) := by decide +kernel
theorem d_M_store_222 : decode prog_10_method_28_code 222 = .ok (.i2s, 1) := by decide +kernel
theorem d_M_store_223 : decode prog_10_method_28_code 223 = .ok (.sastore, 1) := by decide +kernel
theorem d_M_store_224 : decode prog_10_method_28_code 224 = .ok (.aload_n 0, 1) := by decide +kernel
theorem d_M_store_225 : decode prog_10_method_28_code 225 = .ok (.getfield 62, 3) := by decide +kernel
theorem d_M_store_228 : decode prog_10_method_28_code 228 = .ok (.aload_n 0, 1) := by decide +kernel
theorem d_M_store_229 : decode prog_10_method_28_code 229 = .ok (.getfield 142, 3) := by decide +kernel
theorem d_M_store_232 : decode prog_10_method_28_code 232 = .ok (.iload 6, 2) := by decide +kernel
theorem d_M_store_234 : decode prog_10_method_28_code 234 = .ok (.ifCond .eq 17, 3) := by decide +kernel
theorem d_M_store_237 : decode prog_10_method_28_code 237 = .ok (.aload_n 0, 1) := by decide +kernel
theorem d_M_store_238 : decode prog_10_method_28_code 238 = .ok (.getfield 62, 3) := by decide +kernel
theorem d_M_store_241 : decode prog_10_method_28_code 241 = .ok (.iload 5, 2) := by decide +kernel
theorem d_M_store_243 : decode prog_10_method_28_code 243 = .ok (.iconst 1, 1) := by decide +kernel
theorem d_M_store_244 : decode prog_10_method_28_code 244 = .ok (.isub, 1) := by decide +kernel
theorem d_M_store_245 : decode prog_10_method_28_code 245 = .ok (.baload, 1) := by decide +kernel
theorem d_M_store_246 : decode prog_10_method_28_code 246 = .ok (.iconst 1, 1) := by decide +kernel
theorem d_M_store_247 : decode prog_10_method_28_code 247 = .ok (.iadd, 1) := by decide +kernel
theorem d_M_store_248 : decode prog_10_method_28_code 248 = .ok (.goto 4, 3) := by decide +kernel
theorem d_M_store_251 : decode prog_10_method_28_code 251 = .ok (.iconst 1, 1) := by decide +kernel
theorem d_M_store_252 : decode prog_10_method_28_code 252 = .ok (.i2b, 1) := by decide +kernel
theorem d_M_store_253 : decode prog_10_method_28_code 253 = .ok (.bastore, 1) := by decide +kernel
theorem d_M_store_254 : decode prog_10_method_28_code 254 = .ok (.aload_n 0, 1) := by decide +kernel
theorem d_M_store_255 : decode prog_10_method_28_code 255 = .ok (.dup, 1) := by decide +kernel
theorem d_M_store_256 : decode prog_10_method_28_code 256 = .ok (.getfield 142, 3) := by decide +kernel
theorem d_M_store_259 : decode prog_10_method_28_code 259 = .ok (.iconst 1, 1) := by decide +kernel
theorem d_M_store_260 : decode prog_10_method_28_code 260 = .ok (.iadd, 1) := by decide +kernel
theorem d_M_store_261 : decode prog_10_method_28_code 261 = .ok (.putfield 142, 3) := by decide +kernel
theorem d_M_store_264 : decode prog_10_method_28_code 264 = .ok (.aload_n 0, 1) := by decide +kernel
theorem d_M_store_265 : decode prog_10_method_28_code 265 = .ok (.getfield 50, 3) := by decide +kernel
theorem d_M_store_268 : decode prog_10_method_28_code 268 = .ok (.iload_n 1, 1) := by decide +kernel
theorem d_M_store_269 : decode prog_10_method_28_code 269 = .ok (.aload_n 0, 1) := by decide +kernel
theorem d_M_store_270 : decode prog_10_method_28_code 270 = .ok (.getfield 142, 3) := by decide +kernel
theorem d_M_store_273 : decode prog_10_method_28_code 273 = .ok (.i2s, 1) := by decide +kernel
theorem d_M_store_274 : decode prog_10_method_28_code 274 = .ok (.sastore, 1) := by decide +kernel
theorem d_M_store_275 : decode prog_10_method_28_code 275 = .ok (.return_, 1) := by decide +kernel
theorem c_M_cost {l : Launch} {E : Ev} {σ : SS} {ad : Nat → Nat} (hI : rfI ad) (hB : rB σ) {sz : Nat} {k : Nat} (hk : k < 512) (hX9 : ∀ k, σ 17 k < 2 ^ 48) (hn8 : ∀ k, σ 18 k < 13) (hb1 : σ 19 k ≤ 512) : MCi l E y_M_cost prog_10_method_45_code 12 (some .int) 2 50 0 0 [.ref (ad 0), .int (nI k)] (rfM E σ ad) sz (fun r M' => r = nI (cstK σ k) ∧ M' = rfM E σ ad) := by
  rcases Nat.eq_zero_or_pos (σ 19 k) with h | h
  · exact c_M_cost0 hI hB hk hX9 hn8 h
  · exact c_M_cost1 hI hB hk hX9 hn8 h (by omega)

set_option maxHeartbeats 4000000 in
set_option maxRecDepth 100000 in
theorem c_M_stored {l : Launch} {E : Ev} {σ : SS} {ad : Nat → Nat} (hI : rfI ad) (hB : rB σ) {sz : Nat} {x y : Int32} (hS : σ 16 0 ≤ 512) (hX9 : ∀ k, σ 17 k < 2 ^ 48) (hn8 : ∀ k, σ 18 k < 13) (hb1 : ∀ k, σ 19 k ≤ 512) : MCi l E y_M_stored prog_10_method_46_code 3 (some .int) 3 81 0 0 [.ref (ad 0), .int x, .int y] (rfM E σ ad) sz (fun r M' => r = aSto σ x y ∧ M' = rfM E σ ad) := by
  refine mc_of R_M rfl [some (.ref (ad 0)), some (.int x), some (.int y)] (by decide) (Nat.le_of_ble_eq_true rfl) rfl ?_
  intro p e R s m ag below meth c ls Q A X hAe hQ hR hsz hw hl
  rw [← hAe] at hQ
  obtain ⟨⟨hx, hb, hml, hown, hts⟩, hE, hA, hr, hlk, hnm⟩ := X
  have hK := hE.1
  refine x_iload_n hx hb d_M_stored_0 hl rfl ?_
  refine lv_if_lt hx hb d_M_stored_1 rfl (fun h1 => ?_) (fun h1 => ?_)
  · refine lv_iconst (v := -1) hx hb d_M_stored_12 (by decide) ?_
    exact x_reti hQ hx hb hr hlk rfl hw (by omega) (by omega) d_M_stored_13 (⟨by first | exact (if_pos (Or.inl h1)).symm | exact (if_pos (Or.inr (le_of h9))).symm, rfl⟩)
  · refine x_iload_n hx hb d_M_stored_4 hl rfl ?_
    first | refine x_aload_n hx hb d_M_stored_5 hl rfl ?_ | refine x_aload_nQ hx hb d_M_stored_5 hl rfl ?_
    refine m_get hx hb hts hown hK hw ci_M (rf_at hI 0 (by decide) rfl) 16 (by decide) (wm3 88 rfl rfl) rfl d_M_stored_6 ?_
    have hs6 := hB 16 0 (by decide) (by decide)
    refine lv_icmp_lt hx hb d_M_stored_9 rfl (fun h9 => ?_) (fun h9 => ?_)
    · obtain ⟨k, hk9, rfl, hA9⟩ := sto_1 (by omega) h1 h9
      refine x_iload_n hx hb d_M_stored_14 hl rfl ?_
      refine lv_if_ne hx hb d_M_stored_15 rfl (fun h15 => ?_) (fun h15 => ?_)
      · refine x_iload_n hx hb d_M_stored_27 hl rfl ?_
        refine lv_iconst (v := nI 1) hx hb d_M_stored_28 (by decide) ?_
        refine lv_icmp_ne hx hb d_M_stored_29 rfl (fun h29 => ?_) (fun h29 => ?_)
        · refine x_iload_n hx hb d_M_stored_41 hl rfl ?_
          refine lv_iconst (v := nI 2) hx hb d_M_stored_42 (by decide) ?_
          refine lv_icmp_ne hx hb d_M_stored_43 rfl (fun h43 => ?_) (fun h43 => ?_)
          · refine x_iload_n hx hb d_M_stored_54 hl rfl ?_
            refine lv_iconst (v := nI 3) hx hb d_M_stored_55 (by decide) ?_
            refine lv_icmp_ne hx hb d_M_stored_56 rfl (fun h56 => ?_) (fun h56 => ?_)
            · refine lv_iconst (v := -1) hx hb d_M_stored_68 (by decide) ?_
              exact x_reti hQ hx hb hr hlk rfl hw (by omega) (by omega) d_M_stored_69 (⟨by rw [hA9, if_neg h15]; first | rw [if_pos h29] | rw [if_neg h29, if_pos h43] | rw [if_neg h29, if_neg h43, if_pos h56] | rw [if_neg h29, if_neg h43, if_neg h56], rfl⟩)
            · first | refine x_aload_n hx hb d_M_stored_59 hl rfl ?_ | refine x_aload_nQ hx hb d_M_stored_59 hl rfl ?_
              refine m_get hx hb hts hown hK hw ci_M (rf_at hI 0 (by decide) rfl) 18 (by decide) (wm3 90 rfl rfl) rfl d_M_stored_60 ?_
              refine x_iload_n hx hb d_M_stored_63 hl rfl ?_
              refine rl_18 hx hb hK hI hB hw (by omega) d_M_stored_64 (fun hv64 => ?_)
              refine lv_goto hx hb d_M_stored_65 rfl ?_
              exact x_reti hQ hx hb hr hlk rfl hw (by omega) (by omega) d_M_stored_69 (⟨by rw [hA9, if_neg h15]; first | rw [if_pos h29] | rw [if_neg h29, if_pos h43] | rw [if_neg h29, if_neg h43, if_pos h56] | rw [if_neg h29, if_neg h43, if_neg h56], rfl⟩)
          · first | refine x_aload_n hx hb d_M_stored_46 hl rfl ?_ | refine x_aload_nQ hx hb d_M_stored_46 hl rfl ?_
            refine x_iload_n hx hb d_M_stored_47 hl rfl ?_
            refine m_calli (k_V ⟨hx, hb, hml, hown, hts⟩ hE hA hw (c_M_cost hI hB (by omega) hX9 hn8 (hb1 k)) (ci_M).1 rfl (rf_at hI 0 (by decide) rfl) (wm4 63 rfl rfl) (wm4 65 rfl rfl) (wmp3 5 rfl) (wm1 9 rfl rfl) (wm4 66 rfl rfl) rfl rfl ar_M_cost ⟨Nat.le_trans (Nat.le_of_ble_eq_true rfl) hR.1, Nat.le_trans (Nat.le_of_ble_eq_true rfl) hR.2.1⟩ rfl hl.1 rfl (Nat.le_of_ble_eq_true rfl) d_M_stored_48 ⟨Nat.le_trans (Nat.le_of_ble_eq_true rfl) hR.2.2.1, Nat.le_trans (Nat.le_of_ble_eq_true rfl) hR.2.2.2⟩) hw (mfr_in hw hA) (fun r48 M48 H locs hP48 hw => ?_)
            obtain ⟨rfl, hM48⟩ := hP48
            rw [hM48] at hw
            refine lv_goto hx hb d_M_stored_51 rfl ?_
            exact x_reti hQ hx hb hr hlk rfl hw (by omega) (by omega) d_M_stored_69 (⟨by rw [hA9, if_neg h15]; first | rw [if_pos h29] | rw [if_neg h29, if_pos h43] | rw [if_neg h29, if_neg h43, if_pos h56] | rw [if_neg h29, if_neg h43, if_neg h56], rfl⟩)
        · first | refine x_aload_n hx hb d_M_stored_32 hl rfl ?_ | refine x_aload_nQ hx hb d_M_stored_32 hl rfl ?_
          refine m_get hx hb hts hown hK hw ci_M (rf_at hI 0 (by decide) rfl) 20 (by decide) (wm3 92 rfl rfl) rfl d_M_stored_33 ?_
          refine x_iload_n hx hb d_M_stored_36 hl rfl ?_
          refine rl_20 hx hb hK hI hB hw (by omega) d_M_stored_37 (fun hv37 => ?_)
          refine lv_goto hx hb d_M_stored_38 rfl ?_
          exact x_reti hQ hx hb hr hlk rfl hw (by omega) (by omega) d_M_stored_69 (⟨by rw [hA9, if_neg h15]; first | rw [if_pos h29] | rw [if_neg h29, if_pos h43] | rw [if_neg h29, if_neg h43, if_pos h56] | rw [if_neg h29, if_neg h43, if_neg h56], rfl⟩)
      · first | refine x_aload_n hx hb d_M_stored_18 hl rfl ?_ | refine x_aload_nQ hx hb d_M_stored_18 hl rfl ?_
        refine m_get hx hb hts hown hK hw ci_M (rf_at hI 0 (by decide) rfl) 19 (by decide) (wm3 91 rfl rfl) rfl d_M_stored_19 ?_
        refine x_iload_n hx hb d_M_stored_22 hl rfl ?_
        refine rl_19 hx hb hK hI hB hw (by omega) d_M_stored_23 (fun hv23 => ?_)
        refine lv_iconst (v := nI 1) hx hb d_M_stored_24 (by decide) ?_
        refine lv_isub hx hb d_M_stored_25 ?_
        exact x_reti hQ hx hb hr hlk rfl hw (by omega) (by omega) d_M_stored_26 (⟨by rw [hA9, if_pos h15], rfl⟩)
    · refine lv_iconst (v := -1) hx hb d_M_stored_12 (by decide) ?_
      exact x_reti hQ hx hb hr hlk rfl hw (by omega) (by omega) d_M_stored_13 (⟨by first | exact (if_pos (Or.inl h1)).symm | exact (if_pos (Or.inr (le_of h9))).symm, rfl⟩)

set_option maxHeartbeats 4000000 in
set_option maxRecDepth 100000 in
theorem c_M_store {l : Launch} {E : Ev} {σ : SS} {ad : Nat → Nat} (hI : rfI ad) (hB : rB σ) {sz : Nat} {n : Nat} (hn : n < 1300) (h13a : ∀ j, σ 13 j < 1300) (h15a : ∀ j, σ 15 j ≤ 512) (h7a : ∀ j, σ 7 j < 128) (hSa : σ 7 n ≠ 0 → σ 16 0 < 512) (hSb : σ 16 0 ≤ 512) (hX17a : ∀ j, σ 17 j < 2 ^ 48) (hX9a : ∀ j, σ 9 j < 2 ^ 48) (hc11a : σ 11 n < 1000) : MCv l E y_M_store prog_10_method_28_code 7 none 1 21 0 0 [.ref (ad 0), .int (nI n)] (rfM E σ ad) sz (fun M' => M' = rfM E (stf σ n) ad ∧ rB (stf σ n)) := by
  refine mc_of R_M rfl [some (.ref (ad 0)), some (.int (nI n)), none, none, none, none, none] (by decide) (Nat.le_of_ble_eq_true rfl) rfl ?_
  intro p e R s m ag below meth c ls Q A X hAe hQ hR hsz hw hl
  rw [← hAe] at hQ
  obtain ⟨⟨hx, hb, hml, hown, hts⟩, hE, hA, hr, hlk, hnm⟩ := X
  have hK := hE.1
  first | refine x_aload_n hx hb d_M_store_0 hl rfl ?_ | refine x_aload_nQ hx hb d_M_store_0 hl rfl ?_
  refine m_get hx hb hts hown hK hw ci_M (rf_at hI 0 (by decide) rfl) 15 (by decide) (wm3 87 rfl rfl) rfl d_M_store_1 ?_
  refine x_iload_n hx hb d_M_store_4 hl rfl ?_
  refine lv_iconst (v := nI 0) hx hb d_M_store_5 (by decide) ?_
  refine rs_15 hx hb hK hI hB hw (by omega) (by omega) d_M_store_6 (fun H locs hw hB => ?_)
  obtain ⟨τ, hτ⟩ : ∃ τ, τ = sp σ 15 n 0 := ⟨_, rfl⟩
  have hst2 : stf σ n = st2 τ n := by rw [hτ]; rfl
  rw [← hτ] at hw hB
  have h1300 : ∀ j, τ 13 j < 1300 := by rw [hτ]; exact h13a
  have h515 : ∀ j, τ 15 j ≤ 512 := by
    intro j
    rw [hτ, sp_at]
    split
    · omega
    · exact h15a j
  have h712 : ∀ j, τ 7 j < 128 := by rw [hτ]; exact h7a
  have hSn : τ 7 n ≠ 0 → τ 16 0 < 512 := by rw [hτ]; exact hSa
  have hS512 : τ 16 0 ≤ 512 := by rw [hτ]; exact hSb
  have hX17 : ∀ j, τ 17 j < 2 ^ 48 := by rw [hτ]; exact hX17a
  have hX9 : ∀ j, τ 9 j < 2 ^ 48 := by rw [hτ]; exact hX9a
  have hc11 : τ 11 n < 1000 := by rw [hτ]; exact hc11a
  have hfr : frb (τ 11 n) ≤ τ 11 n := Nat.sub_le _ _
  have loop2 : ∀ (u k a : Nat) (H : Heap) (locs : List Loc) (ls : Array Slot), k + u = frb (τ 11 n) → a < 1300 → mw E.1 vwCl A s.heap (rfM E τ ad) H locs → lh ls [some (.ref (ad 0)), some (.int (nI n)), some (.int (nI (τ 11 n))), some (.int (nI (frb (τ 11 n)))), some (.int (nI a)), some (.int (nI k)), none] → anc τ u a = anc τ (frb (τ 11 n)) n → τ 7 n ≠ 0 → eqf τ n (τ 16 0) 0 = τ 16 0 → W p l e R s m ag below meth c H locs 0 0 Q (F0 m 96 ls []) := by
    intro u
    induction u with
    | zero =>
      intro k a H locs ls hku ha13 hw hl hT h13 h75
      refine x_iload hx hb d_M_store_96 hl rfl ?_
      refine x_iload_n hx hb d_M_store_98 hl rfl ?_
      refine x_icmp_ge hx hb d_M_store_99 rfl (by omega) (by omega) (fun h99 => ?_) (fun h99 => ?_)
      · have ha : anc τ (frb (τ 11 n)) n = a := hT.symm
        first | refine x_aload_n hx hb d_M_store_117 hl rfl ?_ | refine x_aload_nQ hx hb d_M_store_117 hl rfl ?_
        refine m_get hx hb hts hown hK hw ci_M (rf_at hI 0 (by decide) rfl) 6 (by decide) (wm3 78 rfl rfl) rfl d_M_store_118 ?_
        refine x_iload hx hb d_M_store_121 hl rfl ?_
        refine rl_6 hx hb hK hI hB hw (by omega) d_M_store_123 (fun hv123 => ?_)
        refine lv_iconst (v := nI 2) hx hb d_M_store_124 (by decide) ?_
        refine x_icmp_ne hx hb d_M_store_125 rfl (by omega) (by omega) (fun h125 => ?_) (fun h125 => ?_)
        · have hof := oldf_0 ha (Or.inl h125)
          refine lv_iconst (v := nI 0) hx hb d_M_store_142 (by decide) ?_
          refine x_istore hx hb d_M_store_143 hl (Nat.le_of_ble_eq_true rfl) (lh_k (i := 4) rfl (by first | exact lk_n | exact lk_i | exact lk_r | exact lk_q | exact lk_0)) (fun ls hl => ?_)
          have hal := alw_le (c := τ 11 n) 20 0
          refine x_iload hx hb d_M_store_145 hl rfl ?_
          refine x_if_le hx hb d_M_store_147 rfl (by omega) (fun h147 => ?_) (fun h147 => ?_)
          · first
              | exact absurd h147 (by omega)
              | have h3f := st3_f hof (Or.inl (by omega))
                refine lv_iconst (v := nI 0) hx hb d_M_store_170 (by decide) ?_
                refine x_istore hx hb d_M_store_171 hl (Nat.le_of_ble_eq_true rfl) (lh_k (i := 5) rfl (by first | exact lk_n | exact lk_i | exact lk_r | exact lk_q | exact lk_0)) (fun ls hl => ?_)
                have hS2 := hSn h13
                first | refine x_aload_n hx hb d_M_store_173 hl rfl ?_ | refine x_aload_nQ hx hb d_M_store_173 hl rfl ?_
                refine m_get hx hb hts hown hK hw ci_M (rf_at hI 0 (by decide) rfl) 17 (by decide) (wm3 89 rfl rfl) rfl d_M_store_174 ?_
                first | refine x_aload_n hx hb d_M_store_177 hl rfl ?_ | refine x_aload_nQ hx hb d_M_store_177 hl rfl ?_
                refine m_get (v := .int (nI (τ 16 0))) hx hb hts hown hK hw ci_M (rf_at hI 0 (by decide) rfl) 16 (by decide) (wm3 88 rfl rfl) rfl d_M_store_178 ?_
                first | refine x_aload_n hx hb d_M_store_181 hl rfl ?_ | refine x_aload_nQ hx hb d_M_store_181 hl rfl ?_
                refine m_get hx hb hts hown hK hw ci_M (rf_at hI 0 (by decide) rfl) 9 (by decide) (wm3 81 rfl rfl) rfl d_M_store_182 ?_
                refine x_iload_n hx hb d_M_store_185 hl rfl ?_
                refine rl_9 hx hb hK hI hw (by omega) d_M_store_186 ?_
                refine rs_17 hx hb hK hI hB hw (by omega) d_M_store_187 (fun H locs hw hB => ?_)
                first | refine x_aload_n hx hb d_M_store_188 hl rfl ?_ | refine x_aload_nQ hx hb d_M_store_188 hl rfl ?_
                refine m_get hx hb hts hown hK hw ci_M (rf_at hI 0 (by decide) rfl) 18 (by decide) (wm3 90 rfl rfl) rfl d_M_store_189 ?_
                first | refine x_aload_n hx hb d_M_store_192 hl rfl ?_ | refine x_aload_nQ hx hb d_M_store_192 hl rfl ?_
                refine m_get (v := .int (nI (τ 16 0))) hx hb hts hown hK hw ci_M (rf_at hI 0 (by decide) rfl) 16 (by decide) (wm3 88 rfl rfl) rfl d_M_store_193 ?_
                first | refine x_aload_n hx hb d_M_store_196 hl rfl ?_ | refine x_aload_nQ hx hb d_M_store_196 hl rfl ?_
                refine m_get hx hb hts hown hK hw ci_M (rf_at hI 0 (by decide) rfl) 7 (by decide) (wm3 79 rfl rfl) rfl d_M_store_197 ?_
                refine x_iload_n hx hb d_M_store_200 hl rfl ?_
                refine rl_7 hx hb hK hI hB hw (by omega) d_M_store_201 (fun hv201 => ?_)
                refine rs_18 hx hb hK hI hB hw (by omega) (show _ from h712 n) d_M_store_202 (fun H locs hw hB => ?_)
                first | refine x_aload_n hx hb d_M_store_203 hl rfl ?_ | refine x_aload_nQ hx hb d_M_store_203 hl rfl ?_
                refine m_get hx hb hts hown hK hw ci_M (rf_at hI 0 (by decide) rfl) 19 (by decide) (wm3 91 rfl rfl) rfl d_M_store_204 ?_
                first | refine x_aload_n hx hb d_M_store_207 hl rfl ?_ | refine x_aload_nQ hx hb d_M_store_207 hl rfl ?_
                refine m_get (v := .int (nI (τ 16 0))) hx hb hts hown hK hw ci_M (rf_at hI 0 (by decide) rfl) 16 (by decide) (wm3 88 rfl rfl) rfl d_M_store_208 ?_
                refine x_iload hx hb d_M_store_211 hl rfl ?_
                refine x_if_eq hx hb d_M_store_213 rfl (by omega) (fun h213 => ?_) (fun h213 => ?_)
                · first
                    | exact absurd h213 (by omega)
                    | refine lv_iconst (v := nI 0) hx hb d_M_store_221 (by decide) ?_
                      first | refine x_i2s hx hb d_M_store_222 (by omega) ?_ | refine lv_i2s hx hb d_M_store_222 rfl ?_
                      refine rs_19 hx hb hK hI hB hw (by omega) (by omega) d_M_store_223 (fun H locs hw hB => ?_)
                      first | refine x_aload_n hx hb d_M_store_224 hl rfl ?_ | refine x_aload_nQ hx hb d_M_store_224 hl rfl ?_
                      refine m_get hx hb hts hown hK hw ci_M (rf_at hI 0 (by decide) rfl) 20 (by decide) (wm3 92 rfl rfl) rfl d_M_store_225 ?_
                      first | refine x_aload_n hx hb d_M_store_228 hl rfl ?_ | refine x_aload_nQ hx hb d_M_store_228 hl rfl ?_
                      refine m_get (v := .int (nI (τ 16 0))) hx hb hts hown hK hw ci_M (rf_at hI 0 (by decide) rfl) 16 (by decide) (wm3 88 rfl rfl) rfl d_M_store_229 ?_
                      refine x_iload hx hb d_M_store_232 hl rfl ?_
                      refine x_if_eq hx hb d_M_store_234 rfl (by omega) (fun h234 => ?_) (fun h234 => ?_)
                      · first
                          | exact absurd h234 (by omega)
                          | refine lv_iconst (v := nI 1) hx hb d_M_store_251 (by decide) ?_
                            first | refine x_i2b hx hb d_M_store_252 (by omega) ?_ | refine x_i2b hx hb d_M_store_252 (show _ from hch) ?_
                            first | refine rs_20 hx hb hK hI hB hw (by omega) (by omega) d_M_store_253 (fun H locs hw hB => ?_) | refine rs_20 hx hb hK hI hB hw (by omega) (show _ from hch) d_M_store_253 (fun H locs hw hB => ?_)
                            first | refine x_aload_n hx hb d_M_store_254 hl rfl ?_ | refine x_aload_nQ hx hb d_M_store_254 hl rfl ?_
                            first | refine lv_dup hx hb d_M_store_255 rfl ?_ | refine lv_dup hx hb d_M_store_255 (va_rf_c _) ?_
                            refine m_get (v := .int (nI (τ 16 0))) hx hb hts hown hK hw ci_M (rf_at hI 0 (by decide) rfl) 16 (by decide) (wm3 88 rfl rfl) rfl d_M_store_256 ?_
                            refine lv_iconst (v := nI 1) hx hb d_M_store_259 (by decide) ?_
                            first | refine x_iadd hx hb d_M_store_260 ?_ | refine lv_iadd hx hb d_M_store_260 ?_
                            refine rp_16 hx hb hts hown hK hI hB hw (wm3 88 rfl rfl) (by omega) d_M_store_261 (fun H locs hw hB => ?_)
                            first | refine x_aload_n hx hb d_M_store_264 hl rfl ?_ | refine x_aload_nQ hx hb d_M_store_264 hl rfl ?_
                            refine m_get hx hb hts hown hK hw ci_M (rf_at hI 0 (by decide) rfl) 15 (by decide) (wm3 87 rfl rfl) rfl d_M_store_265 ?_
                            refine x_iload_n hx hb d_M_store_268 hl rfl ?_
                            first | refine x_aload_n hx hb d_M_store_269 hl rfl ?_ | refine x_aload_nQ hx hb d_M_store_269 hl rfl ?_
                            refine m_get (v := .int (nI (τ 16 0 + 1))) hx hb hts hown hK hw ci_M (rf_at hI 0 (by decide) rfl) 16 (by decide) (wm3 88 rfl rfl) rfl d_M_store_270 ?_
                            first | refine x_i2s hx hb d_M_store_273 (by omega) ?_ | refine lv_i2s hx hb d_M_store_273 rfl ?_
                            refine rs_15 hx hb hK hI hB hw (by omega) (by omega) d_M_store_274 (fun H locs hw hB => ?_)
                            exact x_retv hQ hx hb hr hlk hw (by omega) (by omega) d_M_store_275 (by rw [hst2, st2_3 h13 h75, h3f]; exact ⟨rfl, hB⟩)
                      · first
                          | exact absurd h234 (by omega)
                          | first | refine x_aload_n hx hb d_M_store_237 hl rfl ?_ | refine x_aload_nQ hx hb d_M_store_237 hl rfl ?_
                            refine m_get hx hb hts hown hK hw ci_M (rf_at hI 0 (by decide) rfl) 20 (by decide) (wm3 92 rfl rfl) rfl d_M_store_238 ?_
                            refine x_iload hx hb d_M_store_241 hl rfl ?_
                            refine lv_iconst (v := nI 1) hx hb d_M_store_243 (by decide) ?_
                            refine x_isub hx hb d_M_store_244 (by omega) ?_
                            refine rl_20 hx hb hK hI hB hw (by omega) d_M_store_245 (fun hv245 => ?_)
                            refine lv_iconst (v := nI 1) hx hb d_M_store_246 (by decide) ?_
                            first | refine x_iadd hx hb d_M_store_247 ?_ | refine lv_iadd hx hb d_M_store_247 ?_
                            refine lv_goto hx hb d_M_store_248 rfl ?_
                            first | refine x_i2b hx hb d_M_store_252 (by omega) ?_ | refine x_i2b hx hb d_M_store_252 (show _ from hch) ?_
                            first | refine rs_20 hx hb hK hI hB hw (by omega) (by omega) d_M_store_253 (fun H locs hw hB => ?_) | refine rs_20 hx hb hK hI hB hw (by omega) (show _ from hch) d_M_store_253 (fun H locs hw hB => ?_)
                            first | refine x_aload_n hx hb d_M_store_254 hl rfl ?_ | refine x_aload_nQ hx hb d_M_store_254 hl rfl ?_
                            first | refine lv_dup hx hb d_M_store_255 rfl ?_ | refine lv_dup hx hb d_M_store_255 (va_rf_c _) ?_
                            refine m_get (v := .int (nI (τ 16 0))) hx hb hts hown hK hw ci_M (rf_at hI 0 (by decide) rfl) 16 (by decide) (wm3 88 rfl rfl) rfl d_M_store_256 ?_
                            refine lv_iconst (v := nI 1) hx hb d_M_store_259 (by decide) ?_
                            first | refine x_iadd hx hb d_M_store_260 ?_ | refine lv_iadd hx hb d_M_store_260 ?_
                            refine rp_16 hx hb hts hown hK hI hB hw (wm3 88 rfl rfl) (by omega) d_M_store_261 (fun H locs hw hB => ?_)
                            first | refine x_aload_n hx hb d_M_store_264 hl rfl ?_ | refine x_aload_nQ hx hb d_M_store_264 hl rfl ?_
                            refine m_get hx hb hts hown hK hw ci_M (rf_at hI 0 (by decide) rfl) 15 (by decide) (wm3 87 rfl rfl) rfl d_M_store_265 ?_
                            refine x_iload_n hx hb d_M_store_268 hl rfl ?_
                            first | refine x_aload_n hx hb d_M_store_269 hl rfl ?_ | refine x_aload_nQ hx hb d_M_store_269 hl rfl ?_
                            refine m_get (v := .int (nI (τ 16 0 + 1))) hx hb hts hown hK hw ci_M (rf_at hI 0 (by decide) rfl) 16 (by decide) (wm3 88 rfl rfl) rfl d_M_store_270 ?_
                            first | refine x_i2s hx hb d_M_store_273 (by omega) ?_ | refine lv_i2s hx hb d_M_store_273 rfl ?_
                            refine rs_15 hx hb hK hI hB hw (by omega) (by omega) d_M_store_274 (fun H locs hw hB => ?_)
                            exact x_retv hQ hx hb hr hlk hw (by omega) (by omega) d_M_store_275 (by rw [hst2, st2_3 h13 h75, h3f]; exact ⟨rfl, hB⟩)
                · first
                    | exact absurd h213 (by omega)
                    | refine x_iload hx hb d_M_store_216 hl rfl ?_
                      refine lv_goto hx hb d_M_store_218 rfl ?_
                      first | refine x_i2s hx hb d_M_store_222 (by omega) ?_ | refine lv_i2s hx hb d_M_store_222 rfl ?_
                      refine rs_19 hx hb hK hI hB hw (by omega) (by omega) d_M_store_223 (fun H locs hw hB => ?_)
                      first | refine x_aload_n hx hb d_M_store_224 hl rfl ?_ | refine x_aload_nQ hx hb d_M_store_224 hl rfl ?_
                      refine m_get hx hb hts hown hK hw ci_M (rf_at hI 0 (by decide) rfl) 20 (by decide) (wm3 92 rfl rfl) rfl d_M_store_225 ?_
                      first | refine x_aload_n hx hb d_M_store_228 hl rfl ?_ | refine x_aload_nQ hx hb d_M_store_228 hl rfl ?_
                      refine m_get (v := .int (nI (τ 16 0))) hx hb hts hown hK hw ci_M (rf_at hI 0 (by decide) rfl) 16 (by decide) (wm3 88 rfl rfl) rfl d_M_store_229 ?_
                      refine x_iload hx hb d_M_store_232 hl rfl ?_
                      refine x_if_eq hx hb d_M_store_234 rfl (by omega) (fun h234 => ?_) (fun h234 => ?_)
                      · first
                          | exact absurd h234 (by omega)
                          | refine lv_iconst (v := nI 1) hx hb d_M_store_251 (by decide) ?_
                            first | refine x_i2b hx hb d_M_store_252 (by omega) ?_ | refine x_i2b hx hb d_M_store_252 (show _ from hch) ?_
                            first | refine rs_20 hx hb hK hI hB hw (by omega) (by omega) d_M_store_253 (fun H locs hw hB => ?_) | refine rs_20 hx hb hK hI hB hw (by omega) (show _ from hch) d_M_store_253 (fun H locs hw hB => ?_)
                            first | refine x_aload_n hx hb d_M_store_254 hl rfl ?_ | refine x_aload_nQ hx hb d_M_store_254 hl rfl ?_
                            first | refine lv_dup hx hb d_M_store_255 rfl ?_ | refine lv_dup hx hb d_M_store_255 (va_rf_c _) ?_
                            refine m_get (v := .int (nI (τ 16 0))) hx hb hts hown hK hw ci_M (rf_at hI 0 (by decide) rfl) 16 (by decide) (wm3 88 rfl rfl) rfl d_M_store_256 ?_
                            refine lv_iconst (v := nI 1) hx hb d_M_store_259 (by decide) ?_
                            first | refine x_iadd hx hb d_M_store_260 ?_ | refine lv_iadd hx hb d_M_store_260 ?_
                            refine rp_16 hx hb hts hown hK hI hB hw (wm3 88 rfl rfl) (by omega) d_M_store_261 (fun H locs hw hB => ?_)
                            first | refine x_aload_n hx hb d_M_store_264 hl rfl ?_ | refine x_aload_nQ hx hb d_M_store_264 hl rfl ?_
                            refine m_get hx hb hts hown hK hw ci_M (rf_at hI 0 (by decide) rfl) 15 (by decide) (wm3 87 rfl rfl) rfl d_M_store_265 ?_
                            refine x_iload_n hx hb d_M_store_268 hl rfl ?_
                            first | refine x_aload_n hx hb d_M_store_269 hl rfl ?_ | refine x_aload_nQ hx hb d_M_store_269 hl rfl ?_
                            refine m_get (v := .int (nI (τ 16 0 + 1))) hx hb hts hown hK hw ci_M (rf_at hI 0 (by decide) rfl) 16 (by decide) (wm3 88 rfl rfl) rfl d_M_store_270 ?_
                            first | refine x_i2s hx hb d_M_store_273 (by omega) ?_ | refine lv_i2s hx hb d_M_store_273 rfl ?_
                            refine rs_15 hx hb hK hI hB hw (by omega) (by omega) d_M_store_274 (fun H locs hw hB => ?_)
                            exact x_retv hQ hx hb hr hlk hw (by omega) (by omega) d_M_store_275 (by rw [hst2, st2_3 h13 h75, h3f]; exact ⟨rfl, hB⟩)
                      · first
                          | exact absurd h234 (by omega)
                          | first | refine x_aload_n hx hb d_M_store_237 hl rfl ?_ | refine x_aload_nQ hx hb d_M_store_237 hl rfl ?_
                            refine m_get hx hb hts hown hK hw ci_M (rf_at hI 0 (by decide) rfl) 20 (by decide) (wm3 92 rfl rfl) rfl d_M_store_238 ?_
                            refine x_iload hx hb d_M_store_241 hl rfl ?_
                            refine lv_iconst (v := nI 1) hx hb d_M_store_243 (by decide) ?_
                            refine x_isub hx hb d_M_store_244 (by omega) ?_
                            refine rl_20 hx hb hK hI hB hw (by omega) d_M_store_245 (fun hv245 => ?_)
                            refine lv_iconst (v := nI 1) hx hb d_M_store_246 (by decide) ?_
                            first | refine x_iadd hx hb d_M_store_247 ?_ | refine lv_iadd hx hb d_M_store_247 ?_
                            refine lv_goto hx hb d_M_store_248 rfl ?_
                            first | refine x_i2b hx hb d_M_store_252 (by omega) ?_ | refine x_i2b hx hb d_M_store_252 (show _ from hch) ?_
                            first | refine rs_20 hx hb hK hI hB hw (by omega) (by omega) d_M_store_253 (fun H locs hw hB => ?_) | refine rs_20 hx hb hK hI hB hw (by omega) (show _ from hch) d_M_store_253 (fun H locs hw hB => ?_)
                            first | refine x_aload_n hx hb d_M_store_254 hl rfl ?_ | refine x_aload_nQ hx hb d_M_store_254 hl rfl ?_
                            first | refine lv_dup hx hb d_M_store_255 rfl ?_ | refine lv_dup hx hb d_M_store_255 (va_rf_c _) ?_
                            refine m_get (v := .int (nI (τ 16 0))) hx hb hts hown hK hw ci_M (rf_at hI 0 (by decide) rfl) 16 (by decide) (wm3 88 rfl rfl) rfl d_M_store_256 ?_
                            refine lv_iconst (v := nI 1) hx hb d_M_store_259 (by decide) ?_
                            first | refine x_iadd hx hb d_M_store_260 ?_ | refine lv_iadd hx hb d_M_store_260 ?_
                            refine rp_16 hx hb hts hown hK hI hB hw (wm3 88 rfl rfl) (by omega) d_M_store_261 (fun H locs hw hB => ?_)
                            first | refine x_aload_n hx hb d_M_store_264 hl rfl ?_ | refine x_aload_nQ hx hb d_M_store_264 hl rfl ?_
                            refine m_get hx hb hts hown hK hw ci_M (rf_at hI 0 (by decide) rfl) 15 (by decide) (wm3 87 rfl rfl) rfl d_M_store_265 ?_
                            refine x_iload_n hx hb d_M_store_268 hl rfl ?_
                            first | refine x_aload_n hx hb d_M_store_269 hl rfl ?_ | refine x_aload_nQ hx hb d_M_store_269 hl rfl ?_
                            refine m_get (v := .int (nI (τ 16 0 + 1))) hx hb hts hown hK hw ci_M (rf_at hI 0 (by decide) rfl) 16 (by decide) (wm3 88 rfl rfl) rfl d_M_store_270 ?_
                            first | refine x_i2s hx hb d_M_store_273 (by omega) ?_ | refine lv_i2s hx hb d_M_store_273 rfl ?_
                            refine rs_15 hx hb hK hI hB hw (by omega) (by omega) d_M_store_274 (fun H locs hw hB => ?_)
                            exact x_retv hQ hx hb hr hlk hw (by omega) (by omega) d_M_store_275 (by rw [hst2, st2_3 h13 h75, h3f]; exact ⟨rfl, hB⟩)
          · first
              | exact absurd h147 (by omega)
              | first | refine x_aload_n hx hb d_M_store_150 hl rfl ?_ | refine x_aload_nQ hx hb d_M_store_150 hl rfl ?_
                refine m_get hx hb hts hown hK hw ci_M (rf_at hI 0 (by decide) rfl) 20 (by decide) (wm3 92 rfl rfl) rfl d_M_store_151 ?_
                refine x_iload hx hb d_M_store_154 hl rfl ?_
                refine lv_iconst (v := nI 1) hx hb d_M_store_156 (by decide) ?_
                refine x_isub hx hb d_M_store_157 (by omega) ?_
                refine rl_20 hx hb hK hI hB hw (by omega) d_M_store_158 (fun hv158 => ?_)
                refine x_iload_n hx hb d_M_store_159 hl rfl ?_
                refine m_calli (k_S ⟨hx, hb, hml, hown, hts⟩ hE hA hw (c_M_allowed (by omega)) (wm3 235 rfl rfl) (wm3 236 rfl rfl) (wm1 9 rfl rfl) (wm3 237 rfl rfl) rfl rfl ar_M_allowed ⟨Nat.le_trans (Nat.le_of_ble_eq_true rfl) hR.1, Nat.le_trans (Nat.le_of_ble_eq_true rfl) hR.2.1⟩ rfl hl.1 rfl (Nat.le_of_ble_eq_true rfl) d_M_store_160 ⟨Nat.le_trans (Nat.le_of_ble_eq_true rfl) hR.2.2.1, Nat.le_trans (Nat.le_of_ble_eq_true rfl) hR.2.2.2⟩) hw (mfr_in hw hA) (fun r160 M160 H locs hP160 hw => ?_)
                obtain ⟨rfl, hM160⟩ := hP160
                rw [hM160] at hw
                refine x_icmp_ge hx hb d_M_store_163 rfl (by omega) (by omega) (fun h163 => ?_) (fun h163 => ?_)
                · have h3f := st3_f hof (Or.inr h163)
                  refine lv_iconst (v := nI 0) hx hb d_M_store_170 (by decide) ?_
                  refine x_istore hx hb d_M_store_171 hl (Nat.le_of_ble_eq_true rfl) (lh_k (i := 5) rfl (by first | exact lk_n | exact lk_i | exact lk_r | exact lk_q | exact lk_0)) (fun ls hl => ?_)
                  have hS2 := hSn h13
                  first | refine x_aload_n hx hb d_M_store_173 hl rfl ?_ | refine x_aload_nQ hx hb d_M_store_173 hl rfl ?_
                  refine m_get hx hb hts hown hK hw ci_M (rf_at hI 0 (by decide) rfl) 17 (by decide) (wm3 89 rfl rfl) rfl d_M_store_174 ?_
                  first | refine x_aload_n hx hb d_M_store_177 hl rfl ?_ | refine x_aload_nQ hx hb d_M_store_177 hl rfl ?_
                  refine m_get (v := .int (nI (τ 16 0))) hx hb hts hown hK hw ci_M (rf_at hI 0 (by decide) rfl) 16 (by decide) (wm3 88 rfl rfl) rfl d_M_store_178 ?_
                  first | refine x_aload_n hx hb d_M_store_181 hl rfl ?_ | refine x_aload_nQ hx hb d_M_store_181 hl rfl ?_
                  refine m_get hx hb hts hown hK hw ci_M (rf_at hI 0 (by decide) rfl) 9 (by decide) (wm3 81 rfl rfl) rfl d_M_store_182 ?_
                  refine x_iload_n hx hb d_M_store_185 hl rfl ?_
                  refine rl_9 hx hb hK hI hw (by omega) d_M_store_186 ?_
                  refine rs_17 hx hb hK hI hB hw (by omega) d_M_store_187 (fun H locs hw hB => ?_)
                  first | refine x_aload_n hx hb d_M_store_188 hl rfl ?_ | refine x_aload_nQ hx hb d_M_store_188 hl rfl ?_
                  refine m_get hx hb hts hown hK hw ci_M (rf_at hI 0 (by decide) rfl) 18 (by decide) (wm3 90 rfl rfl) rfl d_M_store_189 ?_
                  first | refine x_aload_n hx hb d_M_store_192 hl rfl ?_ | refine x_aload_nQ hx hb d_M_store_192 hl rfl ?_
                  refine m_get (v := .int (nI (τ 16 0))) hx hb hts hown hK hw ci_M (rf_at hI 0 (by decide) rfl) 16 (by decide) (wm3 88 rfl rfl) rfl d_M_store_193 ?_
                  first | refine x_aload_n hx hb d_M_store_196 hl rfl ?_ | refine x_aload_nQ hx hb d_M_store_196 hl rfl ?_
                  refine m_get hx hb hts hown hK hw ci_M (rf_at hI 0 (by decide) rfl) 7 (by decide) (wm3 79 rfl rfl) rfl d_M_store_197 ?_
                  refine x_iload_n hx hb d_M_store_200 hl rfl ?_
                  refine rl_7 hx hb hK hI hB hw (by omega) d_M_store_201 (fun hv201 => ?_)
                  refine rs_18 hx hb hK hI hB hw (by omega) (show _ from h712 n) d_M_store_202 (fun H locs hw hB => ?_)
                  first | refine x_aload_n hx hb d_M_store_203 hl rfl ?_ | refine x_aload_nQ hx hb d_M_store_203 hl rfl ?_
                  refine m_get hx hb hts hown hK hw ci_M (rf_at hI 0 (by decide) rfl) 19 (by decide) (wm3 91 rfl rfl) rfl d_M_store_204 ?_
                  first | refine x_aload_n hx hb d_M_store_207 hl rfl ?_ | refine x_aload_nQ hx hb d_M_store_207 hl rfl ?_
                  refine m_get (v := .int (nI (τ 16 0))) hx hb hts hown hK hw ci_M (rf_at hI 0 (by decide) rfl) 16 (by decide) (wm3 88 rfl rfl) rfl d_M_store_208 ?_
                  refine x_iload hx hb d_M_store_211 hl rfl ?_
                  refine x_if_eq hx hb d_M_store_213 rfl (by omega) (fun h213 => ?_) (fun h213 => ?_)
                  · first
                      | exact absurd h213 (by omega)
                      | refine lv_iconst (v := nI 0) hx hb d_M_store_221 (by decide) ?_
                        first | refine x_i2s hx hb d_M_store_222 (by omega) ?_ | refine lv_i2s hx hb d_M_store_222 rfl ?_
                        refine rs_19 hx hb hK hI hB hw (by omega) (by omega) d_M_store_223 (fun H locs hw hB => ?_)
                        first | refine x_aload_n hx hb d_M_store_224 hl rfl ?_ | refine x_aload_nQ hx hb d_M_store_224 hl rfl ?_
                        refine m_get hx hb hts hown hK hw ci_M (rf_at hI 0 (by decide) rfl) 20 (by decide) (wm3 92 rfl rfl) rfl d_M_store_225 ?_
                        first | refine x_aload_n hx hb d_M_store_228 hl rfl ?_ | refine x_aload_nQ hx hb d_M_store_228 hl rfl ?_
                        refine m_get (v := .int (nI (τ 16 0))) hx hb hts hown hK hw ci_M (rf_at hI 0 (by decide) rfl) 16 (by decide) (wm3 88 rfl rfl) rfl d_M_store_229 ?_
                        refine x_iload hx hb d_M_store_232 hl rfl ?_
                        refine x_if_eq hx hb d_M_store_234 rfl (by omega) (fun h234 => ?_) (fun h234 => ?_)
                        · first
                            | exact absurd h234 (by omega)
                            | refine lv_iconst (v := nI 1) hx hb d_M_store_251 (by decide) ?_
                              first | refine x_i2b hx hb d_M_store_252 (by omega) ?_ | refine x_i2b hx hb d_M_store_252 (show _ from hch) ?_
                              first | refine rs_20 hx hb hK hI hB hw (by omega) (by omega) d_M_store_253 (fun H locs hw hB => ?_) | refine rs_20 hx hb hK hI hB hw (by omega) (show _ from hch) d_M_store_253 (fun H locs hw hB => ?_)
                              first | refine x_aload_n hx hb d_M_store_254 hl rfl ?_ | refine x_aload_nQ hx hb d_M_store_254 hl rfl ?_
                              first | refine lv_dup hx hb d_M_store_255 rfl ?_ | refine lv_dup hx hb d_M_store_255 (va_rf_c _) ?_
                              refine m_get (v := .int (nI (τ 16 0))) hx hb hts hown hK hw ci_M (rf_at hI 0 (by decide) rfl) 16 (by decide) (wm3 88 rfl rfl) rfl d_M_store_256 ?_
                              refine lv_iconst (v := nI 1) hx hb d_M_store_259 (by decide) ?_
                              first | refine x_iadd hx hb d_M_store_260 ?_ | refine lv_iadd hx hb d_M_store_260 ?_
                              refine rp_16 hx hb hts hown hK hI hB hw (wm3 88 rfl rfl) (by omega) d_M_store_261 (fun H locs hw hB => ?_)
                              first | refine x_aload_n hx hb d_M_store_264 hl rfl ?_ | refine x_aload_nQ hx hb d_M_store_264 hl rfl ?_
                              refine m_get hx hb hts hown hK hw ci_M (rf_at hI 0 (by decide) rfl) 15 (by decide) (wm3 87 rfl rfl) rfl d_M_store_265 ?_
                              refine x_iload_n hx hb d_M_store_268 hl rfl ?_
                              first | refine x_aload_n hx hb d_M_store_269 hl rfl ?_ | refine x_aload_nQ hx hb d_M_store_269 hl rfl ?_
                              refine m_get (v := .int (nI (τ 16 0 + 1))) hx hb hts hown hK hw ci_M (rf_at hI 0 (by decide) rfl) 16 (by decide) (wm3 88 rfl rfl) rfl d_M_store_270 ?_
                              first | refine x_i2s hx hb d_M_store_273 (by omega) ?_ | refine lv_i2s hx hb d_M_store_273 rfl ?_
                              refine rs_15 hx hb hK hI hB hw (by omega) (by omega) d_M_store_274 (fun H locs hw hB => ?_)
                              exact x_retv hQ hx hb hr hlk hw (by omega) (by omega) d_M_store_275 (by rw [hst2, st2_3 h13 h75, h3f]; exact ⟨rfl, hB⟩)
                        · first
                            | exact absurd h234 (by omega)
                            | first | refine x_aload_n hx hb d_M_store_237 hl rfl ?_ | refine x_aload_nQ hx hb d_M_store_237 hl rfl ?_
                              refine m_get hx hb hts hown hK hw ci_M (rf_at hI 0 (by decide) rfl) 20 (by decide) (wm3 92 rfl rfl) rfl d_M_store_238 ?_
                              refine x_iload hx hb d_M_store_241 hl rfl ?_
                              refine lv_iconst (v := nI 1) hx hb d_M_store_243 (by decide) ?_
                              refine x_isub hx hb d_M_store_244 (by omega) ?_
                              refine rl_20 hx hb hK hI hB hw (by omega) d_M_store_245 (fun hv245 => ?_)
                              refine lv_iconst (v := nI 1) hx hb d_M_store_246 (by decide) ?_
                              first | refine x_iadd hx hb d_M_store_247 ?_ | refine lv_iadd hx hb d_M_store_247 ?_
                              refine lv_goto hx hb d_M_store_248 rfl ?_
                              first | refine x_i2b hx hb d_M_store_252 (by omega) ?_ | refine x_i2b hx hb d_M_store_252 (show _ from hch) ?_
                              first | refine rs_20 hx hb hK hI hB hw (by omega) (by omega) d_M_store_253 (fun H locs hw hB => ?_) | refine rs_20 hx hb hK hI hB hw (by omega) (show _ from hch) d_M_store_253 (fun H locs hw hB => ?_)
                              first | refine x_aload_n hx hb d_M_store_254 hl rfl ?_ | refine x_aload_nQ hx hb d_M_store_254 hl rfl ?_
                              first | refine lv_dup hx hb d_M_store_255 rfl ?_ | refine lv_dup hx hb d_M_store_255 (va_rf_c _) ?_
                              refine m_get (v := .int (nI (τ 16 0))) hx hb hts hown hK hw ci_M (rf_at hI 0 (by decide) rfl) 16 (by decide) (wm3 88 rfl rfl) rfl d_M_store_256 ?_
                              refine lv_iconst (v := nI 1) hx hb d_M_store_259 (by decide) ?_
                              first | refine x_iadd hx hb d_M_store_260 ?_ | refine lv_iadd hx hb d_M_store_260 ?_
                              refine rp_16 hx hb hts hown hK hI hB hw (wm3 88 rfl rfl) (by omega) d_M_store_261 (fun H locs hw hB => ?_)
                              first | refine x_aload_n hx hb d_M_store_264 hl rfl ?_ | refine x_aload_nQ hx hb d_M_store_264 hl rfl ?_
                              refine m_get hx hb hts hown hK hw ci_M (rf_at hI 0 (by decide) rfl) 15 (by decide) (wm3 87 rfl rfl) rfl d_M_store_265 ?_
                              refine x_iload_n hx hb d_M_store_268 hl rfl ?_
                              first | refine x_aload_n hx hb d_M_store_269 hl rfl ?_ | refine x_aload_nQ hx hb d_M_store_269 hl rfl ?_
                              refine m_get (v := .int (nI (τ 16 0 + 1))) hx hb hts hown hK hw ci_M (rf_at hI 0 (by decide) rfl) 16 (by decide) (wm3 88 rfl rfl) rfl d_M_store_270 ?_
                              first | refine x_i2s hx hb d_M_store_273 (by omega) ?_ | refine lv_i2s hx hb d_M_store_273 rfl ?_
                              refine rs_15 hx hb hK hI hB hw (by omega) (by omega) d_M_store_274 (fun H locs hw hB => ?_)
                              exact x_retv hQ hx hb hr hlk hw (by omega) (by omega) d_M_store_275 (by rw [hst2, st2_3 h13 h75, h3f]; exact ⟨rfl, hB⟩)
                  · first
                      | exact absurd h213 (by omega)
                      | refine x_iload hx hb d_M_store_216 hl rfl ?_
                        refine lv_goto hx hb d_M_store_218 rfl ?_
                        first | refine x_i2s hx hb d_M_store_222 (by omega) ?_ | refine lv_i2s hx hb d_M_store_222 rfl ?_
                        refine rs_19 hx hb hK hI hB hw (by omega) (by omega) d_M_store_223 (fun H locs hw hB => ?_)
                        first | refine x_aload_n hx hb d_M_store_224 hl rfl ?_ | refine x_aload_nQ hx hb d_M_store_224 hl rfl ?_
                        refine m_get hx hb hts hown hK hw ci_M (rf_at hI 0 (by decide) rfl) 20 (by decide) (wm3 92 rfl rfl) rfl d_M_store_225 ?_
                        first | refine x_aload_n hx hb d_M_store_228 hl rfl ?_ | refine x_aload_nQ hx hb d_M_store_228 hl rfl ?_
                        refine m_get (v := .int (nI (τ 16 0))) hx hb hts hown hK hw ci_M (rf_at hI 0 (by decide) rfl) 16 (by decide) (wm3 88 rfl rfl) rfl d_M_store_229 ?_
                        refine x_iload hx hb d_M_store_232 hl rfl ?_
                        refine x_if_eq hx hb d_M_store_234 rfl (by omega) (fun h234 => ?_) (fun h234 => ?_)
                        · first
                            | exact absurd h234 (by omega)
                            | refine lv_iconst (v := nI 1) hx hb d_M_store_251 (by decide) ?_
                              first | refine x_i2b hx hb d_M_store_252 (by omega) ?_ | refine x_i2b hx hb d_M_store_252 (show _ from hch) ?_
                              first | refine rs_20 hx hb hK hI hB hw (by omega) (by omega) d_M_store_253 (fun H locs hw hB => ?_) | refine rs_20 hx hb hK hI hB hw (by omega) (show _ from hch) d_M_store_253 (fun H locs hw hB => ?_)
                              first | refine x_aload_n hx hb d_M_store_254 hl rfl ?_ | refine x_aload_nQ hx hb d_M_store_254 hl rfl ?_
                              first | refine lv_dup hx hb d_M_store_255 rfl ?_ | refine lv_dup hx hb d_M_store_255 (va_rf_c _) ?_
                              refine m_get (v := .int (nI (τ 16 0))) hx hb hts hown hK hw ci_M (rf_at hI 0 (by decide) rfl) 16 (by decide) (wm3 88 rfl rfl) rfl d_M_store_256 ?_
                              refine lv_iconst (v := nI 1) hx hb d_M_store_259 (by decide) ?_
                              first | refine x_iadd hx hb d_M_store_260 ?_ | refine lv_iadd hx hb d_M_store_260 ?_
                              refine rp_16 hx hb hts hown hK hI hB hw (wm3 88 rfl rfl) (by omega) d_M_store_261 (fun H locs hw hB => ?_)
                              first | refine x_aload_n hx hb d_M_store_264 hl rfl ?_ | refine x_aload_nQ hx hb d_M_store_264 hl rfl ?_
                              refine m_get hx hb hts hown hK hw ci_M (rf_at hI 0 (by decide) rfl) 15 (by decide) (wm3 87 rfl rfl) rfl d_M_store_265 ?_
                              refine x_iload_n hx hb d_M_store_268 hl rfl ?_
                              first | refine x_aload_n hx hb d_M_store_269 hl rfl ?_ | refine x_aload_nQ hx hb d_M_store_269 hl rfl ?_
                              refine m_get (v := .int (nI (τ 16 0 + 1))) hx hb hts hown hK hw ci_M (rf_at hI 0 (by decide) rfl) 16 (by decide) (wm3 88 rfl rfl) rfl d_M_store_270 ?_
                              first | refine x_i2s hx hb d_M_store_273 (by omega) ?_ | refine lv_i2s hx hb d_M_store_273 rfl ?_
                              refine rs_15 hx hb hK hI hB hw (by omega) (by omega) d_M_store_274 (fun H locs hw hB => ?_)
                              exact x_retv hQ hx hb hr hlk hw (by omega) (by omega) d_M_store_275 (by rw [hst2, st2_3 h13 h75, h3f]; exact ⟨rfl, hB⟩)
                        · first
                            | exact absurd h234 (by omega)
                            | first | refine x_aload_n hx hb d_M_store_237 hl rfl ?_ | refine x_aload_nQ hx hb d_M_store_237 hl rfl ?_
                              refine m_get hx hb hts hown hK hw ci_M (rf_at hI 0 (by decide) rfl) 20 (by decide) (wm3 92 rfl rfl) rfl d_M_store_238 ?_
                              refine x_iload hx hb d_M_store_241 hl rfl ?_
                              refine lv_iconst (v := nI 1) hx hb d_M_store_243 (by decide) ?_
                              refine x_isub hx hb d_M_store_244 (by omega) ?_
                              refine rl_20 hx hb hK hI hB hw (by omega) d_M_store_245 (fun hv245 => ?_)
                              refine lv_iconst (v := nI 1) hx hb d_M_store_246 (by decide) ?_
                              first | refine x_iadd hx hb d_M_store_247 ?_ | refine lv_iadd hx hb d_M_store_247 ?_
                              refine lv_goto hx hb d_M_store_248 rfl ?_
                              first | refine x_i2b hx hb d_M_store_252 (by omega) ?_ | refine x_i2b hx hb d_M_store_252 (show _ from hch) ?_
                              first | refine rs_20 hx hb hK hI hB hw (by omega) (by omega) d_M_store_253 (fun H locs hw hB => ?_) | refine rs_20 hx hb hK hI hB hw (by omega) (show _ from hch) d_M_store_253 (fun H locs hw hB => ?_)
                              first | refine x_aload_n hx hb d_M_store_254 hl rfl ?_ | refine x_aload_nQ hx hb d_M_store_254 hl rfl ?_
                              first | refine lv_dup hx hb d_M_store_255 rfl ?_ | refine lv_dup hx hb d_M_store_255 (va_rf_c _) ?_
                              refine m_get (v := .int (nI (τ 16 0))) hx hb hts hown hK hw ci_M (rf_at hI 0 (by decide) rfl) 16 (by decide) (wm3 88 rfl rfl) rfl d_M_store_256 ?_
                              refine lv_iconst (v := nI 1) hx hb d_M_store_259 (by decide) ?_
                              first | refine x_iadd hx hb d_M_store_260 ?_ | refine lv_iadd hx hb d_M_store_260 ?_
                              refine rp_16 hx hb hts hown hK hI hB hw (wm3 88 rfl rfl) (by omega) d_M_store_261 (fun H locs hw hB => ?_)
                              first | refine x_aload_n hx hb d_M_store_264 hl rfl ?_ | refine x_aload_nQ hx hb d_M_store_264 hl rfl ?_
                              refine m_get hx hb hts hown hK hw ci_M (rf_at hI 0 (by decide) rfl) 15 (by decide) (wm3 87 rfl rfl) rfl d_M_store_265 ?_
                              refine x_iload_n hx hb d_M_store_268 hl rfl ?_
                              first | refine x_aload_n hx hb d_M_store_269 hl rfl ?_ | refine x_aload_nQ hx hb d_M_store_269 hl rfl ?_
                              refine m_get (v := .int (nI (τ 16 0 + 1))) hx hb hts hown hK hw ci_M (rf_at hI 0 (by decide) rfl) 16 (by decide) (wm3 88 rfl rfl) rfl d_M_store_270 ?_
                              first | refine x_i2s hx hb d_M_store_273 (by omega) ?_ | refine lv_i2s hx hb d_M_store_273 rfl ?_
                              refine rs_15 hx hb hK hI hB hw (by omega) (by omega) d_M_store_274 (fun H locs hw hB => ?_)
                              exact x_retv hQ hx hb hr hlk hw (by omega) (by omega) d_M_store_275 (by rw [hst2, st2_3 h13 h75, h3f]; exact ⟨rfl, hB⟩)
                · have h3f := st3_t hof h147 h163
                  have hch : τ 20 (τ 15 a - 1) + 1 < 128 := by omega
                  refine lv_iconst (v := nI 1) hx hb d_M_store_166 (by decide) ?_
                  refine lv_goto hx hb d_M_store_167 rfl ?_
                  refine x_istore hx hb d_M_store_171 hl (Nat.le_of_ble_eq_true rfl) (lh_k (i := 5) rfl (by first | exact lk_n | exact lk_i | exact lk_r | exact lk_q | exact lk_0)) (fun ls hl => ?_)
                  have hS2 := hSn h13
                  first | refine x_aload_n hx hb d_M_store_173 hl rfl ?_ | refine x_aload_nQ hx hb d_M_store_173 hl rfl ?_
                  refine m_get hx hb hts hown hK hw ci_M (rf_at hI 0 (by decide) rfl) 17 (by decide) (wm3 89 rfl rfl) rfl d_M_store_174 ?_
                  first | refine x_aload_n hx hb d_M_store_177 hl rfl ?_ | refine x_aload_nQ hx hb d_M_store_177 hl rfl ?_
                  refine m_get (v := .int (nI (τ 16 0))) hx hb hts hown hK hw ci_M (rf_at hI 0 (by decide) rfl) 16 (by decide) (wm3 88 rfl rfl) rfl d_M_store_178 ?_
                  first | refine x_aload_n hx hb d_M_store_181 hl rfl ?_ | refine x_aload_nQ hx hb d_M_store_181 hl rfl ?_
                  refine m_get hx hb hts hown hK hw ci_M (rf_at hI 0 (by decide) rfl) 9 (by decide) (wm3 81 rfl rfl) rfl d_M_store_182 ?_
                  refine x_iload_n hx hb d_M_store_185 hl rfl ?_
                  refine rl_9 hx hb hK hI hw (by omega) d_M_store_186 ?_
                  refine rs_17 hx hb hK hI hB hw (by omega) d_M_store_187 (fun H locs hw hB => ?_)
                  first | refine x_aload_n hx hb d_M_store_188 hl rfl ?_ | refine x_aload_nQ hx hb d_M_store_188 hl rfl ?_
                  refine m_get hx hb hts hown hK hw ci_M (rf_at hI 0 (by decide) rfl) 18 (by decide) (wm3 90 rfl rfl) rfl d_M_store_189 ?_
                  first | refine x_aload_n hx hb d_M_store_192 hl rfl ?_ | refine x_aload_nQ hx hb d_M_store_192 hl rfl ?_
                  refine m_get (v := .int (nI (τ 16 0))) hx hb hts hown hK hw ci_M (rf_at hI 0 (by decide) rfl) 16 (by decide) (wm3 88 rfl rfl) rfl d_M_store_193 ?_
                  first | refine x_aload_n hx hb d_M_store_196 hl rfl ?_ | refine x_aload_nQ hx hb d_M_store_196 hl rfl ?_
                  refine m_get hx hb hts hown hK hw ci_M (rf_at hI 0 (by decide) rfl) 7 (by decide) (wm3 79 rfl rfl) rfl d_M_store_197 ?_
                  refine x_iload_n hx hb d_M_store_200 hl rfl ?_
                  refine rl_7 hx hb hK hI hB hw (by omega) d_M_store_201 (fun hv201 => ?_)
                  refine rs_18 hx hb hK hI hB hw (by omega) (show _ from h712 n) d_M_store_202 (fun H locs hw hB => ?_)
                  first | refine x_aload_n hx hb d_M_store_203 hl rfl ?_ | refine x_aload_nQ hx hb d_M_store_203 hl rfl ?_
                  refine m_get hx hb hts hown hK hw ci_M (rf_at hI 0 (by decide) rfl) 19 (by decide) (wm3 91 rfl rfl) rfl d_M_store_204 ?_
                  first | refine x_aload_n hx hb d_M_store_207 hl rfl ?_ | refine x_aload_nQ hx hb d_M_store_207 hl rfl ?_
                  refine m_get (v := .int (nI (τ 16 0))) hx hb hts hown hK hw ci_M (rf_at hI 0 (by decide) rfl) 16 (by decide) (wm3 88 rfl rfl) rfl d_M_store_208 ?_
                  refine x_iload hx hb d_M_store_211 hl rfl ?_
                  refine x_if_eq hx hb d_M_store_213 rfl (by omega) (fun h213 => ?_) (fun h213 => ?_)
                  · first
                      | exact absurd h213 (by omega)
                      | refine lv_iconst (v := nI 0) hx hb d_M_store_221 (by decide) ?_
                        first | refine x_i2s hx hb d_M_store_222 (by omega) ?_ | refine lv_i2s hx hb d_M_store_222 rfl ?_
                        refine rs_19 hx hb hK hI hB hw (by omega) (by omega) d_M_store_223 (fun H locs hw hB => ?_)
                        first | refine x_aload_n hx hb d_M_store_224 hl rfl ?_ | refine x_aload_nQ hx hb d_M_store_224 hl rfl ?_
                        refine m_get hx hb hts hown hK hw ci_M (rf_at hI 0 (by decide) rfl) 20 (by decide) (wm3 92 rfl rfl) rfl d_M_store_225 ?_
                        first | refine x_aload_n hx hb d_M_store_228 hl rfl ?_ | refine x_aload_nQ hx hb d_M_store_228 hl rfl ?_
                        refine m_get (v := .int (nI (τ 16 0))) hx hb hts hown hK hw ci_M (rf_at hI 0 (by decide) rfl) 16 (by decide) (wm3 88 rfl rfl) rfl d_M_store_229 ?_
                        refine x_iload hx hb d_M_store_232 hl rfl ?_
                        refine x_if_eq hx hb d_M_store_234 rfl (by omega) (fun h234 => ?_) (fun h234 => ?_)
                        · first
                            | exact absurd h234 (by omega)
                            | refine lv_iconst (v := nI 1) hx hb d_M_store_251 (by decide) ?_
                              first | refine x_i2b hx hb d_M_store_252 (by omega) ?_ | refine x_i2b hx hb d_M_store_252 (show _ from hch) ?_
                              first | refine rs_20 hx hb hK hI hB hw (by omega) (by omega) d_M_store_253 (fun H locs hw hB => ?_) | refine rs_20 hx hb hK hI hB hw (by omega) (show _ from hch) d_M_store_253 (fun H locs hw hB => ?_)
                              first | refine x_aload_n hx hb d_M_store_254 hl rfl ?_ | refine x_aload_nQ hx hb d_M_store_254 hl rfl ?_
                              first | refine lv_dup hx hb d_M_store_255 rfl ?_ | refine lv_dup hx hb d_M_store_255 (va_rf_c _) ?_
                              refine m_get (v := .int (nI (τ 16 0))) hx hb hts hown hK hw ci_M (rf_at hI 0 (by decide) rfl) 16 (by decide) (wm3 88 rfl rfl) rfl d_M_store_256 ?_
                              refine lv_iconst (v := nI 1) hx hb d_M_store_259 (by decide) ?_
                              first | refine x_iadd hx hb d_M_store_260 ?_ | refine lv_iadd hx hb d_M_store_260 ?_
                              refine rp_16 hx hb hts hown hK hI hB hw (wm3 88 rfl rfl) (by omega) d_M_store_261 (fun H locs hw hB => ?_)
                              first | refine x_aload_n hx hb d_M_store_264 hl rfl ?_ | refine x_aload_nQ hx hb d_M_store_264 hl rfl ?_
                              refine m_get hx hb hts hown hK hw ci_M (rf_at hI 0 (by decide) rfl) 15 (by decide) (wm3 87 rfl rfl) rfl d_M_store_265 ?_
                              refine x_iload_n hx hb d_M_store_268 hl rfl ?_
                              first | refine x_aload_n hx hb d_M_store_269 hl rfl ?_ | refine x_aload_nQ hx hb d_M_store_269 hl rfl ?_
                              refine m_get (v := .int (nI (τ 16 0 + 1))) hx hb hts hown hK hw ci_M (rf_at hI 0 (by decide) rfl) 16 (by decide) (wm3 88 rfl rfl) rfl d_M_store_270 ?_
                              first | refine x_i2s hx hb d_M_store_273 (by omega) ?_ | refine lv_i2s hx hb d_M_store_273 rfl ?_
                              refine rs_15 hx hb hK hI hB hw (by omega) (by omega) d_M_store_274 (fun H locs hw hB => ?_)
                              exact x_retv hQ hx hb hr hlk hw (by omega) (by omega) d_M_store_275 (by rw [hst2, st2_3 h13 h75, h3f]; exact ⟨rfl, hB⟩)
                        · first
                            | exact absurd h234 (by omega)
                            | first | refine x_aload_n hx hb d_M_store_237 hl rfl ?_ | refine x_aload_nQ hx hb d_M_store_237 hl rfl ?_
                              refine m_get hx hb hts hown hK hw ci_M (rf_at hI 0 (by decide) rfl) 20 (by decide) (wm3 92 rfl rfl) rfl d_M_store_238 ?_
                              refine x_iload hx hb d_M_store_241 hl rfl ?_
                              refine lv_iconst (v := nI 1) hx hb d_M_store_243 (by decide) ?_
                              refine x_isub hx hb d_M_store_244 (by omega) ?_
                              refine rl_20 hx hb hK hI hB hw (by omega) d_M_store_245 (fun hv245 => ?_)
                              refine lv_iconst (v := nI 1) hx hb d_M_store_246 (by decide) ?_
                              first | refine x_iadd hx hb d_M_store_247 ?_ | refine lv_iadd hx hb d_M_store_247 ?_
                              refine lv_goto hx hb d_M_store_248 rfl ?_
                              first | refine x_i2b hx hb d_M_store_252 (by omega) ?_ | refine x_i2b hx hb d_M_store_252 (show _ from hch) ?_
                              first | refine rs_20 hx hb hK hI hB hw (by omega) (by omega) d_M_store_253 (fun H locs hw hB => ?_) | refine rs_20 hx hb hK hI hB hw (by omega) (show _ from hch) d_M_store_253 (fun H locs hw hB => ?_)
                              first | refine x_aload_n hx hb d_M_store_254 hl rfl ?_ | refine x_aload_nQ hx hb d_M_store_254 hl rfl ?_
                              first | refine lv_dup hx hb d_M_store_255 rfl ?_ | refine lv_dup hx hb d_M_store_255 (va_rf_c _) ?_
                              refine m_get (v := .int (nI (τ 16 0))) hx hb hts hown hK hw ci_M (rf_at hI 0 (by decide) rfl) 16 (by decide) (wm3 88 rfl rfl) rfl d_M_store_256 ?_
                              refine lv_iconst (v := nI 1) hx hb d_M_store_259 (by decide) ?_
                              first | refine x_iadd hx hb d_M_store_260 ?_ | refine lv_iadd hx hb d_M_store_260 ?_
                              refine rp_16 hx hb hts hown hK hI hB hw (wm3 88 rfl rfl) (by omega) d_M_store_261 (fun H locs hw hB => ?_)
                              first | refine x_aload_n hx hb d_M_store_264 hl rfl ?_ | refine x_aload_nQ hx hb d_M_store_264 hl rfl ?_
                              refine m_get hx hb hts hown hK hw ci_M (rf_at hI 0 (by decide) rfl) 15 (by decide) (wm3 87 rfl rfl) rfl d_M_store_265 ?_
                              refine x_iload_n hx hb d_M_store_268 hl rfl ?_
                              first | refine x_aload_n hx hb d_M_store_269 hl rfl ?_ | refine x_aload_nQ hx hb d_M_store_269 hl rfl ?_
                              refine m_get (v := .int (nI (τ 16 0 + 1))) hx hb hts hown hK hw ci_M (rf_at hI 0 (by decide) rfl) 16 (by decide) (wm3 88 rfl rfl) rfl d_M_store_270 ?_
                              first | refine x_i2s hx hb d_M_store_273 (by omega) ?_ | refine lv_i2s hx hb d_M_store_273 rfl ?_
                              refine rs_15 hx hb hK hI hB hw (by omega) (by omega) d_M_store_274 (fun H locs hw hB => ?_)
                              exact x_retv hQ hx hb hr hlk hw (by omega) (by omega) d_M_store_275 (by rw [hst2, st2_3 h13 h75, h3f]; exact ⟨rfl, hB⟩)
                  · first
                      | exact absurd h213 (by omega)
                      | refine x_iload hx hb d_M_store_216 hl rfl ?_
                        refine lv_goto hx hb d_M_store_218 rfl ?_
                        first | refine x_i2s hx hb d_M_store_222 (by omega) ?_ | refine lv_i2s hx hb d_M_store_222 rfl ?_
                        refine rs_19 hx hb hK hI hB hw (by omega) (by omega) d_M_store_223 (fun H locs hw hB => ?_)
                        first | refine x_aload_n hx hb d_M_store_224 hl rfl ?_ | refine x_aload_nQ hx hb d_M_store_224 hl rfl ?_
                        refine m_get hx hb hts hown hK hw ci_M (rf_at hI 0 (by decide) rfl) 20 (by decide) (wm3 92 rfl rfl) rfl d_M_store_225 ?_
                        first | refine x_aload_n hx hb d_M_store_228 hl rfl ?_ | refine x_aload_nQ hx hb d_M_store_228 hl rfl ?_
                        refine m_get (v := .int (nI (τ 16 0))) hx hb hts hown hK hw ci_M (rf_at hI 0 (by decide) rfl) 16 (by decide) (wm3 88 rfl rfl) rfl d_M_store_229 ?_
                        refine x_iload hx hb d_M_store_232 hl rfl ?_
                        refine x_if_eq hx hb d_M_store_234 rfl (by omega) (fun h234 => ?_) (fun h234 => ?_)
                        · first
                            | exact absurd h234 (by omega)
                            | refine lv_iconst (v := nI 1) hx hb d_M_store_251 (by decide) ?_
                              first | refine x_i2b hx hb d_M_store_252 (by omega) ?_ | refine x_i2b hx hb d_M_store_252 (show _ from hch) ?_
                              first | refine rs_20 hx hb hK hI hB hw (by omega) (by omega) d_M_store_253 (fun H locs hw hB => ?_) | refine rs_20 hx hb hK hI hB hw (by omega) (show _ from hch) d_M_store_253 (fun H locs hw hB => ?_)
                              first | refine x_aload_n hx hb d_M_store_254 hl rfl ?_ | refine x_aload_nQ hx hb d_M_store_254 hl rfl ?_
                              first | refine lv_dup hx hb d_M_store_255 rfl ?_ | refine lv_dup hx hb d_M_store_255 (va_rf_c _) ?_
                              refine m_get (v := .int (nI (τ 16 0))) hx hb hts hown hK hw ci_M (rf_at hI 0 (by decide) rfl) 16 (by decide) (wm3 88 rfl rfl) rfl d_M_store_256 ?_
                              refine lv_iconst (v := nI 1) hx hb d_M_store_259 (by decide) ?_
                              first | refine x_iadd hx hb d_M_store_260 ?_ | refine lv_iadd hx hb d_M_store_260 ?_
                              refine rp_16 hx hb hts hown hK hI hB hw (wm3 88 rfl rfl) (by omega) d_M_store_261 (fun H locs hw hB => ?_)
                              first | refine x_aload_n hx hb d_M_store_264 hl rfl ?_ | refine x_aload_nQ hx hb d_M_store_264 hl rfl ?_
                              refine m_get hx hb hts hown hK hw ci_M (rf_at hI 0 (by decide) rfl) 15 (by decide) (wm3 87 rfl rfl) rfl d_M_store_265 ?_
                              refine x_iload_n hx hb d_M_store_268 hl rfl ?_
                              first | refine x_aload_n hx hb d_M_store_269 hl rfl ?_ | refine x_aload_nQ hx hb d_M_store_269 hl rfl ?_
                              refine m_get (v := .int (nI (τ 16 0 + 1))) hx hb hts hown hK hw ci_M (rf_at hI 0 (by decide) rfl) 16 (by decide) (wm3 88 rfl rfl) rfl d_M_store_270 ?_
                              first | refine x_i2s hx hb d_M_store_273 (by omega) ?_ | refine lv_i2s hx hb d_M_store_273 rfl ?_
                              refine rs_15 hx hb hK hI hB hw (by omega) (by omega) d_M_store_274 (fun H locs hw hB => ?_)
                              exact x_retv hQ hx hb hr hlk hw (by omega) (by omega) d_M_store_275 (by rw [hst2, st2_3 h13 h75, h3f]; exact ⟨rfl, hB⟩)
                        · first
                            | exact absurd h234 (by omega)
                            | first | refine x_aload_n hx hb d_M_store_237 hl rfl ?_ | refine x_aload_nQ hx hb d_M_store_237 hl rfl ?_
                              refine m_get hx hb hts hown hK hw ci_M (rf_at hI 0 (by decide) rfl) 20 (by decide) (wm3 92 rfl rfl) rfl d_M_store_238 ?_
                              refine x_iload hx hb d_M_store_241 hl rfl ?_
                              refine lv_iconst (v := nI 1) hx hb d_M_store_243 (by decide) ?_
                              refine x_isub hx hb d_M_store_244 (by omega) ?_
                              refine rl_20 hx hb hK hI hB hw (by omega) d_M_store_245 (fun hv245 => ?_)
                              refine lv_iconst (v := nI 1) hx hb d_M_store_246 (by decide) ?_
                              first | refine x_iadd hx hb d_M_store_247 ?_ | refine lv_iadd hx hb d_M_store_247 ?_
                              refine lv_goto hx hb d_M_store_248 rfl ?_
                              first | refine x_i2b hx hb d_M_store_252 (by omega) ?_ | refine x_i2b hx hb d_M_store_252 (show _ from hch) ?_
                              first | refine rs_20 hx hb hK hI hB hw (by omega) (by omega) d_M_store_253 (fun H locs hw hB => ?_) | refine rs_20 hx hb hK hI hB hw (by omega) (show _ from hch) d_M_store_253 (fun H locs hw hB => ?_)
                              first | refine x_aload_n hx hb d_M_store_254 hl rfl ?_ | refine x_aload_nQ hx hb d_M_store_254 hl rfl ?_
                              first | refine lv_dup hx hb d_M_store_255 rfl ?_ | refine lv_dup hx hb d_M_store_255 (va_rf_c _) ?_
                              refine m_get (v := .int (nI (τ 16 0))) hx hb hts hown hK hw ci_M (rf_at hI 0 (by decide) rfl) 16 (by decide) (wm3 88 rfl rfl) rfl d_M_store_256 ?_
                              refine lv_iconst (v := nI 1) hx hb d_M_store_259 (by decide) ?_
                              first | refine x_iadd hx hb d_M_store_260 ?_ | refine lv_iadd hx hb d_M_store_260 ?_
                              refine rp_16 hx hb hts hown hK hI hB hw (wm3 88 rfl rfl) (by omega) d_M_store_261 (fun H locs hw hB => ?_)
                              first | refine x_aload_n hx hb d_M_store_264 hl rfl ?_ | refine x_aload_nQ hx hb d_M_store_264 hl rfl ?_
                              refine m_get hx hb hts hown hK hw ci_M (rf_at hI 0 (by decide) rfl) 15 (by decide) (wm3 87 rfl rfl) rfl d_M_store_265 ?_
                              refine x_iload_n hx hb d_M_store_268 hl rfl ?_
                              first | refine x_aload_n hx hb d_M_store_269 hl rfl ?_ | refine x_aload_nQ hx hb d_M_store_269 hl rfl ?_
                              refine m_get (v := .int (nI (τ 16 0 + 1))) hx hb hts hown hK hw ci_M (rf_at hI 0 (by decide) rfl) 16 (by decide) (wm3 88 rfl rfl) rfl d_M_store_270 ?_
                              first | refine x_i2s hx hb d_M_store_273 (by omega) ?_ | refine lv_i2s hx hb d_M_store_273 rfl ?_
                              refine rs_15 hx hb hK hI hB hw (by omega) (by omega) d_M_store_274 (fun H locs hw hB => ?_)
                              exact x_retv hQ hx hb hr hlk hw (by omega) (by omega) d_M_store_275 (by rw [hst2, st2_3 h13 h75, h3f]; exact ⟨rfl, hB⟩)
        · refine x_iload_n hx hb d_M_store_128 hl rfl ?_
          refine x_if_le hx hb d_M_store_129 rfl (by omega) (fun h129 => ?_) (fun h129 => ?_)
          · have hof := oldf_0 ha (Or.inr h129)
            refine lv_iconst (v := nI 0) hx hb d_M_store_142 (by decide) ?_
            refine x_istore hx hb d_M_store_143 hl (Nat.le_of_ble_eq_true rfl) (lh_k (i := 4) rfl (by first | exact lk_n | exact lk_i | exact lk_r | exact lk_q | exact lk_0)) (fun ls hl => ?_)
            have hal := alw_le (c := τ 11 n) 20 0
            refine x_iload hx hb d_M_store_145 hl rfl ?_
            refine x_if_le hx hb d_M_store_147 rfl (by omega) (fun h147 => ?_) (fun h147 => ?_)
            · first
                | exact absurd h147 (by omega)
                | have h3f := st3_f hof (Or.inl (by omega))
                  refine lv_iconst (v := nI 0) hx hb d_M_store_170 (by decide) ?_
                  refine x_istore hx hb d_M_store_171 hl (Nat.le_of_ble_eq_true rfl) (lh_k (i := 5) rfl (by first | exact lk_n | exact lk_i | exact lk_r | exact lk_q | exact lk_0)) (fun ls hl => ?_)
                  have hS2 := hSn h13
                  first | refine x_aload_n hx hb d_M_store_173 hl rfl ?_ | refine x_aload_nQ hx hb d_M_store_173 hl rfl ?_
                  refine m_get hx hb hts hown hK hw ci_M (rf_at hI 0 (by decide) rfl) 17 (by decide) (wm3 89 rfl rfl) rfl d_M_store_174 ?_
                  first | refine x_aload_n hx hb d_M_store_177 hl rfl ?_ | refine x_aload_nQ hx hb d_M_store_177 hl rfl ?_
                  refine m_get (v := .int (nI (τ 16 0))) hx hb hts hown hK hw ci_M (rf_at hI 0 (by decide) rfl) 16 (by decide) (wm3 88 rfl rfl) rfl d_M_store_178 ?_
                  first | refine x_aload_n hx hb d_M_store_181 hl rfl ?_ | refine x_aload_nQ hx hb d_M_store_181 hl rfl ?_
                  refine m_get hx hb hts hown hK hw ci_M (rf_at hI 0 (by decide) rfl) 9 (by decide) (wm3 81 rfl rfl) rfl d_M_store_182 ?_
                  refine x_iload_n hx hb d_M_store_185 hl rfl ?_
                  refine rl_9 hx hb hK hI hw (by omega) d_M_store_186 ?_
                  refine rs_17 hx hb hK hI hB hw (by omega) d_M_store_187 (fun H locs hw hB => ?_)
                  first | refine x_aload_n hx hb d_M_store_188 hl rfl ?_ | refine x_aload_nQ hx hb d_M_store_188 hl rfl ?_
                  refine m_get hx hb hts hown hK hw ci_M (rf_at hI 0 (by decide) rfl) 18 (by decide) (wm3 90 rfl rfl) rfl d_M_store_189 ?_
                  first | refine x_aload_n hx hb d_M_store_192 hl rfl ?_ | refine x_aload_nQ hx hb d_M_store_192 hl rfl ?_
                  refine m_get (v := .int (nI (τ 16 0))) hx hb hts hown hK hw ci_M (rf_at hI 0 (by decide) rfl) 16 (by decide) (wm3 88 rfl rfl) rfl d_M_store_193 ?_
                  first | refine x_aload_n hx hb d_M_store_196 hl rfl ?_ | refine x_aload_nQ hx hb d_M_store_196 hl rfl ?_
                  refine m_get hx hb hts hown hK hw ci_M (rf_at hI 0 (by decide) rfl) 7 (by decide) (wm3 79 rfl rfl) rfl d_M_store_197 ?_
                  refine x_iload_n hx hb d_M_store_200 hl rfl ?_
                  refine rl_7 hx hb hK hI hB hw (by omega) d_M_store_201 (fun hv201 => ?_)
                  refine rs_18 hx hb hK hI hB hw (by omega) (show _ from h712 n) d_M_store_202 (fun H locs hw hB => ?_)
                  first | refine x_aload_n hx hb d_M_store_203 hl rfl ?_ | refine x_aload_nQ hx hb d_M_store_203 hl rfl ?_
                  refine m_get hx hb hts hown hK hw ci_M (rf_at hI 0 (by decide) rfl) 19 (by decide) (wm3 91 rfl rfl) rfl d_M_store_204 ?_
                  first | refine x_aload_n hx hb d_M_store_207 hl rfl ?_ | refine x_aload_nQ hx hb d_M_store_207 hl rfl ?_
                  refine m_get (v := .int (nI (τ 16 0))) hx hb hts hown hK hw ci_M (rf_at hI 0 (by decide) rfl) 16 (by decide) (wm3 88 rfl rfl) rfl d_M_store_208 ?_
                  refine x_iload hx hb d_M_store_211 hl rfl ?_
                  refine x_if_eq hx hb d_M_store_213 rfl (by omega) (fun h213 => ?_) (fun h213 => ?_)
                  · first
                      | exact absurd h213 (by omega)
                      | refine lv_iconst (v := nI 0) hx hb d_M_store_221 (by decide) ?_
                        first | refine x_i2s hx hb d_M_store_222 (by omega) ?_ | refine lv_i2s hx hb d_M_store_222 rfl ?_
                        refine rs_19 hx hb hK hI hB hw (by omega) (by omega) d_M_store_223 (fun H locs hw hB => ?_)
                        first | refine x_aload_n hx hb d_M_store_224 hl rfl ?_ | refine x_aload_nQ hx hb d_M_store_224 hl rfl ?_
                        refine m_get hx hb hts hown hK hw ci_M (rf_at hI 0 (by decide) rfl) 20 (by decide) (wm3 92 rfl rfl) rfl d_M_store_225 ?_
                        first | refine x_aload_n hx hb d_M_store_228 hl rfl ?_ | refine x_aload_nQ hx hb d_M_store_228 hl rfl ?_
                        refine m_get (v := .int (nI (τ 16 0))) hx hb hts hown hK hw ci_M (rf_at hI 0 (by decide) rfl) 16 (by decide) (wm3 88 rfl rfl) rfl d_M_store_229 ?_
                        refine x_iload hx hb d_M_store_232 hl rfl ?_
                        refine x_if_eq hx hb d_M_store_234 rfl (by omega) (fun h234 => ?_) (fun h234 => ?_)
                        · first
                            | exact absurd h234 (by omega)
                            | refine lv_iconst (v := nI 1) hx hb d_M_store_251 (by decide) ?_
                              first | refine x_i2b hx hb d_M_store_252 (by omega) ?_ | refine x_i2b hx hb d_M_store_252 (show _ from hch) ?_
                              first | refine rs_20 hx hb hK hI hB hw (by omega) (by omega) d_M_store_253 (fun H locs hw hB => ?_) | refine rs_20 hx hb hK hI hB hw (by omega) (show _ from hch) d_M_store_253 (fun H locs hw hB => ?_)
                              first | refine x_aload_n hx hb d_M_store_254 hl rfl ?_ | refine x_aload_nQ hx hb d_M_store_254 hl rfl ?_
                              first | refine lv_dup hx hb d_M_store_255 rfl ?_ | refine lv_dup hx hb d_M_store_255 (va_rf_c _) ?_
                              refine m_get (v := .int (nI (τ 16 0))) hx hb hts hown hK hw ci_M (rf_at hI 0 (by decide) rfl) 16 (by decide) (wm3 88 rfl rfl) rfl d_M_store_256 ?_
                              refine lv_iconst (v := nI 1) hx hb d_M_store_259 (by decide) ?_
                              first | refine x_iadd hx hb d_M_store_260 ?_ | refine lv_iadd hx hb d_M_store_260 ?_
                              refine rp_16 hx hb hts hown hK hI hB hw (wm3 88 rfl rfl) (by omega) d_M_store_261 (fun H locs hw hB => ?_)
                              first | refine x_aload_n hx hb d_M_store_264 hl rfl ?_ | refine x_aload_nQ hx hb d_M_store_264 hl rfl ?_
                              refine m_get hx hb hts hown hK hw ci_M (rf_at hI 0 (by decide) rfl) 15 (by decide) (wm3 87 rfl rfl) rfl d_M_store_265 ?_
                              refine x_iload_n hx hb d_M_store_268 hl rfl ?_
                              first | refine x_aload_n hx hb d_M_store_269 hl rfl ?_ | refine x_aload_nQ hx hb d_M_store_269 hl rfl ?_
                              refine m_get (v := .int (nI (τ 16 0 + 1))) hx hb hts hown hK hw ci_M (rf_at hI 0 (by decide) rfl) 16 (by decide) (wm3 88 rfl rfl) rfl d_M_store_270 ?_
                              first | refine x_i2s hx hb d_M_store_273 (by omega) ?_ | refine lv_i2s hx hb d_M_store_273 rfl ?_
                              refine rs_15 hx hb hK hI hB hw (by omega) (by omega) d_M_store_274 (fun H locs hw hB => ?_)
                              exact x_retv hQ hx hb hr hlk hw (by omega) (by omega) d_M_store_275 (by rw [hst2, st2_3 h13 h75, h3f]; exact ⟨rfl, hB⟩)
                        · first
                            | exact absurd h234 (by omega)
                            | first | refine x_aload_n hx hb d_M_store_237 hl rfl ?_ | refine x_aload_nQ hx hb d_M_store_237 hl rfl ?_
                              refine m_get hx hb hts hown hK hw ci_M (rf_at hI 0 (by decide) rfl) 20 (by decide) (wm3 92 rfl rfl) rfl d_M_store_238 ?_
                              refine x_iload hx hb d_M_store_241 hl rfl ?_
                              refine lv_iconst (v := nI 1) hx hb d_M_store_243 (by decide) ?_
                              refine x_isub hx hb d_M_store_244 (by omega) ?_
                              refine rl_20 hx hb hK hI hB hw (by omega) d_M_store_245 (fun hv245 => ?_)
                              refine lv_iconst (v := nI 1) hx hb d_M_store_246 (by decide) ?_
                              first | refine x_iadd hx hb d_M_store_247 ?_ | refine lv_iadd hx hb d_M_store_247 ?_
                              refine lv_goto hx hb d_M_store_248 rfl ?_
                              first | refine x_i2b hx hb d_M_store_252 (by omega) ?_ | refine x_i2b hx hb d_M_store_252 (show _ from hch) ?_
                              first | refine rs_20 hx hb hK hI hB hw (by omega) (by omega) d_M_store_253 (fun H locs hw hB => ?_) | refine rs_20 hx hb hK hI hB hw (by omega) (show _ from hch) d_M_store_253 (fun H locs hw hB => ?_)
                              first | refine x_aload_n hx hb d_M_store_254 hl rfl ?_ | refine x_aload_nQ hx hb d_M_store_254 hl rfl ?_
                              first | refine lv_dup hx hb d_M_store_255 rfl ?_ | refine lv_dup hx hb d_M_store_255 (va_rf_c _) ?_
                              refine m_get (v := .int (nI (τ 16 0))) hx hb hts hown hK hw ci_M (rf_at hI 0 (by decide) rfl) 16 (by decide) (wm3 88 rfl rfl) rfl d_M_store_256 ?_
                              refine lv_iconst (v := nI 1) hx hb d_M_store_259 (by decide) ?_
                              first | refine x_iadd hx hb d_M_store_260 ?_ | refine lv_iadd hx hb d_M_store_260 ?_
                              refine rp_16 hx hb hts hown hK hI hB hw (wm3 88 rfl rfl) (by omega) d_M_store_261 (fun H locs hw hB => ?_)
                              first | refine x_aload_n hx hb d_M_store_264 hl rfl ?_ | refine x_aload_nQ hx hb d_M_store_264 hl rfl ?_
                              refine m_get hx hb hts hown hK hw ci_M (rf_at hI 0 (by decide) rfl) 15 (by decide) (wm3 87 rfl rfl) rfl d_M_store_265 ?_
                              refine x_iload_n hx hb d_M_store_268 hl rfl ?_
                              first | refine x_aload_n hx hb d_M_store_269 hl rfl ?_ | refine x_aload_nQ hx hb d_M_store_269 hl rfl ?_
                              refine m_get (v := .int (nI (τ 16 0 + 1))) hx hb hts hown hK hw ci_M (rf_at hI 0 (by decide) rfl) 16 (by decide) (wm3 88 rfl rfl) rfl d_M_store_270 ?_
                              first | refine x_i2s hx hb d_M_store_273 (by omega) ?_ | refine lv_i2s hx hb d_M_store_273 rfl ?_
                              refine rs_15 hx hb hK hI hB hw (by omega) (by omega) d_M_store_274 (fun H locs hw hB => ?_)
                              exact x_retv hQ hx hb hr hlk hw (by omega) (by omega) d_M_store_275 (by rw [hst2, st2_3 h13 h75, h3f]; exact ⟨rfl, hB⟩)
                  · first
                      | exact absurd h213 (by omega)
                      | refine x_iload hx hb d_M_store_216 hl rfl ?_
                        refine lv_goto hx hb d_M_store_218 rfl ?_
                        first | refine x_i2s hx hb d_M_store_222 (by omega) ?_ | refine lv_i2s hx hb d_M_store_222 rfl ?_
                        refine rs_19 hx hb hK hI hB hw (by omega) (by omega) d_M_store_223 (fun H locs hw hB => ?_)
                        first | refine x_aload_n hx hb d_M_store_224 hl rfl ?_ | refine x_aload_nQ hx hb d_M_store_224 hl rfl ?_
                        refine m_get hx hb hts hown hK hw ci_M (rf_at hI 0 (by decide) rfl) 20 (by decide) (wm3 92 rfl rfl) rfl d_M_store_225 ?_
                        first | refine x_aload_n hx hb d_M_store_228 hl rfl ?_ | refine x_aload_nQ hx hb d_M_store_228 hl rfl ?_
                        refine m_get (v := .int (nI (τ 16 0))) hx hb hts hown hK hw ci_M (rf_at hI 0 (by decide) rfl) 16 (by decide) (wm3 88 rfl rfl) rfl d_M_store_229 ?_
                        refine x_iload hx hb d_M_store_232 hl rfl ?_
                        refine x_if_eq hx hb d_M_store_234 rfl (by omega) (fun h234 => ?_) (fun h234 => ?_)
                        · first
                            | exact absurd h234 (by omega)
                            | refine lv_iconst (v := nI 1) hx hb d_M_store_251 (by decide) ?_
                              first | refine x_i2b hx hb d_M_store_252 (by omega) ?_ | refine x_i2b hx hb d_M_store_252 (show _ from hch) ?_
                              first | refine rs_20 hx hb hK hI hB hw (by omega) (by omega) d_M_store_253 (fun H locs hw hB => ?_) | refine rs_20 hx hb hK hI hB hw (by omega) (show _ from hch) d_M_store_253 (fun H locs hw hB => ?_)
                              first | refine x_aload_n hx hb d_M_store_254 hl rfl ?_ | refine x_aload_nQ hx hb d_M_store_254 hl rfl ?_
                              first | refine lv_dup hx hb d_M_store_255 rfl ?_ | refine lv_dup hx hb d_M_store_255 (va_rf_c _) ?_
                              refine m_get (v := .int (nI (τ 16 0))) hx hb hts hown hK hw ci_M (rf_at hI 0 (by decide) rfl) 16 (by decide) (wm3 88 rfl rfl) rfl d_M_store_256 ?_
                              refine lv_iconst (v := nI 1) hx hb d_M_store_259 (by decide) ?_
                              first | refine x_iadd hx hb d_M_store_260 ?_ | refine lv_iadd hx hb d_M_store_260 ?_
                              refine rp_16 hx hb hts hown hK hI hB hw (wm3 88 rfl rfl) (by omega) d_M_store_261 (fun H locs hw hB => ?_)
                              first | refine x_aload_n hx hb d_M_store_264 hl rfl ?_ | refine x_aload_nQ hx hb d_M_store_264 hl rfl ?_
                              refine m_get hx hb hts hown hK hw ci_M (rf_at hI 0 (by decide) rfl) 15 (by decide) (wm3 87 rfl rfl) rfl d_M_store_265 ?_
                              refine x_iload_n hx hb d_M_store_268 hl rfl ?_
                              first | refine x_aload_n hx hb d_M_store_269 hl rfl ?_ | refine x_aload_nQ hx hb d_M_store_269 hl rfl ?_
                              refine m_get (v := .int (nI (τ 16 0 + 1))) hx hb hts hown hK hw ci_M (rf_at hI 0 (by decide) rfl) 16 (by decide) (wm3 88 rfl rfl) rfl d_M_store_270 ?_
                              first | refine x_i2s hx hb d_M_store_273 (by omega) ?_ | refine lv_i2s hx hb d_M_store_273 rfl ?_
                              refine rs_15 hx hb hK hI hB hw (by omega) (by omega) d_M_store_274 (fun H locs hw hB => ?_)
                              exact x_retv hQ hx hb hr hlk hw (by omega) (by omega) d_M_store_275 (by rw [hst2, st2_3 h13 h75, h3f]; exact ⟨rfl, hB⟩)
                        · first
                            | exact absurd h234 (by omega)
                            | first | refine x_aload_n hx hb d_M_store_237 hl rfl ?_ | refine x_aload_nQ hx hb d_M_store_237 hl rfl ?_
                              refine m_get hx hb hts hown hK hw ci_M (rf_at hI 0 (by decide) rfl) 20 (by decide) (wm3 92 rfl rfl) rfl d_M_store_238 ?_
                              refine x_iload hx hb d_M_store_241 hl rfl ?_
                              refine lv_iconst (v := nI 1) hx hb d_M_store_243 (by decide) ?_
                              refine x_isub hx hb d_M_store_244 (by omega) ?_
                              refine rl_20 hx hb hK hI hB hw (by omega) d_M_store_245 (fun hv245 => ?_)
                              refine lv_iconst (v := nI 1) hx hb d_M_store_246 (by decide) ?_
                              first | refine x_iadd hx hb d_M_store_247 ?_ | refine lv_iadd hx hb d_M_store_247 ?_
                              refine lv_goto hx hb d_M_store_248 rfl ?_
                              first | refine x_i2b hx hb d_M_store_252 (by omega) ?_ | refine x_i2b hx hb d_M_store_252 (show _ from hch) ?_
                              first | refine rs_20 hx hb hK hI hB hw (by omega) (by omega) d_M_store_253 (fun H locs hw hB => ?_) | refine rs_20 hx hb hK hI hB hw (by omega) (show _ from hch) d_M_store_253 (fun H locs hw hB => ?_)
                              first | refine x_aload_n hx hb d_M_store_254 hl rfl ?_ | refine x_aload_nQ hx hb d_M_store_254 hl rfl ?_
                              first | refine lv_dup hx hb d_M_store_255 rfl ?_ | refine lv_dup hx hb d_M_store_255 (va_rf_c _) ?_
                              refine m_get (v := .int (nI (τ 16 0))) hx hb hts hown hK hw ci_M (rf_at hI 0 (by decide) rfl) 16 (by decide) (wm3 88 rfl rfl) rfl d_M_store_256 ?_
                              refine lv_iconst (v := nI 1) hx hb d_M_store_259 (by decide) ?_
                              first | refine x_iadd hx hb d_M_store_260 ?_ | refine lv_iadd hx hb d_M_store_260 ?_
                              refine rp_16 hx hb hts hown hK hI hB hw (wm3 88 rfl rfl) (by omega) d_M_store_261 (fun H locs hw hB => ?_)
                              first | refine x_aload_n hx hb d_M_store_264 hl rfl ?_ | refine x_aload_nQ hx hb d_M_store_264 hl rfl ?_
                              refine m_get hx hb hts hown hK hw ci_M (rf_at hI 0 (by decide) rfl) 15 (by decide) (wm3 87 rfl rfl) rfl d_M_store_265 ?_
                              refine x_iload_n hx hb d_M_store_268 hl rfl ?_
                              first | refine x_aload_n hx hb d_M_store_269 hl rfl ?_ | refine x_aload_nQ hx hb d_M_store_269 hl rfl ?_
                              refine m_get (v := .int (nI (τ 16 0 + 1))) hx hb hts hown hK hw ci_M (rf_at hI 0 (by decide) rfl) 16 (by decide) (wm3 88 rfl rfl) rfl d_M_store_270 ?_
                              first | refine x_i2s hx hb d_M_store_273 (by omega) ?_ | refine lv_i2s hx hb d_M_store_273 rfl ?_
                              refine rs_15 hx hb hK hI hB hw (by omega) (by omega) d_M_store_274 (fun H locs hw hB => ?_)
                              exact x_retv hQ hx hb hr hlk hw (by omega) (by omega) d_M_store_275 (by rw [hst2, st2_3 h13 h75, h3f]; exact ⟨rfl, hB⟩)
            · first
                | exact absurd h147 (by omega)
                | first | refine x_aload_n hx hb d_M_store_150 hl rfl ?_ | refine x_aload_nQ hx hb d_M_store_150 hl rfl ?_
                  refine m_get hx hb hts hown hK hw ci_M (rf_at hI 0 (by decide) rfl) 20 (by decide) (wm3 92 rfl rfl) rfl d_M_store_151 ?_
                  refine x_iload hx hb d_M_store_154 hl rfl ?_
                  refine lv_iconst (v := nI 1) hx hb d_M_store_156 (by decide) ?_
                  refine x_isub hx hb d_M_store_157 (by omega) ?_
                  refine rl_20 hx hb hK hI hB hw (by omega) d_M_store_158 (fun hv158 => ?_)
                  refine x_iload_n hx hb d_M_store_159 hl rfl ?_
                  refine m_calli (k_S ⟨hx, hb, hml, hown, hts⟩ hE hA hw (c_M_allowed (by omega)) (wm3 235 rfl rfl) (wm3 236 rfl rfl) (wm1 9 rfl rfl) (wm3 237 rfl rfl) rfl rfl ar_M_allowed ⟨Nat.le_trans (Nat.le_of_ble_eq_true rfl) hR.1, Nat.le_trans (Nat.le_of_ble_eq_true rfl) hR.2.1⟩ rfl hl.1 rfl (Nat.le_of_ble_eq_true rfl) d_M_store_160 ⟨Nat.le_trans (Nat.le_of_ble_eq_true rfl) hR.2.2.1, Nat.le_trans (Nat.le_of_ble_eq_true rfl) hR.2.2.2⟩) hw (mfr_in hw hA) (fun r160 M160 H locs hP160 hw => ?_)
                  obtain ⟨rfl, hM160⟩ := hP160
                  rw [hM160] at hw
                  refine x_icmp_ge hx hb d_M_store_163 rfl (by omega) (by omega) (fun h163 => ?_) (fun h163 => ?_)
                  · have h3f := st3_f hof (Or.inr h163)
                    refine lv_iconst (v := nI 0) hx hb d_M_store_170 (by decide) ?_
                    refine x_istore hx hb d_M_store_171 hl (Nat.le_of_ble_eq_true rfl) (lh_k (i := 5) rfl (by first | exact lk_n | exact lk_i | exact lk_r | exact lk_q | exact lk_0)) (fun ls hl => ?_)
                    have hS2 := hSn h13
                    first | refine x_aload_n hx hb d_M_store_173 hl rfl ?_ | refine x_aload_nQ hx hb d_M_store_173 hl rfl ?_
                    refine m_get hx hb hts hown hK hw ci_M (rf_at hI 0 (by decide) rfl) 17 (by decide) (wm3 89 rfl rfl) rfl d_M_store_174 ?_
                    first | refine x_aload_n hx hb d_M_store_177 hl rfl ?_ | refine x_aload_nQ hx hb d_M_store_177 hl rfl ?_
                    refine m_get (v := .int (nI (τ 16 0))) hx hb hts hown hK hw ci_M (rf_at hI 0 (by decide) rfl) 16 (by decide) (wm3 88 rfl rfl) rfl d_M_store_178 ?_
                    first | refine x_aload_n hx hb d_M_store_181 hl rfl ?_ | refine x_aload_nQ hx hb d_M_store_181 hl rfl ?_
                    refine m_get hx hb hts hown hK hw ci_M (rf_at hI 0 (by decide) rfl) 9 (by decide) (wm3 81 rfl rfl) rfl d_M_store_182 ?_
                    refine x_iload_n hx hb d_M_store_185 hl rfl ?_
                    refine rl_9 hx hb hK hI hw (by omega) d_M_store_186 ?_
                    refine rs_17 hx hb hK hI hB hw (by omega) d_M_store_187 (fun H locs hw hB => ?_)
                    first | refine x_aload_n hx hb d_M_store_188 hl rfl ?_ | refine x_aload_nQ hx hb d_M_store_188 hl rfl ?_
                    refine m_get hx hb hts hown hK hw ci_M (rf_at hI 0 (by decide) rfl) 18 (by decide) (wm3 90 rfl rfl) rfl d_M_store_189 ?_
                    first | refine x_aload_n hx hb d_M_store_192 hl rfl ?_ | refine x_aload_nQ hx hb d_M_store_192 hl rfl ?_
                    refine m_get (v := .int (nI (τ 16 0))) hx hb hts hown hK hw ci_M (rf_at hI 0 (by decide) rfl) 16 (by decide) (wm3 88 rfl rfl) rfl d_M_store_193 ?_
                    first | refine x_aload_n hx hb d_M_store_196 hl rfl ?_ | refine x_aload_nQ hx hb d_M_store_196 hl rfl ?_
                    refine m_get hx hb hts hown hK hw ci_M (rf_at hI 0 (by decide) rfl) 7 (by decide) (wm3 79 rfl rfl) rfl d_M_store_197 ?_
                    refine x_iload_n hx hb d_M_store_200 hl rfl ?_
                    refine rl_7 hx hb hK hI hB hw (by omega) d_M_store_201 (fun hv201 => ?_)
                    refine rs_18 hx hb hK hI hB hw (by omega) (show _ from h712 n) d_M_store_202 (fun H locs hw hB => ?_)
                    first | refine x_aload_n hx hb d_M_store_203 hl rfl ?_ | refine x_aload_nQ hx hb d_M_store_203 hl rfl ?_
                    refine m_get hx hb hts hown hK hw ci_M (rf_at hI 0 (by decide) rfl) 19 (by decide) (wm3 91 rfl rfl) rfl d_M_store_204 ?_
                    first | refine x_aload_n hx hb d_M_store_207 hl rfl ?_ | refine x_aload_nQ hx hb d_M_store_207 hl rfl ?_
                    refine m_get (v := .int (nI (τ 16 0))) hx hb hts hown hK hw ci_M (rf_at hI 0 (by decide) rfl) 16 (by decide) (wm3 88 rfl rfl) rfl d_M_store_208 ?_
                    refine x_iload hx hb d_M_store_211 hl rfl ?_
                    refine x_if_eq hx hb d_M_store_213 rfl (by omega) (fun h213 => ?_) (fun h213 => ?_)
                    · first
                        | exact absurd h213 (by omega)
                        | refine lv_iconst (v := nI 0) hx hb d_M_store_221 (by decide) ?_
                          first | refine x_i2s hx hb d_M_store_222 (by omega) ?_ | refine lv_i2s hx hb d_M_store_222 rfl ?_
                          refine rs_19 hx hb hK hI hB hw (by omega) (by omega) d_M_store_223 (fun H locs hw hB => ?_)
                          first | refine x_aload_n hx hb d_M_store_224 hl rfl ?_ | refine x_aload_nQ hx hb d_M_store_224 hl rfl ?_
                          refine m_get hx hb hts hown hK hw ci_M (rf_at hI 0 (by decide) rfl) 20 (by decide) (wm3 92 rfl rfl) rfl d_M_store_225 ?_
                          first | refine x_aload_n hx hb d_M_store_228 hl rfl ?_ | refine x_aload_nQ hx hb d_M_store_228 hl rfl ?_
                          refine m_get (v := .int (nI (τ 16 0))) hx hb hts hown hK hw ci_M (rf_at hI 0 (by decide) rfl) 16 (by decide) (wm3 88 rfl rfl) rfl d_M_store_229 ?_
                          refine x_iload hx hb d_M_store_232 hl rfl ?_
                          refine x_if_eq hx hb d_M_store_234 rfl (by omega) (fun h234 => ?_) (fun h234 => ?_)
                          · first
                              | exact absurd h234 (by omega)
                              | refine lv_iconst (v := nI 1) hx hb d_M_store_251 (by decide) ?_
                                first | refine x_i2b hx hb d_M_store_252 (by omega) ?_ | refine x_i2b hx hb d_M_store_252 (show _ from hch) ?_
                                first | refine rs_20 hx hb hK hI hB hw (by omega) (by omega) d_M_store_253 (fun H locs hw hB => ?_) | refine rs_20 hx hb hK hI hB hw (by omega) (show _ from hch) d_M_store_253 (fun H locs hw hB => ?_)
                                first | refine x_aload_n hx hb d_M_store_254 hl rfl ?_ | refine x_aload_nQ hx hb d_M_store_254 hl rfl ?_
                                first | refine lv_dup hx hb d_M_store_255 rfl ?_ | refine lv_dup hx hb d_M_store_255 (va_rf_c _) ?_
                                refine m_get (v := .int (nI (τ 16 0))) hx hb hts hown hK hw ci_M (rf_at hI 0 (by decide) rfl) 16 (by decide) (wm3 88 rfl rfl) rfl d_M_store_256 ?_
                                refine lv_iconst (v := nI 1) hx hb d_M_store_259 (by decide) ?_
                                first | refine x_iadd hx hb d_M_store_260 ?_ | refine lv_iadd hx hb d_M_store_260 ?_
                                refine rp_16 hx hb hts hown hK hI hB hw (wm3 88 rfl rfl) (by omega) d_M_store_261 (fun H locs hw hB => ?_)
                                first | refine x_aload_n hx hb d_M_store_264 hl rfl ?_ | refine x_aload_nQ hx hb d_M_store_264 hl rfl ?_
                                refine m_get hx hb hts hown hK hw ci_M (rf_at hI 0 (by decide) rfl) 15 (by decide) (wm3 87 rfl rfl) rfl d_M_store_265 ?_
                                refine x_iload_n hx hb d_M_store_268 hl rfl ?_
                                first | refine x_aload_n hx hb d_M_store_269 hl rfl ?_ | refine x_aload_nQ hx hb d_M_store_269 hl rfl ?_
                                refine m_get (v := .int (nI (τ 16 0 + 1))) hx hb hts hown hK hw ci_M (rf_at hI 0 (by decide) rfl) 16 (by decide) (wm3 88 rfl rfl) rfl d_M_store_270 ?_
                                first | refine x_i2s hx hb d_M_store_273 (by omega) ?_ | refine lv_i2s hx hb d_M_store_273 rfl ?_
                                refine rs_15 hx hb hK hI hB hw (by omega) (by omega) d_M_store_274 (fun H locs hw hB => ?_)
                                exact x_retv hQ hx hb hr hlk hw (by omega) (by omega) d_M_store_275 (by rw [hst2, st2_3 h13 h75, h3f]; exact ⟨rfl, hB⟩)
                          · first
                              | exact absurd h234 (by omega)
                              | first | refine x_aload_n hx hb d_M_store_237 hl rfl ?_ | refine x_aload_nQ hx hb d_M_store_237 hl rfl ?_
                                refine m_get hx hb hts hown hK hw ci_M (rf_at hI 0 (by decide) rfl) 20 (by decide) (wm3 92 rfl rfl) rfl d_M_store_238 ?_
                                refine x_iload hx hb d_M_store_241 hl rfl ?_
                                refine lv_iconst (v := nI 1) hx hb d_M_store_243 (by decide) ?_
                                refine x_isub hx hb d_M_store_244 (by omega) ?_
                                refine rl_20 hx hb hK hI hB hw (by omega) d_M_store_245 (fun hv245 => ?_)
                                refine lv_iconst (v := nI 1) hx hb d_M_store_246 (by decide) ?_
                                first | refine x_iadd hx hb d_M_store_247 ?_ | refine lv_iadd hx hb d_M_store_247 ?_
                                refine lv_goto hx hb d_M_store_248 rfl ?_
                                first | refine x_i2b hx hb d_M_store_252 (by omega) ?_ | refine x_i2b hx hb d_M_store_252 (show _ from hch) ?_
                                first | refine rs_20 hx hb hK hI hB hw (by omega) (by omega) d_M_store_253 (fun H locs hw hB => ?_) | refine rs_20 hx hb hK hI hB hw (by omega) (show _ from hch) d_M_store_253 (fun H locs hw hB => ?_)
                                first | refine x_aload_n hx hb d_M_store_254 hl rfl ?_ | refine x_aload_nQ hx hb d_M_store_254 hl rfl ?_
                                first | refine lv_dup hx hb d_M_store_255 rfl ?_ | refine lv_dup hx hb d_M_store_255 (va_rf_c _) ?_
                                refine m_get (v := .int (nI (τ 16 0))) hx hb hts hown hK hw ci_M (rf_at hI 0 (by decide) rfl) 16 (by decide) (wm3 88 rfl rfl) rfl d_M_store_256 ?_
                                refine lv_iconst (v := nI 1) hx hb d_M_store_259 (by decide) ?_
                                first | refine x_iadd hx hb d_M_store_260 ?_ | refine lv_iadd hx hb d_M_store_260 ?_
                                refine rp_16 hx hb hts hown hK hI hB hw (wm3 88 rfl rfl) (by omega) d_M_store_261 (fun H locs hw hB => ?_)
                                first | refine x_aload_n hx hb d_M_store_264 hl rfl ?_ | refine x_aload_nQ hx hb d_M_store_264 hl rfl ?_
                                refine m_get hx hb hts hown hK hw ci_M (rf_at hI 0 (by decide) rfl) 15 (by decide) (wm3 87 rfl rfl) rfl d_M_store_265 ?_
                                refine x_iload_n hx hb d_M_store_268 hl rfl ?_
                                first | refine x_aload_n hx hb d_M_store_269 hl rfl ?_ | refine x_aload_nQ hx hb d_M_store_269 hl rfl ?_
                                refine m_get (v := .int (nI (τ 16 0 + 1))) hx hb hts hown hK hw ci_M (rf_at hI 0 (by decide) rfl) 16 (by decide) (wm3 88 rfl rfl) rfl d_M_store_270 ?_
                                first | refine x_i2s hx hb d_M_store_273 (by omega) ?_ | refine lv_i2s hx hb d_M_store_273 rfl ?_
                                refine rs_15 hx hb hK hI hB hw (by omega) (by omega) d_M_store_274 (fun H locs hw hB => ?_)
                                exact x_retv hQ hx hb hr hlk hw (by omega) (by omega) d_M_store_275 (by rw [hst2, st2_3 h13 h75, h3f]; exact ⟨rfl, hB⟩)
                    · first
                        | exact absurd h213 (by omega)
                        | refine x_iload hx hb d_M_store_216 hl rfl ?_
                          refine lv_goto hx hb d_M_store_218 rfl ?_
                          first | refine x_i2s hx hb d_M_store_222 (by omega) ?_ | refine lv_i2s hx hb d_M_store_222 rfl ?_
                          refine rs_19 hx hb hK hI hB hw (by omega) (by omega) d_M_store_223 (fun H locs hw hB => ?_)
                          first | refine x_aload_n hx hb d_M_store_224 hl rfl ?_ | refine x_aload_nQ hx hb d_M_store_224 hl rfl ?_
                          refine m_get hx hb hts hown hK hw ci_M (rf_at hI 0 (by decide) rfl) 20 (by decide) (wm3 92 rfl rfl) rfl d_M_store_225 ?_
                          first | refine x_aload_n hx hb d_M_store_228 hl rfl ?_ | refine x_aload_nQ hx hb d_M_store_228 hl rfl ?_
                          refine m_get (v := .int (nI (τ 16 0))) hx hb hts hown hK hw ci_M (rf_at hI 0 (by decide) rfl) 16 (by decide) (wm3 88 rfl rfl) rfl d_M_store_229 ?_
                          refine x_iload hx hb d_M_store_232 hl rfl ?_
                          refine x_if_eq hx hb d_M_store_234 rfl (by omega) (fun h234 => ?_) (fun h234 => ?_)
                          · first
                              | exact absurd h234 (by omega)
                              | refine lv_iconst (v := nI 1) hx hb d_M_store_251 (by decide) ?_
                                first | refine x_i2b hx hb d_M_store_252 (by omega) ?_ | refine x_i2b hx hb d_M_store_252 (show _ from hch) ?_
                                first | refine rs_20 hx hb hK hI hB hw (by omega) (by omega) d_M_store_253 (fun H locs hw hB => ?_) | refine rs_20 hx hb hK hI hB hw (by omega) (show _ from hch) d_M_store_253 (fun H locs hw hB => ?_)
                                first | refine x_aload_n hx hb d_M_store_254 hl rfl ?_ | refine x_aload_nQ hx hb d_M_store_254 hl rfl ?_
                                first | refine lv_dup hx hb d_M_store_255 rfl ?_ | refine lv_dup hx hb d_M_store_255 (va_rf_c _) ?_
                                refine m_get (v := .int (nI (τ 16 0))) hx hb hts hown hK hw ci_M (rf_at hI 0 (by decide) rfl) 16 (by decide) (wm3 88 rfl rfl) rfl d_M_store_256 ?_
                                refine lv_iconst (v := nI 1) hx hb d_M_store_259 (by decide) ?_
                                first | refine x_iadd hx hb d_M_store_260 ?_ | refine lv_iadd hx hb d_M_store_260 ?_
                                refine rp_16 hx hb hts hown hK hI hB hw (wm3 88 rfl rfl) (by omega) d_M_store_261 (fun H locs hw hB => ?_)
                                first | refine x_aload_n hx hb d_M_store_264 hl rfl ?_ | refine x_aload_nQ hx hb d_M_store_264 hl rfl ?_
                                refine m_get hx hb hts hown hK hw ci_M (rf_at hI 0 (by decide) rfl) 15 (by decide) (wm3 87 rfl rfl) rfl d_M_store_265 ?_
                                refine x_iload_n hx hb d_M_store_268 hl rfl ?_
                                first | refine x_aload_n hx hb d_M_store_269 hl rfl ?_ | refine x_aload_nQ hx hb d_M_store_269 hl rfl ?_
                                refine m_get (v := .int (nI (τ 16 0 + 1))) hx hb hts hown hK hw ci_M (rf_at hI 0 (by decide) rfl) 16 (by decide) (wm3 88 rfl rfl) rfl d_M_store_270 ?_
                                first | refine x_i2s hx hb d_M_store_273 (by omega) ?_ | refine lv_i2s hx hb d_M_store_273 rfl ?_
                                refine rs_15 hx hb hK hI hB hw (by omega) (by omega) d_M_store_274 (fun H locs hw hB => ?_)
                                exact x_retv hQ hx hb hr hlk hw (by omega) (by omega) d_M_store_275 (by rw [hst2, st2_3 h13 h75, h3f]; exact ⟨rfl, hB⟩)
                          · first
                              | exact absurd h234 (by omega)
                              | first | refine x_aload_n hx hb d_M_store_237 hl rfl ?_ | refine x_aload_nQ hx hb d_M_store_237 hl rfl ?_
                                refine m_get hx hb hts hown hK hw ci_M (rf_at hI 0 (by decide) rfl) 20 (by decide) (wm3 92 rfl rfl) rfl d_M_store_238 ?_
                                refine x_iload hx hb d_M_store_241 hl rfl ?_
                                refine lv_iconst (v := nI 1) hx hb d_M_store_243 (by decide) ?_
                                refine x_isub hx hb d_M_store_244 (by omega) ?_
                                refine rl_20 hx hb hK hI hB hw (by omega) d_M_store_245 (fun hv245 => ?_)
                                refine lv_iconst (v := nI 1) hx hb d_M_store_246 (by decide) ?_
                                first | refine x_iadd hx hb d_M_store_247 ?_ | refine lv_iadd hx hb d_M_store_247 ?_
                                refine lv_goto hx hb d_M_store_248 rfl ?_
                                first | refine x_i2b hx hb d_M_store_252 (by omega) ?_ | refine x_i2b hx hb d_M_store_252 (show _ from hch) ?_
                                first | refine rs_20 hx hb hK hI hB hw (by omega) (by omega) d_M_store_253 (fun H locs hw hB => ?_) | refine rs_20 hx hb hK hI hB hw (by omega) (show _ from hch) d_M_store_253 (fun H locs hw hB => ?_)
                                first | refine x_aload_n hx hb d_M_store_254 hl rfl ?_ | refine x_aload_nQ hx hb d_M_store_254 hl rfl ?_
                                first | refine lv_dup hx hb d_M_store_255 rfl ?_ | refine lv_dup hx hb d_M_store_255 (va_rf_c _) ?_
                                refine m_get (v := .int (nI (τ 16 0))) hx hb hts hown hK hw ci_M (rf_at hI 0 (by decide) rfl) 16 (by decide) (wm3 88 rfl rfl) rfl d_M_store_256 ?_
                                refine lv_iconst (v := nI 1) hx hb d_M_store_259 (by decide) ?_
                                first | refine x_iadd hx hb d_M_store_260 ?_ | refine lv_iadd hx hb d_M_store_260 ?_
                                refine rp_16 hx hb hts hown hK hI hB hw (wm3 88 rfl rfl) (by omega) d_M_store_261 (fun H locs hw hB => ?_)
                                first | refine x_aload_n hx hb d_M_store_264 hl rfl ?_ | refine x_aload_nQ hx hb d_M_store_264 hl rfl ?_
                                refine m_get hx hb hts hown hK hw ci_M (rf_at hI 0 (by decide) rfl) 15 (by decide) (wm3 87 rfl rfl) rfl d_M_store_265 ?_
                                refine x_iload_n hx hb d_M_store_268 hl rfl ?_
                                first | refine x_aload_n hx hb d_M_store_269 hl rfl ?_ | refine x_aload_nQ hx hb d_M_store_269 hl rfl ?_
                                refine m_get (v := .int (nI (τ 16 0 + 1))) hx hb hts hown hK hw ci_M (rf_at hI 0 (by decide) rfl) 16 (by decide) (wm3 88 rfl rfl) rfl d_M_store_270 ?_
                                first | refine x_i2s hx hb d_M_store_273 (by omega) ?_ | refine lv_i2s hx hb d_M_store_273 rfl ?_
                                refine rs_15 hx hb hK hI hB hw (by omega) (by omega) d_M_store_274 (fun H locs hw hB => ?_)
                                exact x_retv hQ hx hb hr hlk hw (by omega) (by omega) d_M_store_275 (by rw [hst2, st2_3 h13 h75, h3f]; exact ⟨rfl, hB⟩)
                  · have h3f := st3_t hof h147 h163
                    have hch : τ 20 (τ 15 a - 1) + 1 < 128 := by omega
                    refine lv_iconst (v := nI 1) hx hb d_M_store_166 (by decide) ?_
                    refine lv_goto hx hb d_M_store_167 rfl ?_
                    refine x_istore hx hb d_M_store_171 hl (Nat.le_of_ble_eq_true rfl) (lh_k (i := 5) rfl (by first | exact lk_n | exact lk_i | exact lk_r | exact lk_q | exact lk_0)) (fun ls hl => ?_)
                    have hS2 := hSn h13
                    first | refine x_aload_n hx hb d_M_store_173 hl rfl ?_ | refine x_aload_nQ hx hb d_M_store_173 hl rfl ?_
                    refine m_get hx hb hts hown hK hw ci_M (rf_at hI 0 (by decide) rfl) 17 (by decide) (wm3 89 rfl rfl) rfl d_M_store_174 ?_
                    first | refine x_aload_n hx hb d_M_store_177 hl rfl ?_ | refine x_aload_nQ hx hb d_M_store_177 hl rfl ?_
                    refine m_get (v := .int (nI (τ 16 0))) hx hb hts hown hK hw ci_M (rf_at hI 0 (by decide) rfl) 16 (by decide) (wm3 88 rfl rfl) rfl d_M_store_178 ?_
                    first | refine x_aload_n hx hb d_M_store_181 hl rfl ?_ | refine x_aload_nQ hx hb d_M_store_181 hl rfl ?_
                    refine m_get hx hb hts hown hK hw ci_M (rf_at hI 0 (by decide) rfl) 9 (by decide) (wm3 81 rfl rfl) rfl d_M_store_182 ?_
                    refine x_iload_n hx hb d_M_store_185 hl rfl ?_
                    refine rl_9 hx hb hK hI hw (by omega) d_M_store_186 ?_
                    refine rs_17 hx hb hK hI hB hw (by omega) d_M_store_187 (fun H locs hw hB => ?_)
                    first | refine x_aload_n hx hb d_M_store_188 hl rfl ?_ | refine x_aload_nQ hx hb d_M_store_188 hl rfl ?_
                    refine m_get hx hb hts hown hK hw ci_M (rf_at hI 0 (by decide) rfl) 18 (by decide) (wm3 90 rfl rfl) rfl d_M_store_189 ?_
                    first | refine x_aload_n hx hb d_M_store_192 hl rfl ?_ | refine x_aload_nQ hx hb d_M_store_192 hl rfl ?_
                    refine m_get (v := .int (nI (τ 16 0))) hx hb hts hown hK hw ci_M (rf_at hI 0 (by decide) rfl) 16 (by decide) (wm3 88 rfl rfl) rfl d_M_store_193 ?_
                    first | refine x_aload_n hx hb d_M_store_196 hl rfl ?_ | refine x_aload_nQ hx hb d_M_store_196 hl rfl ?_
                    refine m_get hx hb hts hown hK hw ci_M (rf_at hI 0 (by decide) rfl) 7 (by decide) (wm3 79 rfl rfl) rfl d_M_store_197 ?_
                    refine x_iload_n hx hb d_M_store_200 hl rfl ?_
                    refine rl_7 hx hb hK hI hB hw (by omega) d_M_store_201 (fun hv201 => ?_)
                    refine rs_18 hx hb hK hI hB hw (by omega) (show _ from h712 n) d_M_store_202 (fun H locs hw hB => ?_)
                    first | refine x_aload_n hx hb d_M_store_203 hl rfl ?_ | refine x_aload_nQ hx hb d_M_store_203 hl rfl ?_
                    refine m_get hx hb hts hown hK hw ci_M (rf_at hI 0 (by decide) rfl) 19 (by decide) (wm3 91 rfl rfl) rfl d_M_store_204 ?_
                    first | refine x_aload_n hx hb d_M_store_207 hl rfl ?_ | refine x_aload_nQ hx hb d_M_store_207 hl rfl ?_
                    refine m_get (v := .int (nI (τ 16 0))) hx hb hts hown hK hw ci_M (rf_at hI 0 (by decide) rfl) 16 (by decide) (wm3 88 rfl rfl) rfl d_M_store_208 ?_
                    refine x_iload hx hb d_M_store_211 hl rfl ?_
                    refine x_if_eq hx hb d_M_store_213 rfl (by omega) (fun h213 => ?_) (fun h213 => ?_)
                    · first
                        | exact absurd h213 (by omega)
                        | refine lv_iconst (v := nI 0) hx hb d_M_store_221 (by decide) ?_
                          first | refine x_i2s hx hb d_M_store_222 (by omega) ?_ | refine lv_i2s hx hb d_M_store_222 rfl ?_
                          refine rs_19 hx hb hK hI hB hw (by omega) (by omega) d_M_store_223 (fun H locs hw hB => ?_)
                          first | refine x_aload_n hx hb d_M_store_224 hl rfl ?_ | refine x_aload_nQ hx hb d_M_store_224 hl rfl ?_
                          refine m_get hx hb hts hown hK hw ci_M (rf_at hI 0 (by decide) rfl) 20 (by decide) (wm3 92 rfl rfl) rfl d_M_store_225 ?_
                          first | refine x_aload_n hx hb d_M_store_228 hl rfl ?_ | refine x_aload_nQ hx hb d_M_store_228 hl rfl ?_
                          refine m_get (v := .int (nI (τ 16 0))) hx hb hts hown hK hw ci_M (rf_at hI 0 (by decide) rfl) 16 (by decide) (wm3 88 rfl rfl) rfl d_M_store_229 ?_
                          refine x_iload hx hb d_M_store_232 hl rfl ?_
                          refine x_if_eq hx hb d_M_store_234 rfl (by omega) (fun h234 => ?_) (fun h234 => ?_)
                          · first
                              | exact absurd h234 (by omega)
                              | refine lv_iconst (v := nI 1) hx hb d_M_store_251 (by decide) ?_
                                first | refine x_i2b hx hb d_M_store_252 (by omega) ?_ | refine x_i2b hx hb d_M_store_252 (show _ from hch) ?_
                                first | refine rs_20 hx hb hK hI hB hw (by omega) (by omega) d_M_store_253 (fun H locs hw hB => ?_) | refine rs_20 hx hb hK hI hB hw (by omega) (show _ from hch) d_M_store_253 (fun H locs hw hB => ?_)
                                first | refine x_aload_n hx hb d_M_store_254 hl rfl ?_ | refine x_aload_nQ hx hb d_M_store_254 hl rfl ?_
                                first | refine lv_dup hx hb d_M_store_255 rfl ?_ | refine lv_dup hx hb d_M_store_255 (va_rf_c _) ?_
                                refine m_get (v := .int (nI (τ 16 0))) hx hb hts hown hK hw ci_M (rf_at hI 0 (by decide) rfl) 16 (by decide) (wm3 88 rfl rfl) rfl d_M_store_256 ?_
                                refine lv_iconst (v := nI 1) hx hb d_M_store_259 (by decide) ?_
                                first | refine x_iadd hx hb d_M_store_260 ?_ | refine lv_iadd hx hb d_M_store_260 ?_
                                refine rp_16 hx hb hts hown hK hI hB hw (wm3 88 rfl rfl) (by omega) d_M_store_261 (fun H locs hw hB => ?_)
                                first | refine x_aload_n hx hb d_M_store_264 hl rfl ?_ | refine x_aload_nQ hx hb d_M_store_264 hl rfl ?_
                                refine m_get hx hb hts hown hK hw ci_M (rf_at hI 0 (by decide) rfl) 15 (by decide) (wm3 87 rfl rfl) rfl d_M_store_265 ?_
                                refine x_iload_n hx hb d_M_store_268 hl rfl ?_
                                first | refine x_aload_n hx hb d_M_store_269 hl rfl ?_ | refine x_aload_nQ hx hb d_M_store_269 hl rfl ?_
                                refine m_get (v := .int (nI (τ 16 0 + 1))) hx hb hts hown hK hw ci_M (rf_at hI 0 (by decide) rfl) 16 (by decide) (wm3 88 rfl rfl) rfl d_M_store_270 ?_
                                first | refine x_i2s hx hb d_M_store_273 (by omega) ?_ | refine lv_i2s hx hb d_M_store_273 rfl ?_
                                refine rs_15 hx hb hK hI hB hw (by omega) (by omega) d_M_store_274 (fun H locs hw hB => ?_)
                                exact x_retv hQ hx hb hr hlk hw (by omega) (by omega) d_M_store_275 (by rw [hst2, st2_3 h13 h75, h3f]; exact ⟨rfl, hB⟩)
                          · first
                              | exact absurd h234 (by omega)
                              | first | refine x_aload_n hx hb d_M_store_237 hl rfl ?_ | refine x_aload_nQ hx hb d_M_store_237 hl rfl ?_
                                refine m_get hx hb hts hown hK hw ci_M (rf_at hI 0 (by decide) rfl) 20 (by decide) (wm3 92 rfl rfl) rfl d_M_store_238 ?_
                                refine x_iload hx hb d_M_store_241 hl rfl ?_
                                refine lv_iconst (v := nI 1) hx hb d_M_store_243 (by decide) ?_
                                refine x_isub hx hb d_M_store_244 (by omega) ?_
                                refine rl_20 hx hb hK hI hB hw (by omega) d_M_store_245 (fun hv245 => ?_)
                                refine lv_iconst (v := nI 1) hx hb d_M_store_246 (by decide) ?_
                                first | refine x_iadd hx hb d_M_store_247 ?_ | refine lv_iadd hx hb d_M_store_247 ?_
                                refine lv_goto hx hb d_M_store_248 rfl ?_
                                first | refine x_i2b hx hb d_M_store_252 (by omega) ?_ | refine x_i2b hx hb d_M_store_252 (show _ from hch) ?_
                                first | refine rs_20 hx hb hK hI hB hw (by omega) (by omega) d_M_store_253 (fun H locs hw hB => ?_) | refine rs_20 hx hb hK hI hB hw (by omega) (show _ from hch) d_M_store_253 (fun H locs hw hB => ?_)
                                first | refine x_aload_n hx hb d_M_store_254 hl rfl ?_ | refine x_aload_nQ hx hb d_M_store_254 hl rfl ?_
                                first | refine lv_dup hx hb d_M_store_255 rfl ?_ | refine lv_dup hx hb d_M_store_255 (va_rf_c _) ?_
                                refine m_get (v := .int (nI (τ 16 0))) hx hb hts hown hK hw ci_M (rf_at hI 0 (by decide) rfl) 16 (by decide) (wm3 88 rfl rfl) rfl d_M_store_256 ?_
                                refine lv_iconst (v := nI 1) hx hb d_M_store_259 (by decide) ?_
                                first | refine x_iadd hx hb d_M_store_260 ?_ | refine lv_iadd hx hb d_M_store_260 ?_
                                refine rp_16 hx hb hts hown hK hI hB hw (wm3 88 rfl rfl) (by omega) d_M_store_261 (fun H locs hw hB => ?_)
                                first | refine x_aload_n hx hb d_M_store_264 hl rfl ?_ | refine x_aload_nQ hx hb d_M_store_264 hl rfl ?_
                                refine m_get hx hb hts hown hK hw ci_M (rf_at hI 0 (by decide) rfl) 15 (by decide) (wm3 87 rfl rfl) rfl d_M_store_265 ?_
                                refine x_iload_n hx hb d_M_store_268 hl rfl ?_
                                first | refine x_aload_n hx hb d_M_store_269 hl rfl ?_ | refine x_aload_nQ hx hb d_M_store_269 hl rfl ?_
                                refine m_get (v := .int (nI (τ 16 0 + 1))) hx hb hts hown hK hw ci_M (rf_at hI 0 (by decide) rfl) 16 (by decide) (wm3 88 rfl rfl) rfl d_M_store_270 ?_
                                first | refine x_i2s hx hb d_M_store_273 (by omega) ?_ | refine lv_i2s hx hb d_M_store_273 rfl ?_
                                refine rs_15 hx hb hK hI hB hw (by omega) (by omega) d_M_store_274 (fun H locs hw hB => ?_)
                                exact x_retv hQ hx hb hr hlk hw (by omega) (by omega) d_M_store_275 (by rw [hst2, st2_3 h13 h75, h3f]; exact ⟨rfl, hB⟩)
                    · first
                        | exact absurd h213 (by omega)
                        | refine x_iload hx hb d_M_store_216 hl rfl ?_
                          refine lv_goto hx hb d_M_store_218 rfl ?_
                          first | refine x_i2s hx hb d_M_store_222 (by omega) ?_ | refine lv_i2s hx hb d_M_store_222 rfl ?_
                          refine rs_19 hx hb hK hI hB hw (by omega) (by omega) d_M_store_223 (fun H locs hw hB => ?_)
                          first | refine x_aload_n hx hb d_M_store_224 hl rfl ?_ | refine x_aload_nQ hx hb d_M_store_224 hl rfl ?_
                          refine m_get hx hb hts hown hK hw ci_M (rf_at hI 0 (by decide) rfl) 20 (by decide) (wm3 92 rfl rfl) rfl d_M_store_225 ?_
                          first | refine x_aload_n hx hb d_M_store_228 hl rfl ?_ | refine x_aload_nQ hx hb d_M_store_228 hl rfl ?_
                          refine m_get (v := .int (nI (τ 16 0))) hx hb hts hown hK hw ci_M (rf_at hI 0 (by decide) rfl) 16 (by decide) (wm3 88 rfl rfl) rfl d_M_store_229 ?_
                          refine x_iload hx hb d_M_store_232 hl rfl ?_
                          refine x_if_eq hx hb d_M_store_234 rfl (by omega) (fun h234 => ?_) (fun h234 => ?_)
                          · first
                              | exact absurd h234 (by omega)
                              | refine lv_iconst (v := nI 1) hx hb d_M_store_251 (by decide) ?_
                                first | refine x_i2b hx hb d_M_store_252 (by omega) ?_ | refine x_i2b hx hb d_M_store_252 (show _ from hch) ?_
                                first | refine rs_20 hx hb hK hI hB hw (by omega) (by omega) d_M_store_253 (fun H locs hw hB => ?_) | refine rs_20 hx hb hK hI hB hw (by omega) (show _ from hch) d_M_store_253 (fun H locs hw hB => ?_)
                                first | refine x_aload_n hx hb d_M_store_254 hl rfl ?_ | refine x_aload_nQ hx hb d_M_store_254 hl rfl ?_
                                first | refine lv_dup hx hb d_M_store_255 rfl ?_ | refine lv_dup hx hb d_M_store_255 (va_rf_c _) ?_
                                refine m_get (v := .int (nI (τ 16 0))) hx hb hts hown hK hw ci_M (rf_at hI 0 (by decide) rfl) 16 (by decide) (wm3 88 rfl rfl) rfl d_M_store_256 ?_
                                refine lv_iconst (v := nI 1) hx hb d_M_store_259 (by decide) ?_
                                first | refine x_iadd hx hb d_M_store_260 ?_ | refine lv_iadd hx hb d_M_store_260 ?_
                                refine rp_16 hx hb hts hown hK hI hB hw (wm3 88 rfl rfl) (by omega) d_M_store_261 (fun H locs hw hB => ?_)
                                first | refine x_aload_n hx hb d_M_store_264 hl rfl ?_ | refine x_aload_nQ hx hb d_M_store_264 hl rfl ?_
                                refine m_get hx hb hts hown hK hw ci_M (rf_at hI 0 (by decide) rfl) 15 (by decide) (wm3 87 rfl rfl) rfl d_M_store_265 ?_
                                refine x_iload_n hx hb d_M_store_268 hl rfl ?_
                                first | refine x_aload_n hx hb d_M_store_269 hl rfl ?_ | refine x_aload_nQ hx hb d_M_store_269 hl rfl ?_
                                refine m_get (v := .int (nI (τ 16 0 + 1))) hx hb hts hown hK hw ci_M (rf_at hI 0 (by decide) rfl) 16 (by decide) (wm3 88 rfl rfl) rfl d_M_store_270 ?_
                                first | refine x_i2s hx hb d_M_store_273 (by omega) ?_ | refine lv_i2s hx hb d_M_store_273 rfl ?_
                                refine rs_15 hx hb hK hI hB hw (by omega) (by omega) d_M_store_274 (fun H locs hw hB => ?_)
                                exact x_retv hQ hx hb hr hlk hw (by omega) (by omega) d_M_store_275 (by rw [hst2, st2_3 h13 h75, h3f]; exact ⟨rfl, hB⟩)
                          · first
                              | exact absurd h234 (by omega)
                              | first | refine x_aload_n hx hb d_M_store_237 hl rfl ?_ | refine x_aload_nQ hx hb d_M_store_237 hl rfl ?_
                                refine m_get hx hb hts hown hK hw ci_M (rf_at hI 0 (by decide) rfl) 20 (by decide) (wm3 92 rfl rfl) rfl d_M_store_238 ?_
                                refine x_iload hx hb d_M_store_241 hl rfl ?_
                                refine lv_iconst (v := nI 1) hx hb d_M_store_243 (by decide) ?_
                                refine x_isub hx hb d_M_store_244 (by omega) ?_
                                refine rl_20 hx hb hK hI hB hw (by omega) d_M_store_245 (fun hv245 => ?_)
                                refine lv_iconst (v := nI 1) hx hb d_M_store_246 (by decide) ?_
                                first | refine x_iadd hx hb d_M_store_247 ?_ | refine lv_iadd hx hb d_M_store_247 ?_
                                refine lv_goto hx hb d_M_store_248 rfl ?_
                                first | refine x_i2b hx hb d_M_store_252 (by omega) ?_ | refine x_i2b hx hb d_M_store_252 (show _ from hch) ?_
                                first | refine rs_20 hx hb hK hI hB hw (by omega) (by omega) d_M_store_253 (fun H locs hw hB => ?_) | refine rs_20 hx hb hK hI hB hw (by omega) (show _ from hch) d_M_store_253 (fun H locs hw hB => ?_)
                                first | refine x_aload_n hx hb d_M_store_254 hl rfl ?_ | refine x_aload_nQ hx hb d_M_store_254 hl rfl ?_
                                first | refine lv_dup hx hb d_M_store_255 rfl ?_ | refine lv_dup hx hb d_M_store_255 (va_rf_c _) ?_
                                refine m_get (v := .int (nI (τ 16 0))) hx hb hts hown hK hw ci_M (rf_at hI 0 (by decide) rfl) 16 (by decide) (wm3 88 rfl rfl) rfl d_M_store_256 ?_
                                refine lv_iconst (v := nI 1) hx hb d_M_store_259 (by decide) ?_
                                first | refine x_iadd hx hb d_M_store_260 ?_ | refine lv_iadd hx hb d_M_store_260 ?_
                                refine rp_16 hx hb hts hown hK hI hB hw (wm3 88 rfl rfl) (by omega) d_M_store_261 (fun H locs hw hB => ?_)
                                first | refine x_aload_n hx hb d_M_store_264 hl rfl ?_ | refine x_aload_nQ hx hb d_M_store_264 hl rfl ?_
                                refine m_get hx hb hts hown hK hw ci_M (rf_at hI 0 (by decide) rfl) 15 (by decide) (wm3 87 rfl rfl) rfl d_M_store_265 ?_
                                refine x_iload_n hx hb d_M_store_268 hl rfl ?_
                                first | refine x_aload_n hx hb d_M_store_269 hl rfl ?_ | refine x_aload_nQ hx hb d_M_store_269 hl rfl ?_
                                refine m_get (v := .int (nI (τ 16 0 + 1))) hx hb hts hown hK hw ci_M (rf_at hI 0 (by decide) rfl) 16 (by decide) (wm3 88 rfl rfl) rfl d_M_store_270 ?_
                                first | refine x_i2s hx hb d_M_store_273 (by omega) ?_ | refine lv_i2s hx hb d_M_store_273 rfl ?_
                                refine rs_15 hx hb hK hI hB hw (by omega) (by omega) d_M_store_274 (fun H locs hw hB => ?_)
                                exact x_retv hQ hx hb hr hlk hw (by omega) (by omega) d_M_store_275 (by rw [hst2, st2_3 h13 h75, h3f]; exact ⟨rfl, hB⟩)
          · have hof := oldf_1 ha h125 h129
            have h15 := h515 a
            first | refine x_aload_n hx hb d_M_store_132 hl rfl ?_ | refine x_aload_nQ hx hb d_M_store_132 hl rfl ?_
            refine m_get hx hb hts hown hK hw ci_M (rf_at hI 0 (by decide) rfl) 15 (by decide) (wm3 87 rfl rfl) rfl d_M_store_133 ?_
            refine x_iload hx hb d_M_store_136 hl rfl ?_
            refine rl_15 hx hb hK hI hB hw (by omega) d_M_store_138 (fun hv138 => ?_)
            refine lv_goto hx hb d_M_store_139 rfl ?_
            refine x_istore hx hb d_M_store_143 hl (Nat.le_of_ble_eq_true rfl) (lh_k (i := 4) rfl (by first | exact lk_n | exact lk_i | exact lk_r | exact lk_q | exact lk_0)) (fun ls hl => ?_)
            have hal := alw_le (c := τ 11 n) 20 0
            refine x_iload hx hb d_M_store_145 hl rfl ?_
            refine x_if_le hx hb d_M_store_147 rfl (by omega) (fun h147 => ?_) (fun h147 => ?_)
            · first
                | exact absurd h147 (by omega)
                | have h3f := st3_f hof (Or.inl (by omega))
                  refine lv_iconst (v := nI 0) hx hb d_M_store_170 (by decide) ?_
                  refine x_istore hx hb d_M_store_171 hl (Nat.le_of_ble_eq_true rfl) (lh_k (i := 5) rfl (by first | exact lk_n | exact lk_i | exact lk_r | exact lk_q | exact lk_0)) (fun ls hl => ?_)
                  have hS2 := hSn h13
                  first | refine x_aload_n hx hb d_M_store_173 hl rfl ?_ | refine x_aload_nQ hx hb d_M_store_173 hl rfl ?_
                  refine m_get hx hb hts hown hK hw ci_M (rf_at hI 0 (by decide) rfl) 17 (by decide) (wm3 89 rfl rfl) rfl d_M_store_174 ?_
                  first | refine x_aload_n hx hb d_M_store_177 hl rfl ?_ | refine x_aload_nQ hx hb d_M_store_177 hl rfl ?_
                  refine m_get (v := .int (nI (τ 16 0))) hx hb hts hown hK hw ci_M (rf_at hI 0 (by decide) rfl) 16 (by decide) (wm3 88 rfl rfl) rfl d_M_store_178 ?_
                  first | refine x_aload_n hx hb d_M_store_181 hl rfl ?_ | refine x_aload_nQ hx hb d_M_store_181 hl rfl ?_
                  refine m_get hx hb hts hown hK hw ci_M (rf_at hI 0 (by decide) rfl) 9 (by decide) (wm3 81 rfl rfl) rfl d_M_store_182 ?_
                  refine x_iload_n hx hb d_M_store_185 hl rfl ?_
                  refine rl_9 hx hb hK hI hw (by omega) d_M_store_186 ?_
                  refine rs_17 hx hb hK hI hB hw (by omega) d_M_store_187 (fun H locs hw hB => ?_)
                  first | refine x_aload_n hx hb d_M_store_188 hl rfl ?_ | refine x_aload_nQ hx hb d_M_store_188 hl rfl ?_
                  refine m_get hx hb hts hown hK hw ci_M (rf_at hI 0 (by decide) rfl) 18 (by decide) (wm3 90 rfl rfl) rfl d_M_store_189 ?_
                  first | refine x_aload_n hx hb d_M_store_192 hl rfl ?_ | refine x_aload_nQ hx hb d_M_store_192 hl rfl ?_
                  refine m_get (v := .int (nI (τ 16 0))) hx hb hts hown hK hw ci_M (rf_at hI 0 (by decide) rfl) 16 (by decide) (wm3 88 rfl rfl) rfl d_M_store_193 ?_
                  first | refine x_aload_n hx hb d_M_store_196 hl rfl ?_ | refine x_aload_nQ hx hb d_M_store_196 hl rfl ?_
                  refine m_get hx hb hts hown hK hw ci_M (rf_at hI 0 (by decide) rfl) 7 (by decide) (wm3 79 rfl rfl) rfl d_M_store_197 ?_
                  refine x_iload_n hx hb d_M_store_200 hl rfl ?_
                  refine rl_7 hx hb hK hI hB hw (by omega) d_M_store_201 (fun hv201 => ?_)
                  refine rs_18 hx hb hK hI hB hw (by omega) (show _ from h712 n) d_M_store_202 (fun H locs hw hB => ?_)
                  first | refine x_aload_n hx hb d_M_store_203 hl rfl ?_ | refine x_aload_nQ hx hb d_M_store_203 hl rfl ?_
                  refine m_get hx hb hts hown hK hw ci_M (rf_at hI 0 (by decide) rfl) 19 (by decide) (wm3 91 rfl rfl) rfl d_M_store_204 ?_
                  first | refine x_aload_n hx hb d_M_store_207 hl rfl ?_ | refine x_aload_nQ hx hb d_M_store_207 hl rfl ?_
                  refine m_get (v := .int (nI (τ 16 0))) hx hb hts hown hK hw ci_M (rf_at hI 0 (by decide) rfl) 16 (by decide) (wm3 88 rfl rfl) rfl d_M_store_208 ?_
                  refine x_iload hx hb d_M_store_211 hl rfl ?_
                  refine x_if_eq hx hb d_M_store_213 rfl (by omega) (fun h213 => ?_) (fun h213 => ?_)
                  · first
                      | exact absurd h213 (by omega)
                      | refine lv_iconst (v := nI 0) hx hb d_M_store_221 (by decide) ?_
                        first | refine x_i2s hx hb d_M_store_222 (by omega) ?_ | refine lv_i2s hx hb d_M_store_222 rfl ?_
                        refine rs_19 hx hb hK hI hB hw (by omega) (by omega) d_M_store_223 (fun H locs hw hB => ?_)
                        first | refine x_aload_n hx hb d_M_store_224 hl rfl ?_ | refine x_aload_nQ hx hb d_M_store_224 hl rfl ?_
                        refine m_get hx hb hts hown hK hw ci_M (rf_at hI 0 (by decide) rfl) 20 (by decide) (wm3 92 rfl rfl) rfl d_M_store_225 ?_
                        first | refine x_aload_n hx hb d_M_store_228 hl rfl ?_ | refine x_aload_nQ hx hb d_M_store_228 hl rfl ?_
                        refine m_get (v := .int (nI (τ 16 0))) hx hb hts hown hK hw ci_M (rf_at hI 0 (by decide) rfl) 16 (by decide) (wm3 88 rfl rfl) rfl d_M_store_229 ?_
                        refine x_iload hx hb d_M_store_232 hl rfl ?_
                        refine x_if_eq hx hb d_M_store_234 rfl (by omega) (fun h234 => ?_) (fun h234 => ?_)
                        · first
                            | exact absurd h234 (by omega)
                            | refine lv_iconst (v := nI 1) hx hb d_M_store_251 (by decide) ?_
                              first | refine x_i2b hx hb d_M_store_252 (by omega) ?_ | refine x_i2b hx hb d_M_store_252 (show _ from hch) ?_
                              first | refine rs_20 hx hb hK hI hB hw (by omega) (by omega) d_M_store_253 (fun H locs hw hB => ?_) | refine rs_20 hx hb hK hI hB hw (by omega) (show _ from hch) d_M_store_253 (fun H locs hw hB => ?_)
                              first | refine x_aload_n hx hb d_M_store_254 hl rfl ?_ | refine x_aload_nQ hx hb d_M_store_254 hl rfl ?_
                              first | refine lv_dup hx hb d_M_store_255 rfl ?_ | refine lv_dup hx hb d_M_store_255 (va_rf_c _) ?_
                              refine m_get (v := .int (nI (τ 16 0))) hx hb hts hown hK hw ci_M (rf_at hI 0 (by decide) rfl) 16 (by decide) (wm3 88 rfl rfl) rfl d_M_store_256 ?_
                              refine lv_iconst (v := nI 1) hx hb d_M_store_259 (by decide) ?_
                              first | refine x_iadd hx hb d_M_store_260 ?_ | refine lv_iadd hx hb d_M_store_260 ?_
                              refine rp_16 hx hb hts hown hK hI hB hw (wm3 88 rfl rfl) (by omega) d_M_store_261 (fun H locs hw hB => ?_)
                              first | refine x_aload_n hx hb d_M_store_264 hl rfl ?_ | refine x_aload_nQ hx hb d_M_store_264 hl rfl ?_
                              refine m_get hx hb hts hown hK hw ci_M (rf_at hI 0 (by decide) rfl) 15 (by decide) (wm3 87 rfl rfl) rfl d_M_store_265 ?_
                              refine x_iload_n hx hb d_M_store_268 hl rfl ?_
                              first | refine x_aload_n hx hb d_M_store_269 hl rfl ?_ | refine x_aload_nQ hx hb d_M_store_269 hl rfl ?_
                              refine m_get (v := .int (nI (τ 16 0 + 1))) hx hb hts hown hK hw ci_M (rf_at hI 0 (by decide) rfl) 16 (by decide) (wm3 88 rfl rfl) rfl d_M_store_270 ?_
                              first | refine x_i2s hx hb d_M_store_273 (by omega) ?_ | refine lv_i2s hx hb d_M_store_273 rfl ?_
                              refine rs_15 hx hb hK hI hB hw (by omega) (by omega) d_M_store_274 (fun H locs hw hB => ?_)
                              exact x_retv hQ hx hb hr hlk hw (by omega) (by omega) d_M_store_275 (by rw [hst2, st2_3 h13 h75, h3f]; exact ⟨rfl, hB⟩)
                        · first
                            | exact absurd h234 (by omega)
                            | first | refine x_aload_n hx hb d_M_store_237 hl rfl ?_ | refine x_aload_nQ hx hb d_M_store_237 hl rfl ?_
                              refine m_get hx hb hts hown hK hw ci_M (rf_at hI 0 (by decide) rfl) 20 (by decide) (wm3 92 rfl rfl) rfl d_M_store_238 ?_
                              refine x_iload hx hb d_M_store_241 hl rfl ?_
                              refine lv_iconst (v := nI 1) hx hb d_M_store_243 (by decide) ?_
                              refine x_isub hx hb d_M_store_244 (by omega) ?_
                              refine rl_20 hx hb hK hI hB hw (by omega) d_M_store_245 (fun hv245 => ?_)
                              refine lv_iconst (v := nI 1) hx hb d_M_store_246 (by decide) ?_
                              first | refine x_iadd hx hb d_M_store_247 ?_ | refine lv_iadd hx hb d_M_store_247 ?_
                              refine lv_goto hx hb d_M_store_248 rfl ?_
                              first | refine x_i2b hx hb d_M_store_252 (by omega) ?_ | refine x_i2b hx hb d_M_store_252 (show _ from hch) ?_
                              first | refine rs_20 hx hb hK hI hB hw (by omega) (by omega) d_M_store_253 (fun H locs hw hB => ?_) | refine rs_20 hx hb hK hI hB hw (by omega) (show _ from hch) d_M_store_253 (fun H locs hw hB => ?_)
                              first | refine x_aload_n hx hb d_M_store_254 hl rfl ?_ | refine x_aload_nQ hx hb d_M_store_254 hl rfl ?_
                              first | refine lv_dup hx hb d_M_store_255 rfl ?_ | refine lv_dup hx hb d_M_store_255 (va_rf_c _) ?_
                              refine m_get (v := .int (nI (τ 16 0))) hx hb hts hown hK hw ci_M (rf_at hI 0 (by decide) rfl) 16 (by decide) (wm3 88 rfl rfl) rfl d_M_store_256 ?_
                              refine lv_iconst (v := nI 1) hx hb d_M_store_259 (by decide) ?_
                              first | refine x_iadd hx hb d_M_store_260 ?_ | refine lv_iadd hx hb d_M_store_260 ?_
                              refine rp_16 hx hb hts hown hK hI hB hw (wm3 88 rfl rfl) (by omega) d_M_store_261 (fun H locs hw hB => ?_)
                              first | refine x_aload_n hx hb d_M_store_264 hl rfl ?_ | refine x_aload_nQ hx hb d_M_store_264 hl rfl ?_
                              refine m_get hx hb hts hown hK hw ci_M (rf_at hI 0 (by decide) rfl) 15 (by decide) (wm3 87 rfl rfl) rfl d_M_store_265 ?_
                              refine x_iload_n hx hb d_M_store_268 hl rfl ?_
                              first | refine x_aload_n hx hb d_M_store_269 hl rfl ?_ | refine x_aload_nQ hx hb d_M_store_269 hl rfl ?_
                              refine m_get (v := .int (nI (τ 16 0 + 1))) hx hb hts hown hK hw ci_M (rf_at hI 0 (by decide) rfl) 16 (by decide) (wm3 88 rfl rfl) rfl d_M_store_270 ?_
                              first | refine x_i2s hx hb d_M_store_273 (by omega) ?_ | refine lv_i2s hx hb d_M_store_273 rfl ?_
                              refine rs_15 hx hb hK hI hB hw (by omega) (by omega) d_M_store_274 (fun H locs hw hB => ?_)
                              exact x_retv hQ hx hb hr hlk hw (by omega) (by omega) d_M_store_275 (by rw [hst2, st2_3 h13 h75, h3f]; exact ⟨rfl, hB⟩)
                  · first
                      | exact absurd h213 (by omega)
                      | refine x_iload hx hb d_M_store_216 hl rfl ?_
                        refine lv_goto hx hb d_M_store_218 rfl ?_
                        first | refine x_i2s hx hb d_M_store_222 (by omega) ?_ | refine lv_i2s hx hb d_M_store_222 rfl ?_
                        refine rs_19 hx hb hK hI hB hw (by omega) (by omega) d_M_store_223 (fun H locs hw hB => ?_)
                        first | refine x_aload_n hx hb d_M_store_224 hl rfl ?_ | refine x_aload_nQ hx hb d_M_store_224 hl rfl ?_
                        refine m_get hx hb hts hown hK hw ci_M (rf_at hI 0 (by decide) rfl) 20 (by decide) (wm3 92 rfl rfl) rfl d_M_store_225 ?_
                        first | refine x_aload_n hx hb d_M_store_228 hl rfl ?_ | refine x_aload_nQ hx hb d_M_store_228 hl rfl ?_
                        refine m_get (v := .int (nI (τ 16 0))) hx hb hts hown hK hw ci_M (rf_at hI 0 (by decide) rfl) 16 (by decide) (wm3 88 rfl rfl) rfl d_M_store_229 ?_
                        refine x_iload hx hb d_M_store_232 hl rfl ?_
                        refine x_if_eq hx hb d_M_store_234 rfl (by omega) (fun h234 => ?_) (fun h234 => ?_)
                        · first
                            | exact absurd h234 (by omega)
                            | refine lv_iconst (v := nI 1) hx hb d_M_store_251 (by decide) ?_
                              first | refine x_i2b hx hb d_M_store_252 (by omega) ?_ | refine x_i2b hx hb d_M_store_252 (show _ from hch) ?_
                              first | refine rs_20 hx hb hK hI hB hw (by omega) (by omega) d_M_store_253 (fun H locs hw hB => ?_) | refine rs_20 hx hb hK hI hB hw (by omega) (show _ from hch) d_M_store_253 (fun H locs hw hB => ?_)
                              first | refine x_aload_n hx hb d_M_store_254 hl rfl ?_ | refine x_aload_nQ hx hb d_M_store_254 hl rfl ?_
                              first | refine lv_dup hx hb d_M_store_255 rfl ?_ | refine lv_dup hx hb d_M_store_255 (va_rf_c _) ?_
                              refine m_get (v := .int (nI (τ 16 0))) hx hb hts hown hK hw ci_M (rf_at hI 0 (by decide) rfl) 16 (by decide) (wm3 88 rfl rfl) rfl d_M_store_256 ?_
                              refine lv_iconst (v := nI 1) hx hb d_M_store_259 (by decide) ?_
                              first | refine x_iadd hx hb d_M_store_260 ?_ | refine lv_iadd hx hb d_M_store_260 ?_
                              refine rp_16 hx hb hts hown hK hI hB hw (wm3 88 rfl rfl) (by omega) d_M_store_261 (fun H locs hw hB => ?_)
                              first | refine x_aload_n hx hb d_M_store_264 hl rfl ?_ | refine x_aload_nQ hx hb d_M_store_264 hl rfl ?_
                              refine m_get hx hb hts hown hK hw ci_M (rf_at hI 0 (by decide) rfl) 15 (by decide) (wm3 87 rfl rfl) rfl d_M_store_265 ?_
                              refine x_iload_n hx hb d_M_store_268 hl rfl ?_
                              first | refine x_aload_n hx hb d_M_store_269 hl rfl ?_ | refine x_aload_nQ hx hb d_M_store_269 hl rfl ?_
                              refine m_get (v := .int (nI (τ 16 0 + 1))) hx hb hts hown hK hw ci_M (rf_at hI 0 (by decide) rfl) 16 (by decide) (wm3 88 rfl rfl) rfl d_M_store_270 ?_
                              first | refine x_i2s hx hb d_M_store_273 (by omega) ?_ | refine lv_i2s hx hb d_M_store_273 rfl ?_
                              refine rs_15 hx hb hK hI hB hw (by omega) (by omega) d_M_store_274 (fun H locs hw hB => ?_)
                              exact x_retv hQ hx hb hr hlk hw (by omega) (by omega) d_M_store_275 (by rw [hst2, st2_3 h13 h75, h3f]; exact ⟨rfl, hB⟩)
                        · first
                            | exact absurd h234 (by omega)
                            | first | refine x_aload_n hx hb d_M_store_237 hl rfl ?_ | refine x_aload_nQ hx hb d_M_store_237 hl rfl ?_
                              refine m_get hx hb hts hown hK hw ci_M (rf_at hI 0 (by decide) rfl) 20 (by decide) (wm3 92 rfl rfl) rfl d_M_store_238 ?_
                              refine x_iload hx hb d_M_store_241 hl rfl ?_
                              refine lv_iconst (v := nI 1) hx hb d_M_store_243 (by decide) ?_
                              refine x_isub hx hb d_M_store_244 (by omega) ?_
                              refine rl_20 hx hb hK hI hB hw (by omega) d_M_store_245 (fun hv245 => ?_)
                              refine lv_iconst (v := nI 1) hx hb d_M_store_246 (by decide) ?_
                              first | refine x_iadd hx hb d_M_store_247 ?_ | refine lv_iadd hx hb d_M_store_247 ?_
                              refine lv_goto hx hb d_M_store_248 rfl ?_
                              first | refine x_i2b hx hb d_M_store_252 (by omega) ?_ | refine x_i2b hx hb d_M_store_252 (show _ from hch) ?_
                              first | refine rs_20 hx hb hK hI hB hw (by omega) (by omega) d_M_store_253 (fun H locs hw hB => ?_) | refine rs_20 hx hb hK hI hB hw (by omega) (show _ from hch) d_M_store_253 (fun H locs hw hB => ?_)
                              first | refine x_aload_n hx hb d_M_store_254 hl rfl ?_ | refine x_aload_nQ hx hb d_M_store_254 hl rfl ?_
                              first | refine lv_dup hx hb d_M_store_255 rfl ?_ | refine lv_dup hx hb d_M_store_255 (va_rf_c _) ?_
                              refine m_get (v := .int (nI (τ 16 0))) hx hb hts hown hK hw ci_M (rf_at hI 0 (by decide) rfl) 16 (by decide) (wm3 88 rfl rfl) rfl d_M_store_256 ?_
                              refine lv_iconst (v := nI 1) hx hb d_M_store_259 (by decide) ?_
                              first | refine x_iadd hx hb d_M_store_260 ?_ | refine lv_iadd hx hb d_M_store_260 ?_
                              refine rp_16 hx hb hts hown hK hI hB hw (wm3 88 rfl rfl) (by omega) d_M_store_261 (fun H locs hw hB => ?_)
                              first | refine x_aload_n hx hb d_M_store_264 hl rfl ?_ | refine x_aload_nQ hx hb d_M_store_264 hl rfl ?_
                              refine m_get hx hb hts hown hK hw ci_M (rf_at hI 0 (by decide) rfl) 15 (by decide) (wm3 87 rfl rfl) rfl d_M_store_265 ?_
                              refine x_iload_n hx hb d_M_store_268 hl rfl ?_
                              first | refine x_aload_n hx hb d_M_store_269 hl rfl ?_ | refine x_aload_nQ hx hb d_M_store_269 hl rfl ?_
                              refine m_get (v := .int (nI (τ 16 0 + 1))) hx hb hts hown hK hw ci_M (rf_at hI 0 (by decide) rfl) 16 (by decide) (wm3 88 rfl rfl) rfl d_M_store_270 ?_
                              first | refine x_i2s hx hb d_M_store_273 (by omega) ?_ | refine lv_i2s hx hb d_M_store_273 rfl ?_
                              refine rs_15 hx hb hK hI hB hw (by omega) (by omega) d_M_store_274 (fun H locs hw hB => ?_)
                              exact x_retv hQ hx hb hr hlk hw (by omega) (by omega) d_M_store_275 (by rw [hst2, st2_3 h13 h75, h3f]; exact ⟨rfl, hB⟩)
            · first
                | exact absurd h147 (by omega)
                | first | refine x_aload_n hx hb d_M_store_150 hl rfl ?_ | refine x_aload_nQ hx hb d_M_store_150 hl rfl ?_
                  refine m_get hx hb hts hown hK hw ci_M (rf_at hI 0 (by decide) rfl) 20 (by decide) (wm3 92 rfl rfl) rfl d_M_store_151 ?_
                  refine x_iload hx hb d_M_store_154 hl rfl ?_
                  refine lv_iconst (v := nI 1) hx hb d_M_store_156 (by decide) ?_
                  refine x_isub hx hb d_M_store_157 (by omega) ?_
                  refine rl_20 hx hb hK hI hB hw (by omega) d_M_store_158 (fun hv158 => ?_)
                  refine x_iload_n hx hb d_M_store_159 hl rfl ?_
                  refine m_calli (k_S ⟨hx, hb, hml, hown, hts⟩ hE hA hw (c_M_allowed (by omega)) (wm3 235 rfl rfl) (wm3 236 rfl rfl) (wm1 9 rfl rfl) (wm3 237 rfl rfl) rfl rfl ar_M_allowed ⟨Nat.le_trans (Nat.le_of_ble_eq_true rfl) hR.1, Nat.le_trans (Nat.le_of_ble_eq_true rfl) hR.2.1⟩ rfl hl.1 rfl (Nat.le_of_ble_eq_true rfl) d_M_store_160 ⟨Nat.le_trans (Nat.le_of_ble_eq_true rfl) hR.2.2.1, Nat.le_trans (Nat.le_of_ble_eq_true rfl) hR.2.2.2⟩) hw (mfr_in hw hA) (fun r160 M160 H locs hP160 hw => ?_)
                  obtain ⟨rfl, hM160⟩ := hP160
                  rw [hM160] at hw
                  refine x_icmp_ge hx hb d_M_store_163 rfl (by omega) (by omega) (fun h163 => ?_) (fun h163 => ?_)
                  · have h3f := st3_f hof (Or.inr h163)
                    refine lv_iconst (v := nI 0) hx hb d_M_store_170 (by decide) ?_
                    refine x_istore hx hb d_M_store_171 hl (Nat.le_of_ble_eq_true rfl) (lh_k (i := 5) rfl (by first | exact lk_n | exact lk_i | exact lk_r | exact lk_q | exact lk_0)) (fun ls hl => ?_)
                    have hS2 := hSn h13
                    first | refine x_aload_n hx hb d_M_store_173 hl rfl ?_ | refine x_aload_nQ hx hb d_M_store_173 hl rfl ?_
                    refine m_get hx hb hts hown hK hw ci_M (rf_at hI 0 (by decide) rfl) 17 (by decide) (wm3 89 rfl rfl) rfl d_M_store_174 ?_
                    first | refine x_aload_n hx hb d_M_store_177 hl rfl ?_ | refine x_aload_nQ hx hb d_M_store_177 hl rfl ?_
                    refine m_get (v := .int (nI (τ 16 0))) hx hb hts hown hK hw ci_M (rf_at hI 0 (by decide) rfl) 16 (by decide) (wm3 88 rfl rfl) rfl d_M_store_178 ?_
                    first | refine x_aload_n hx hb d_M_store_181 hl rfl ?_ | refine x_aload_nQ hx hb d_M_store_181 hl rfl ?_
                    refine m_get hx hb hts hown hK hw ci_M (rf_at hI 0 (by decide) rfl) 9 (by decide) (wm3 81 rfl rfl) rfl d_M_store_182 ?_
                    refine x_iload_n hx hb d_M_store_185 hl rfl ?_
                    refine rl_9 hx hb hK hI hw (by omega) d_M_store_186 ?_
                    refine rs_17 hx hb hK hI hB hw (by omega) d_M_store_187 (fun H locs hw hB => ?_)
                    first | refine x_aload_n hx hb d_M_store_188 hl rfl ?_ | refine x_aload_nQ hx hb d_M_store_188 hl rfl ?_
                    refine m_get hx hb hts hown hK hw ci_M (rf_at hI 0 (by decide) rfl) 18 (by decide) (wm3 90 rfl rfl) rfl d_M_store_189 ?_
                    first | refine x_aload_n hx hb d_M_store_192 hl rfl ?_ | refine x_aload_nQ hx hb d_M_store_192 hl rfl ?_
                    refine m_get (v := .int (nI (τ 16 0))) hx hb hts hown hK hw ci_M (rf_at hI 0 (by decide) rfl) 16 (by decide) (wm3 88 rfl rfl) rfl d_M_store_193 ?_
                    first | refine x_aload_n hx hb d_M_store_196 hl rfl ?_ | refine x_aload_nQ hx hb d_M_store_196 hl rfl ?_
                    refine m_get hx hb hts hown hK hw ci_M (rf_at hI 0 (by decide) rfl) 7 (by decide) (wm3 79 rfl rfl) rfl d_M_store_197 ?_
                    refine x_iload_n hx hb d_M_store_200 hl rfl ?_
                    refine rl_7 hx hb hK hI hB hw (by omega) d_M_store_201 (fun hv201 => ?_)
                    refine rs_18 hx hb hK hI hB hw (by omega) (show _ from h712 n) d_M_store_202 (fun H locs hw hB => ?_)
                    first | refine x_aload_n hx hb d_M_store_203 hl rfl ?_ | refine x_aload_nQ hx hb d_M_store_203 hl rfl ?_
                    refine m_get hx hb hts hown hK hw ci_M (rf_at hI 0 (by decide) rfl) 19 (by decide) (wm3 91 rfl rfl) rfl d_M_store_204 ?_
                    first | refine x_aload_n hx hb d_M_store_207 hl rfl ?_ | refine x_aload_nQ hx hb d_M_store_207 hl rfl ?_
                    refine m_get (v := .int (nI (τ 16 0))) hx hb hts hown hK hw ci_M (rf_at hI 0 (by decide) rfl) 16 (by decide) (wm3 88 rfl rfl) rfl d_M_store_208 ?_
                    refine x_iload hx hb d_M_store_211 hl rfl ?_
                    refine x_if_eq hx hb d_M_store_213 rfl (by omega) (fun h213 => ?_) (fun h213 => ?_)
                    · first
                        | exact absurd h213 (by omega)
                        | refine lv_iconst (v := nI 0) hx hb d_M_store_221 (by decide) ?_
                          first | refine x_i2s hx hb d_M_store_222 (by omega) ?_ | refine lv_i2s hx hb d_M_store_222 rfl ?_
                          refine rs_19 hx hb hK hI hB hw (by omega) (by omega) d_M_store_223 (fun H locs hw hB => ?_)
                          first | refine x_aload_n hx hb d_M_store_224 hl rfl ?_ | refine x_aload_nQ hx hb d_M_store_224 hl rfl ?_
                          refine m_get hx hb hts hown hK hw ci_M (rf_at hI 0 (by decide) rfl) 20 (by decide) (wm3 92 rfl rfl) rfl d_M_store_225 ?_
                          first | refine x_aload_n hx hb d_M_store_228 hl rfl ?_ | refine x_aload_nQ hx hb d_M_store_228 hl rfl ?_
                          refine m_get (v := .int (nI (τ 16 0))) hx hb hts hown hK hw ci_M (rf_at hI 0 (by decide) rfl) 16 (by decide) (wm3 88 rfl rfl) rfl d_M_store_229 ?_
                          refine x_iload hx hb d_M_store_232 hl rfl ?_
                          refine x_if_eq hx hb d_M_store_234 rfl (by omega) (fun h234 => ?_) (fun h234 => ?_)
                          · first
                              | exact absurd h234 (by omega)
                              | refine lv_iconst (v := nI 1) hx hb d_M_store_251 (by decide) ?_
                                first | refine x_i2b hx hb d_M_store_252 (by omega) ?_ | refine x_i2b hx hb d_M_store_252 (show _ from hch) ?_
                                first | refine rs_20 hx hb hK hI hB hw (by omega) (by omega) d_M_store_253 (fun H locs hw hB => ?_) | refine rs_20 hx hb hK hI hB hw (by omega) (show _ from hch) d_M_store_253 (fun H locs hw hB => ?_)
                                first | refine x_aload_n hx hb d_M_store_254 hl rfl ?_ | refine x_aload_nQ hx hb d_M_store_254 hl rfl ?_
                                first | refine lv_dup hx hb d_M_store_255 rfl ?_ | refine lv_dup hx hb d_M_store_255 (va_rf_c _) ?_
                                refine m_get (v := .int (nI (τ 16 0))) hx hb hts hown hK hw ci_M (rf_at hI 0 (by decide) rfl) 16 (by decide) (wm3 88 rfl rfl) rfl d_M_store_256 ?_
                                refine lv_iconst (v := nI 1) hx hb d_M_store_259 (by decide) ?_
                                first | refine x_iadd hx hb d_M_store_260 ?_ | refine lv_iadd hx hb d_M_store_260 ?_
                                refine rp_16 hx hb hts hown hK hI hB hw (wm3 88 rfl rfl) (by omega) d_M_store_261 (fun H locs hw hB => ?_)
                                first | refine x_aload_n hx hb d_M_store_264 hl rfl ?_ | refine x_aload_nQ hx hb d_M_store_264 hl rfl ?_
                                refine m_get hx hb hts hown hK hw ci_M (rf_at hI 0 (by decide) rfl) 15 (by decide) (wm3 87 rfl rfl) rfl d_M_store_265 ?_
                                refine x_iload_n hx hb d_M_store_268 hl rfl ?_
                                first | refine x_aload_n hx hb d_M_store_269 hl rfl ?_ | refine x_aload_nQ hx hb d_M_store_269 hl rfl ?_
                                refine m_get (v := .int (nI (τ 16 0 + 1))) hx hb hts hown hK hw ci_M (rf_at hI 0 (by decide) rfl) 16 (by decide) (wm3 88 rfl rfl) rfl d_M_store_270 ?_
                                first | refine x_i2s hx hb d_M_store_273 (by omega) ?_ | refine lv_i2s hx hb d_M_store_273 rfl ?_
                                refine rs_15 hx hb hK hI hB hw (by omega) (by omega) d_M_store_274 (fun H locs hw hB => ?_)
                                exact x_retv hQ hx hb hr hlk hw (by omega) (by omega) d_M_store_275 (by rw [hst2, st2_3 h13 h75, h3f]; exact ⟨rfl, hB⟩)
                          · first
                              | exact absurd h234 (by omega)
                              | first | refine x_aload_n hx hb d_M_store_237 hl rfl ?_ | refine x_aload_nQ hx hb d_M_store_237 hl rfl ?_
                                refine m_get hx hb hts hown hK hw ci_M (rf_at hI 0 (by decide) rfl) 20 (by decide) (wm3 92 rfl rfl) rfl d_M_store_238 ?_
                                refine x_iload hx hb d_M_store_241 hl rfl ?_
                                refine lv_iconst (v := nI 1) hx hb d_M_store_243 (by decide) ?_
                                refine x_isub hx hb d_M_store_244 (by omega) ?_
                                refine rl_20 hx hb hK hI hB hw (by omega) d_M_store_245 (fun hv245 => ?_)
                                refine lv_iconst (v := nI 1) hx hb d_M_store_246 (by decide) ?_
                                first | refine x_iadd hx hb d_M_store_247 ?_ | refine lv_iadd hx hb d_M_store_247 ?_
                                refine lv_goto hx hb d_M_store_248 rfl ?_
                                first | refine x_i2b hx hb d_M_store_252 (by omega) ?_ | refine x_i2b hx hb d_M_store_252 (show _ from hch) ?_
                                first | refine rs_20 hx hb hK hI hB hw (by omega) (by omega) d_M_store_253 (fun H locs hw hB => ?_) | refine rs_20 hx hb hK hI hB hw (by omega) (show _ from hch) d_M_store_253 (fun H locs hw hB => ?_)
                                first | refine x_aload_n hx hb d_M_store_254 hl rfl ?_ | refine x_aload_nQ hx hb d_M_store_254 hl rfl ?_
                                first | refine lv_dup hx hb d_M_store_255 rfl ?_ | refine lv_dup hx hb d_M_store_255 (va_rf_c _) ?_
                                refine m_get (v := .int (nI (τ 16 0))) hx hb hts hown hK hw ci_M (rf_at hI 0 (by decide) rfl) 16 (by decide) (wm3 88 rfl rfl) rfl d_M_store_256 ?_
                                refine lv_iconst (v := nI 1) hx hb d_M_store_259 (by decide) ?_
                                first | refine x_iadd hx hb d_M_store_260 ?_ | refine lv_iadd hx hb d_M_store_260 ?_
                                refine rp_16 hx hb hts hown hK hI hB hw (wm3 88 rfl rfl) (by omega) d_M_store_261 (fun H locs hw hB => ?_)
                                first | refine x_aload_n hx hb d_M_store_264 hl rfl ?_ | refine x_aload_nQ hx hb d_M_store_264 hl rfl ?_
                                refine m_get hx hb hts hown hK hw ci_M (rf_at hI 0 (by decide) rfl) 15 (by decide) (wm3 87 rfl rfl) rfl d_M_store_265 ?_
                                refine x_iload_n hx hb d_M_store_268 hl rfl ?_
                                first | refine x_aload_n hx hb d_M_store_269 hl rfl ?_ | refine x_aload_nQ hx hb d_M_store_269 hl rfl ?_
                                refine m_get (v := .int (nI (τ 16 0 + 1))) hx hb hts hown hK hw ci_M (rf_at hI 0 (by decide) rfl) 16 (by decide) (wm3 88 rfl rfl) rfl d_M_store_270 ?_
                                first | refine x_i2s hx hb d_M_store_273 (by omega) ?_ | refine lv_i2s hx hb d_M_store_273 rfl ?_
                                refine rs_15 hx hb hK hI hB hw (by omega) (by omega) d_M_store_274 (fun H locs hw hB => ?_)
                                exact x_retv hQ hx hb hr hlk hw (by omega) (by omega) d_M_store_275 (by rw [hst2, st2_3 h13 h75, h3f]; exact ⟨rfl, hB⟩)
                    · first
                        | exact absurd h213 (by omega)
                        | refine x_iload hx hb d_M_store_216 hl rfl ?_
                          refine lv_goto hx hb d_M_store_218 rfl ?_
                          first | refine x_i2s hx hb d_M_store_222 (by omega) ?_ | refine lv_i2s hx hb d_M_store_222 rfl ?_
                          refine rs_19 hx hb hK hI hB hw (by omega) (by omega) d_M_store_223 (fun H locs hw hB => ?_)
                          first | refine x_aload_n hx hb d_M_store_224 hl rfl ?_ | refine x_aload_nQ hx hb d_M_store_224 hl rfl ?_
                          refine m_get hx hb hts hown hK hw ci_M (rf_at hI 0 (by decide) rfl) 20 (by decide) (wm3 92 rfl rfl) rfl d_M_store_225 ?_
                          first | refine x_aload_n hx hb d_M_store_228 hl rfl ?_ | refine x_aload_nQ hx hb d_M_store_228 hl rfl ?_
                          refine m_get (v := .int (nI (τ 16 0))) hx hb hts hown hK hw ci_M (rf_at hI 0 (by decide) rfl) 16 (by decide) (wm3 88 rfl rfl) rfl d_M_store_229 ?_
                          refine x_iload hx hb d_M_store_232 hl rfl ?_
                          refine x_if_eq hx hb d_M_store_234 rfl (by omega) (fun h234 => ?_) (fun h234 => ?_)
                          · first
                              | exact absurd h234 (by omega)
                              | refine lv_iconst (v := nI 1) hx hb d_M_store_251 (by decide) ?_
                                first | refine x_i2b hx hb d_M_store_252 (by omega) ?_ | refine x_i2b hx hb d_M_store_252 (show _ from hch) ?_
                                first | refine rs_20 hx hb hK hI hB hw (by omega) (by omega) d_M_store_253 (fun H locs hw hB => ?_) | refine rs_20 hx hb hK hI hB hw (by omega) (show _ from hch) d_M_store_253 (fun H locs hw hB => ?_)
                                first | refine x_aload_n hx hb d_M_store_254 hl rfl ?_ | refine x_aload_nQ hx hb d_M_store_254 hl rfl ?_
                                first | refine lv_dup hx hb d_M_store_255 rfl ?_ | refine lv_dup hx hb d_M_store_255 (va_rf_c _) ?_
                                refine m_get (v := .int (nI (τ 16 0))) hx hb hts hown hK hw ci_M (rf_at hI 0 (by decide) rfl) 16 (by decide) (wm3 88 rfl rfl) rfl d_M_store_256 ?_
                                refine lv_iconst (v := nI 1) hx hb d_M_store_259 (by decide) ?_
                                first | refine x_iadd hx hb d_M_store_260 ?_ | refine lv_iadd hx hb d_M_store_260 ?_
                                refine rp_16 hx hb hts hown hK hI hB hw (wm3 88 rfl rfl) (by omega) d_M_store_261 (fun H locs hw hB => ?_)
                                first | refine x_aload_n hx hb d_M_store_264 hl rfl ?_ | refine x_aload_nQ hx hb d_M_store_264 hl rfl ?_
                                refine m_get hx hb hts hown hK hw ci_M (rf_at hI 0 (by decide) rfl) 15 (by decide) (wm3 87 rfl rfl) rfl d_M_store_265 ?_
                                refine x_iload_n hx hb d_M_store_268 hl rfl ?_
                                first | refine x_aload_n hx hb d_M_store_269 hl rfl ?_ | refine x_aload_nQ hx hb d_M_store_269 hl rfl ?_
                                refine m_get (v := .int (nI (τ 16 0 + 1))) hx hb hts hown hK hw ci_M (rf_at hI 0 (by decide) rfl) 16 (by decide) (wm3 88 rfl rfl) rfl d_M_store_270 ?_
                                first | refine x_i2s hx hb d_M_store_273 (by omega) ?_ | refine lv_i2s hx hb d_M_store_273 rfl ?_
                                refine rs_15 hx hb hK hI hB hw (by omega) (by omega) d_M_store_274 (fun H locs hw hB => ?_)
                                exact x_retv hQ hx hb hr hlk hw (by omega) (by omega) d_M_store_275 (by rw [hst2, st2_3 h13 h75, h3f]; exact ⟨rfl, hB⟩)
                          · first
                              | exact absurd h234 (by omega)
                              | first | refine x_aload_n hx hb d_M_store_237 hl rfl ?_ | refine x_aload_nQ hx hb d_M_store_237 hl rfl ?_
                                refine m_get hx hb hts hown hK hw ci_M (rf_at hI 0 (by decide) rfl) 20 (by decide) (wm3 92 rfl rfl) rfl d_M_store_238 ?_
                                refine x_iload hx hb d_M_store_241 hl rfl ?_
                                refine lv_iconst (v := nI 1) hx hb d_M_store_243 (by decide) ?_
                                refine x_isub hx hb d_M_store_244 (by omega) ?_
                                refine rl_20 hx hb hK hI hB hw (by omega) d_M_store_245 (fun hv245 => ?_)
                                refine lv_iconst (v := nI 1) hx hb d_M_store_246 (by decide) ?_
                                first | refine x_iadd hx hb d_M_store_247 ?_ | refine lv_iadd hx hb d_M_store_247 ?_
                                refine lv_goto hx hb d_M_store_248 rfl ?_
                                first | refine x_i2b hx hb d_M_store_252 (by omega) ?_ | refine x_i2b hx hb d_M_store_252 (show _ from hch) ?_
                                first | refine rs_20 hx hb hK hI hB hw (by omega) (by omega) d_M_store_253 (fun H locs hw hB => ?_) | refine rs_20 hx hb hK hI hB hw (by omega) (show _ from hch) d_M_store_253 (fun H locs hw hB => ?_)
                                first | refine x_aload_n hx hb d_M_store_254 hl rfl ?_ | refine x_aload_nQ hx hb d_M_store_254 hl rfl ?_
                                first | refine lv_dup hx hb d_M_store_255 rfl ?_ | refine lv_dup hx hb d_M_store_255 (va_rf_c _) ?_
                                refine m_get (v := .int (nI (τ 16 0))) hx hb hts hown hK hw ci_M (rf_at hI 0 (by decide) rfl) 16 (by decide) (wm3 88 rfl rfl) rfl d_M_store_256 ?_
                                refine lv_iconst (v := nI 1) hx hb d_M_store_259 (by decide) ?_
                                first | refine x_iadd hx hb d_M_store_260 ?_ | refine lv_iadd hx hb d_M_store_260 ?_
                                refine rp_16 hx hb hts hown hK hI hB hw (wm3 88 rfl rfl) (by omega) d_M_store_261 (fun H locs hw hB => ?_)
                                first | refine x_aload_n hx hb d_M_store_264 hl rfl ?_ | refine x_aload_nQ hx hb d_M_store_264 hl rfl ?_
                                refine m_get hx hb hts hown hK hw ci_M (rf_at hI 0 (by decide) rfl) 15 (by decide) (wm3 87 rfl rfl) rfl d_M_store_265 ?_
                                refine x_iload_n hx hb d_M_store_268 hl rfl ?_
                                first | refine x_aload_n hx hb d_M_store_269 hl rfl ?_ | refine x_aload_nQ hx hb d_M_store_269 hl rfl ?_
                                refine m_get (v := .int (nI (τ 16 0 + 1))) hx hb hts hown hK hw ci_M (rf_at hI 0 (by decide) rfl) 16 (by decide) (wm3 88 rfl rfl) rfl d_M_store_270 ?_
                                first | refine x_i2s hx hb d_M_store_273 (by omega) ?_ | refine lv_i2s hx hb d_M_store_273 rfl ?_
                                refine rs_15 hx hb hK hI hB hw (by omega) (by omega) d_M_store_274 (fun H locs hw hB => ?_)
                                exact x_retv hQ hx hb hr hlk hw (by omega) (by omega) d_M_store_275 (by rw [hst2, st2_3 h13 h75, h3f]; exact ⟨rfl, hB⟩)
                  · have h3f := st3_t hof h147 h163
                    have hch : τ 20 (τ 15 a - 1) + 1 < 128 := by omega
                    refine lv_iconst (v := nI 1) hx hb d_M_store_166 (by decide) ?_
                    refine lv_goto hx hb d_M_store_167 rfl ?_
                    refine x_istore hx hb d_M_store_171 hl (Nat.le_of_ble_eq_true rfl) (lh_k (i := 5) rfl (by first | exact lk_n | exact lk_i | exact lk_r | exact lk_q | exact lk_0)) (fun ls hl => ?_)
                    have hS2 := hSn h13
                    first | refine x_aload_n hx hb d_M_store_173 hl rfl ?_ | refine x_aload_nQ hx hb d_M_store_173 hl rfl ?_
                    refine m_get hx hb hts hown hK hw ci_M (rf_at hI 0 (by decide) rfl) 17 (by decide) (wm3 89 rfl rfl) rfl d_M_store_174 ?_
                    first | refine x_aload_n hx hb d_M_store_177 hl rfl ?_ | refine x_aload_nQ hx hb d_M_store_177 hl rfl ?_
                    refine m_get (v := .int (nI (τ 16 0))) hx hb hts hown hK hw ci_M (rf_at hI 0 (by decide) rfl) 16 (by decide) (wm3 88 rfl rfl) rfl d_M_store_178 ?_
                    first | refine x_aload_n hx hb d_M_store_181 hl rfl ?_ | refine x_aload_nQ hx hb d_M_store_181 hl rfl ?_
                    refine m_get hx hb hts hown hK hw ci_M (rf_at hI 0 (by decide) rfl) 9 (by decide) (wm3 81 rfl rfl) rfl d_M_store_182 ?_
                    refine x_iload_n hx hb d_M_store_185 hl rfl ?_
                    refine rl_9 hx hb hK hI hw (by omega) d_M_store_186 ?_
                    refine rs_17 hx hb hK hI hB hw (by omega) d_M_store_187 (fun H locs hw hB => ?_)
                    first | refine x_aload_n hx hb d_M_store_188 hl rfl ?_ | refine x_aload_nQ hx hb d_M_store_188 hl rfl ?_
                    refine m_get hx hb hts hown hK hw ci_M (rf_at hI 0 (by decide) rfl) 18 (by decide) (wm3 90 rfl rfl) rfl d_M_store_189 ?_
                    first | refine x_aload_n hx hb d_M_store_192 hl rfl ?_ | refine x_aload_nQ hx hb d_M_store_192 hl rfl ?_
                    refine m_get (v := .int (nI (τ 16 0))) hx hb hts hown hK hw ci_M (rf_at hI 0 (by decide) rfl) 16 (by decide) (wm3 88 rfl rfl) rfl d_M_store_193 ?_
                    first | refine x_aload_n hx hb d_M_store_196 hl rfl ?_ | refine x_aload_nQ hx hb d_M_store_196 hl rfl ?_
                    refine m_get hx hb hts hown hK hw ci_M (rf_at hI 0 (by decide) rfl) 7 (by decide) (wm3 79 rfl rfl) rfl d_M_store_197 ?_
                    refine x_iload_n hx hb d_M_store_200 hl rfl ?_
                    refine rl_7 hx hb hK hI hB hw (by omega) d_M_store_201 (fun hv201 => ?_)
                    refine rs_18 hx hb hK hI hB hw (by omega) (show _ from h712 n) d_M_store_202 (fun H locs hw hB => ?_)
                    first | refine x_aload_n hx hb d_M_store_203 hl rfl ?_ | refine x_aload_nQ hx hb d_M_store_203 hl rfl ?_
                    refine m_get hx hb hts hown hK hw ci_M (rf_at hI 0 (by decide) rfl) 19 (by decide) (wm3 91 rfl rfl) rfl d_M_store_204 ?_
                    first | refine x_aload_n hx hb d_M_store_207 hl rfl ?_ | refine x_aload_nQ hx hb d_M_store_207 hl rfl ?_
                    refine m_get (v := .int (nI (τ 16 0))) hx hb hts hown hK hw ci_M (rf_at hI 0 (by decide) rfl) 16 (by decide) (wm3 88 rfl rfl) rfl d_M_store_208 ?_
                    refine x_iload hx hb d_M_store_211 hl rfl ?_
                    refine x_if_eq hx hb d_M_store_213 rfl (by omega) (fun h213 => ?_) (fun h213 => ?_)
                    · first
                        | exact absurd h213 (by omega)
                        | refine lv_iconst (v := nI 0) hx hb d_M_store_221 (by decide) ?_
                          first | refine x_i2s hx hb d_M_store_222 (by omega) ?_ | refine lv_i2s hx hb d_M_store_222 rfl ?_
                          refine rs_19 hx hb hK hI hB hw (by omega) (by omega) d_M_store_223 (fun H locs hw hB => ?_)
                          first | refine x_aload_n hx hb d_M_store_224 hl rfl ?_ | refine x_aload_nQ hx hb d_M_store_224 hl rfl ?_
                          refine m_get hx hb hts hown hK hw ci_M (rf_at hI 0 (by decide) rfl) 20 (by decide) (wm3 92 rfl rfl) rfl d_M_store_225 ?_
                          first | refine x_aload_n hx hb d_M_store_228 hl rfl ?_ | refine x_aload_nQ hx hb d_M_store_228 hl rfl ?_
                          refine m_get (v := .int (nI (τ 16 0))) hx hb hts hown hK hw ci_M (rf_at hI 0 (by decide) rfl) 16 (by decide) (wm3 88 rfl rfl) rfl d_M_store_229 ?_
                          refine x_iload hx hb d_M_store_232 hl rfl ?_
                          refine x_if_eq hx hb d_M_store_234 rfl (by omega) (fun h234 => ?_) (fun h234 => ?_)
                          · first
                              | exact absurd h234 (by omega)
                              | refine lv_iconst (v := nI 1) hx hb d_M_store_251 (by decide) ?_
                                first | refine x_i2b hx hb d_M_store_252 (by omega) ?_ | refine x_i2b hx hb d_M_store_252 (show _ from hch) ?_
                                first | refine rs_20 hx hb hK hI hB hw (by omega) (by omega) d_M_store_253 (fun H locs hw hB => ?_) | refine rs_20 hx hb hK hI hB hw (by omega) (show _ from hch) d_M_store_253 (fun H locs hw hB => ?_)
                                first | refine x_aload_n hx hb d_M_store_254 hl rfl ?_ | refine x_aload_nQ hx hb d_M_store_254 hl rfl ?_
                                first | refine lv_dup hx hb d_M_store_255 rfl ?_ | refine lv_dup hx hb d_M_store_255 (va_rf_c _) ?_
                                refine m_get (v := .int (nI (τ 16 0))) hx hb hts hown hK hw ci_M (rf_at hI 0 (by decide) rfl) 16 (by decide) (wm3 88 rfl rfl) rfl d_M_store_256 ?_
                                refine lv_iconst (v := nI 1) hx hb d_M_store_259 (by decide) ?_
                                first | refine x_iadd hx hb d_M_store_260 ?_ | refine lv_iadd hx hb d_M_store_260 ?_
                                refine rp_16 hx hb hts hown hK hI hB hw (wm3 88 rfl rfl) (by omega) d_M_store_261 (fun H locs hw hB => ?_)
                                first | refine x_aload_n hx hb d_M_store_264 hl rfl ?_ | refine x_aload_nQ hx hb d_M_store_264 hl rfl ?_
                                refine m_get hx hb hts hown hK hw ci_M (rf_at hI 0 (by decide) rfl) 15 (by decide) (wm3 87 rfl rfl) rfl d_M_store_265 ?_
                                refine x_iload_n hx hb d_M_store_268 hl rfl ?_
                                first | refine x_aload_n hx hb d_M_store_269 hl rfl ?_ | refine x_aload_nQ hx hb d_M_store_269 hl rfl ?_
                                refine m_get (v := .int (nI (τ 16 0 + 1))) hx hb hts hown hK hw ci_M (rf_at hI 0 (by decide) rfl) 16 (by decide) (wm3 88 rfl rfl) rfl d_M_store_270 ?_
                                first | refine x_i2s hx hb d_M_store_273 (by omega) ?_ | refine lv_i2s hx hb d_M_store_273 rfl ?_
                                refine rs_15 hx hb hK hI hB hw (by omega) (by omega) d_M_store_274 (fun H locs hw hB => ?_)
                                exact x_retv hQ hx hb hr hlk hw (by omega) (by omega) d_M_store_275 (by rw [hst2, st2_3 h13 h75, h3f]; exact ⟨rfl, hB⟩)
                          · first
                              | exact absurd h234 (by omega)
                              | first | refine x_aload_n hx hb d_M_store_237 hl rfl ?_ | refine x_aload_nQ hx hb d_M_store_237 hl rfl ?_
                                refine m_get hx hb hts hown hK hw ci_M (rf_at hI 0 (by decide) rfl) 20 (by decide) (wm3 92 rfl rfl) rfl d_M_store_238 ?_
                                refine x_iload hx hb d_M_store_241 hl rfl ?_
                                refine lv_iconst (v := nI 1) hx hb d_M_store_243 (by decide) ?_
                                refine x_isub hx hb d_M_store_244 (by omega) ?_
                                refine rl_20 hx hb hK hI hB hw (by omega) d_M_store_245 (fun hv245 => ?_)
                                refine lv_iconst (v := nI 1) hx hb d_M_store_246 (by decide) ?_
                                first | refine x_iadd hx hb d_M_store_247 ?_ | refine lv_iadd hx hb d_M_store_247 ?_
                                refine lv_goto hx hb d_M_store_248 rfl ?_
                                first | refine x_i2b hx hb d_M_store_252 (by omega) ?_ | refine x_i2b hx hb d_M_store_252 (show _ from hch) ?_
                                first | refine rs_20 hx hb hK hI hB hw (by omega) (by omega) d_M_store_253 (fun H locs hw hB => ?_) | refine rs_20 hx hb hK hI hB hw (by omega) (show _ from hch) d_M_store_253 (fun H locs hw hB => ?_)
                                first | refine x_aload_n hx hb d_M_store_254 hl rfl ?_ | refine x_aload_nQ hx hb d_M_store_254 hl rfl ?_
                                first | refine lv_dup hx hb d_M_store_255 rfl ?_ | refine lv_dup hx hb d_M_store_255 (va_rf_c _) ?_
                                refine m_get (v := .int (nI (τ 16 0))) hx hb hts hown hK hw ci_M (rf_at hI 0 (by decide) rfl) 16 (by decide) (wm3 88 rfl rfl) rfl d_M_store_256 ?_
                                refine lv_iconst (v := nI 1) hx hb d_M_store_259 (by decide) ?_
                                first | refine x_iadd hx hb d_M_store_260 ?_ | refine lv_iadd hx hb d_M_store_260 ?_
                                refine rp_16 hx hb hts hown hK hI hB hw (wm3 88 rfl rfl) (by omega) d_M_store_261 (fun H locs hw hB => ?_)
                                first | refine x_aload_n hx hb d_M_store_264 hl rfl ?_ | refine x_aload_nQ hx hb d_M_store_264 hl rfl ?_
                                refine m_get hx hb hts hown hK hw ci_M (rf_at hI 0 (by decide) rfl) 15 (by decide) (wm3 87 rfl rfl) rfl d_M_store_265 ?_
                                refine x_iload_n hx hb d_M_store_268 hl rfl ?_
                                first | refine x_aload_n hx hb d_M_store_269 hl rfl ?_ | refine x_aload_nQ hx hb d_M_store_269 hl rfl ?_
                                refine m_get (v := .int (nI (τ 16 0 + 1))) hx hb hts hown hK hw ci_M (rf_at hI 0 (by decide) rfl) 16 (by decide) (wm3 88 rfl rfl) rfl d_M_store_270 ?_
                                first | refine x_i2s hx hb d_M_store_273 (by omega) ?_ | refine lv_i2s hx hb d_M_store_273 rfl ?_
                                refine rs_15 hx hb hK hI hB hw (by omega) (by omega) d_M_store_274 (fun H locs hw hB => ?_)
                                exact x_retv hQ hx hb hr hlk hw (by omega) (by omega) d_M_store_275 (by rw [hst2, st2_3 h13 h75, h3f]; exact ⟨rfl, hB⟩)
                    · first
                        | exact absurd h213 (by omega)
                        | refine x_iload hx hb d_M_store_216 hl rfl ?_
                          refine lv_goto hx hb d_M_store_218 rfl ?_
                          first | refine x_i2s hx hb d_M_store_222 (by omega) ?_ | refine lv_i2s hx hb d_M_store_222 rfl ?_
                          refine rs_19 hx hb hK hI hB hw (by omega) (by omega) d_M_store_223 (fun H locs hw hB => ?_)
                          first | refine x_aload_n hx hb d_M_store_224 hl rfl ?_ | refine x_aload_nQ hx hb d_M_store_224 hl rfl ?_
                          refine m_get hx hb hts hown hK hw ci_M (rf_at hI 0 (by decide) rfl) 20 (by decide) (wm3 92 rfl rfl) rfl d_M_store_225 ?_
                          first | refine x_aload_n hx hb d_M_store_228 hl rfl ?_ | refine x_aload_nQ hx hb d_M_store_228 hl rfl ?_
                          refine m_get (v := .int (nI (τ 16 0))) hx hb hts hown hK hw ci_M (rf_at hI 0 (by decide) rfl) 16 (by decide) (wm3 88 rfl rfl) rfl d_M_store_229 ?_
                          refine x_iload hx hb d_M_store_232 hl rfl ?_
                          refine x_if_eq hx hb d_M_store_234 rfl (by omega) (fun h234 => ?_) (fun h234 => ?_)
                          · first
                              | exact absurd h234 (by omega)
                              | refine lv_iconst (v := nI 1) hx hb d_M_store_251 (by decide) ?_
                                first | refine x_i2b hx hb d_M_store_252 (by omega) ?_ | refine x_i2b hx hb d_M_store_252 (show _ from hch) ?_
                                first | refine rs_20 hx hb hK hI hB hw (by omega) (by omega) d_M_store_253 (fun H locs hw hB => ?_) | refine rs_20 hx hb hK hI hB hw (by omega) (show _ from hch) d_M_store_253 (fun H locs hw hB => ?_)
                                first | refine x_aload_n hx hb d_M_store_254 hl rfl ?_ | refine x_aload_nQ hx hb d_M_store_254 hl rfl ?_
                                first | refine lv_dup hx hb d_M_store_255 rfl ?_ | refine lv_dup hx hb d_M_store_255 (va_rf_c _) ?_
                                refine m_get (v := .int (nI (τ 16 0))) hx hb hts hown hK hw ci_M (rf_at hI 0 (by decide) rfl) 16 (by decide) (wm3 88 rfl rfl) rfl d_M_store_256 ?_
                                refine lv_iconst (v := nI 1) hx hb d_M_store_259 (by decide) ?_
                                first | refine x_iadd hx hb d_M_store_260 ?_ | refine lv_iadd hx hb d_M_store_260 ?_
                                refine rp_16 hx hb hts hown hK hI hB hw (wm3 88 rfl rfl) (by omega) d_M_store_261 (fun H locs hw hB => ?_)
                                first | refine x_aload_n hx hb d_M_store_264 hl rfl ?_ | refine x_aload_nQ hx hb d_M_store_264 hl rfl ?_
                                refine m_get hx hb hts hown hK hw ci_M (rf_at hI 0 (by decide) rfl) 15 (by decide) (wm3 87 rfl rfl) rfl d_M_store_265 ?_
                                refine x_iload_n hx hb d_M_store_268 hl rfl ?_
                                first | refine x_aload_n hx hb d_M_store_269 hl rfl ?_ | refine x_aload_nQ hx hb d_M_store_269 hl rfl ?_
                                refine m_get (v := .int (nI (τ 16 0 + 1))) hx hb hts hown hK hw ci_M (rf_at hI 0 (by decide) rfl) 16 (by decide) (wm3 88 rfl rfl) rfl d_M_store_270 ?_
                                first | refine x_i2s hx hb d_M_store_273 (by omega) ?_ | refine lv_i2s hx hb d_M_store_273 rfl ?_
                                refine rs_15 hx hb hK hI hB hw (by omega) (by omega) d_M_store_274 (fun H locs hw hB => ?_)
                                exact x_retv hQ hx hb hr hlk hw (by omega) (by omega) d_M_store_275 (by rw [hst2, st2_3 h13 h75, h3f]; exact ⟨rfl, hB⟩)
                          · first
                              | exact absurd h234 (by omega)
                              | first | refine x_aload_n hx hb d_M_store_237 hl rfl ?_ | refine x_aload_nQ hx hb d_M_store_237 hl rfl ?_
                                refine m_get hx hb hts hown hK hw ci_M (rf_at hI 0 (by decide) rfl) 20 (by decide) (wm3 92 rfl rfl) rfl d_M_store_238 ?_
                                refine x_iload hx hb d_M_store_241 hl rfl ?_
                                refine lv_iconst (v := nI 1) hx hb d_M_store_243 (by decide) ?_
                                refine x_isub hx hb d_M_store_244 (by omega) ?_
                                refine rl_20 hx hb hK hI hB hw (by omega) d_M_store_245 (fun hv245 => ?_)
                                refine lv_iconst (v := nI 1) hx hb d_M_store_246 (by decide) ?_
                                first | refine x_iadd hx hb d_M_store_247 ?_ | refine lv_iadd hx hb d_M_store_247 ?_
                                refine lv_goto hx hb d_M_store_248 rfl ?_
                                first | refine x_i2b hx hb d_M_store_252 (by omega) ?_ | refine x_i2b hx hb d_M_store_252 (show _ from hch) ?_
                                first | refine rs_20 hx hb hK hI hB hw (by omega) (by omega) d_M_store_253 (fun H locs hw hB => ?_) | refine rs_20 hx hb hK hI hB hw (by omega) (show _ from hch) d_M_store_253 (fun H locs hw hB => ?_)
                                first | refine x_aload_n hx hb d_M_store_254 hl rfl ?_ | refine x_aload_nQ hx hb d_M_store_254 hl rfl ?_
                                first | refine lv_dup hx hb d_M_store_255 rfl ?_ | refine lv_dup hx hb d_M_store_255 (va_rf_c _) ?_
                                refine m_get (v := .int (nI (τ 16 0))) hx hb hts hown hK hw ci_M (rf_at hI 0 (by decide) rfl) 16 (by decide) (wm3 88 rfl rfl) rfl d_M_store_256 ?_
                                refine lv_iconst (v := nI 1) hx hb d_M_store_259 (by decide) ?_
                                first | refine x_iadd hx hb d_M_store_260 ?_ | refine lv_iadd hx hb d_M_store_260 ?_
                                refine rp_16 hx hb hts hown hK hI hB hw (wm3 88 rfl rfl) (by omega) d_M_store_261 (fun H locs hw hB => ?_)
                                first | refine x_aload_n hx hb d_M_store_264 hl rfl ?_ | refine x_aload_nQ hx hb d_M_store_264 hl rfl ?_
                                refine m_get hx hb hts hown hK hw ci_M (rf_at hI 0 (by decide) rfl) 15 (by decide) (wm3 87 rfl rfl) rfl d_M_store_265 ?_
                                refine x_iload_n hx hb d_M_store_268 hl rfl ?_
                                first | refine x_aload_n hx hb d_M_store_269 hl rfl ?_ | refine x_aload_nQ hx hb d_M_store_269 hl rfl ?_
                                refine m_get (v := .int (nI (τ 16 0 + 1))) hx hb hts hown hK hw ci_M (rf_at hI 0 (by decide) rfl) 16 (by decide) (wm3 88 rfl rfl) rfl d_M_store_270 ?_
                                first | refine x_i2s hx hb d_M_store_273 (by omega) ?_ | refine lv_i2s hx hb d_M_store_273 rfl ?_
                                refine rs_15 hx hb hK hI hB hw (by omega) (by omega) d_M_store_274 (fun H locs hw hB => ?_)
                                exact x_retv hQ hx hb hr hlk hw (by omega) (by omega) d_M_store_275 (by rw [hst2, st2_3 h13 h75, h3f]; exact ⟨rfl, hB⟩)
      · exact absurd h99 (by omega)
    | succ u ih =>
      intro k a H locs ls hku ha13 hw hl hT h13 h75
      refine x_iload hx hb d_M_store_96 hl rfl ?_
      refine x_iload_n hx hb d_M_store_98 hl rfl ?_
      refine x_icmp_ge hx hb d_M_store_99 rfl (by omega) (by omega) (fun h99 => ?_) (fun h99 => ?_)
      · exact absurd h99 (by omega)
      · first | refine x_aload_n hx hb d_M_store_102 hl rfl ?_ | refine x_aload_nQ hx hb d_M_store_102 hl rfl ?_
        refine m_get hx hb hts hown hK hw ci_M (rf_at hI 0 (by decide) rfl) 13 (by decide) (wm3 85 rfl rfl) rfl d_M_store_103 ?_
        refine x_iload hx hb d_M_store_106 hl rfl ?_
        refine rl_13 hx hb hK hI hB hw (by omega) d_M_store_108 (fun hv108 => ?_)
        refine x_istore hx hb d_M_store_109 hl (Nat.le_of_ble_eq_true rfl) (lh_k (i := 3) rfl (by first | exact lk_n | exact lk_i | exact lk_r | exact lk_q | exact lk_0)) (fun ls hl => ?_)
        refine x_iincN hx hb d_M_store_111 hl rfl (lh_k (i := 4) rfl (by first | exact lk_n | exact lk_i | exact lk_r | exact lk_q | exact lk_0)) (fun ls hl => ?_)
        refine lv_goto hx hb d_M_store_114 rfl ?_
        exact ih (k + 1) _ H locs ls (by omega) (h1300 _) hw hl hT h13 h75
  have loop1 : ∀ (u k : Nat) (H : Heap) (locs : List Loc) (ls : Array Slot), k + u = τ 16 0 → mw E.1 vwCl A s.heap (rfM E τ ad) H locs → lh ls [some (.ref (ad 0)), some (.int (nI n)), some (.int (nI k)), none, none, none, none] → eqf τ n u k = eqf τ n (τ 16 0) 0 → τ 7 n ≠ 0 → W p l e R s m ag below meth c H locs 0 0 Q (F0 m 19 ls []) := by
    intro u
    induction u with
    | zero =>
      intro k H locs ls hku hw hl hT h13
      refine x_iload_n hx hb d_M_store_19 hl rfl ?_
      first | refine x_aload_n hx hb d_M_store_20 hl rfl ?_ | refine x_aload_nQ hx hb d_M_store_20 hl rfl ?_
      refine m_get (v := .int (nI (τ 16 0))) hx hb hts hown hK hw ci_M (rf_at hI 0 (by decide) rfl) 16 (by decide) (wm3 88 rfl rfl) rfl d_M_store_21 ?_
      refine x_icmp_ge hx hb d_M_store_24 rfl (by omega) (by omega) (fun h24 => ?_) (fun h24 => ?_)
      · have h75 : eqf τ n (τ 16 0) 0 = τ 16 0 := by rw [← hT]; show k = _; omega
        first | refine x_aload_n hx hb d_M_store_75 hl rfl ?_ | refine x_aload_nQ hx hb d_M_store_75 hl rfl ?_
        refine m_get hx hb hts hown hK hw ci_M (rf_at hI 0 (by decide) rfl) 11 (by decide) (wm3 83 rfl rfl) rfl d_M_store_76 ?_
        refine x_iload_n hx hb d_M_store_79 hl rfl ?_
        refine rl_11 hx hb hK hI hB hw (by omega) d_M_store_80 (fun hv80 => ?_)
        refine x_istore_n hx hb d_M_store_81 hl (Nat.le_of_ble_eq_true rfl) (lh_k (i := 1) rfl (by first | exact lk_n | exact lk_i | exact lk_r | exact lk_q | exact lk_0)) (fun ls hl => ?_)
        refine x_iload_n hx hb d_M_store_82 hl rfl ?_
        refine x_iload_n hx hb d_M_store_83 hl rfl ?_
        refine x_iload_n hx hb d_M_store_84 hl rfl ?_
        refine lv_iconst (v := nI 1) hx hb d_M_store_85 (by decide) ?_
        rcases Nat.eq_zero_or_pos (τ 11 n) with hz | hz
        · refine lv_isub hx hb d_M_store_86 ?_
          rw [hz, show nI 0 - nI 1 = (-1 : Int32) by decide]
          first | (refine lv_iand hx hb d_M_store_87 ?_; rw [show nI 0 &&& (-1 : Int32) = nI 0 by decide]) | (refine lv_iand hx hb d_M_store_87 ?_; rw [nx_nd])
          have hle : τ 11 n &&& (τ 11 n - 1) ≤ τ 11 n := Nat.and_le_left
          first | (rw [hz] at hle; refine x_isub hx hb d_M_store_88 (by omega) ?_) | refine x_isub hx hb d_M_store_88 (by omega) ?_
          refine x_istore_n hx hb d_M_store_89 hl (Nat.le_of_ble_eq_true rfl) (lh_k (i := 2) rfl (by first | exact lk_n | exact lk_i | exact lk_r | exact lk_q | exact lk_0)) (fun ls hl => ?_)
          refine x_iload_n hx hb d_M_store_90 hl rfl ?_
          refine x_istore hx hb d_M_store_91 hl (Nat.le_of_ble_eq_true rfl) (lh_k (i := 3) rfl (by first | exact lk_n | exact lk_i | exact lk_r | exact lk_q | exact lk_0)) (fun ls hl => ?_)
          refine lv_iconst (v := nI 0) hx hb d_M_store_93 (by decide) ?_
          refine x_istore hx hb d_M_store_94 hl (Nat.le_of_ble_eq_true rfl) (lh_k (i := 4) rfl (by first | exact lk_n | exact lk_i | exact lk_r | exact lk_q | exact lk_0)) (fun ls hl => ?_)
          first | exact loop2 (frb (τ 11 n)) 0 n _ _ _ (by omega) hn hw hl rfl h13 h75 | (have hl2 : lh ls [some (.ref (ad 0)), some (.int (nI n)), some (.int (nI (τ 11 n))), some (.int (nI (frb (τ 11 n)))), some (.int (nI n)), some (.int (nI 0)), none] := (by rw [hz, frb_0]; rw [hz] at hl; exact hl); exact loop2 (frb (τ 11 n)) 0 n _ _ _ (by omega) hn hw hl2 rfl h13 h75)
        · refine x_isub hx hb d_M_store_86 (by omega) ?_
          first | (refine lv_iand hx hb d_M_store_87 ?_; rw [show nI 0 &&& (-1 : Int32) = nI 0 by decide]) | (refine lv_iand hx hb d_M_store_87 ?_; rw [nx_nd])
          have hle : τ 11 n &&& (τ 11 n - 1) ≤ τ 11 n := Nat.and_le_left
          first | (rw [hz] at hle; refine x_isub hx hb d_M_store_88 (by omega) ?_) | refine x_isub hx hb d_M_store_88 (by omega) ?_
          refine x_istore_n hx hb d_M_store_89 hl (Nat.le_of_ble_eq_true rfl) (lh_k (i := 2) rfl (by first | exact lk_n | exact lk_i | exact lk_r | exact lk_q | exact lk_0)) (fun ls hl => ?_)
          refine x_iload_n hx hb d_M_store_90 hl rfl ?_
          refine x_istore hx hb d_M_store_91 hl (Nat.le_of_ble_eq_true rfl) (lh_k (i := 3) rfl (by first | exact lk_n | exact lk_i | exact lk_r | exact lk_q | exact lk_0)) (fun ls hl => ?_)
          refine lv_iconst (v := nI 0) hx hb d_M_store_93 (by decide) ?_
          refine x_istore hx hb d_M_store_94 hl (Nat.le_of_ble_eq_true rfl) (lh_k (i := 4) rfl (by first | exact lk_n | exact lk_i | exact lk_r | exact lk_q | exact lk_0)) (fun ls hl => ?_)
          first | exact loop2 (frb (τ 11 n)) 0 n _ _ _ (by omega) hn hw hl rfl h13 h75 | (have hl2 : lh ls [some (.ref (ad 0)), some (.int (nI n)), some (.int (nI (τ 11 n))), some (.int (nI (frb (τ 11 n)))), some (.int (nI n)), some (.int (nI 0)), none] := (by rw [hz, frb_0]; rw [hz] at hl; exact hl); exact loop2 (frb (τ 11 n)) 0 n _ _ _ (by omega) hn hw hl2 rfl h13 h75)
      · exact absurd h24 (by omega)
    | succ u ih =>
      intro k H locs ls hku hw hl hT h13
      refine x_iload_n hx hb d_M_store_19 hl rfl ?_
      first | refine x_aload_n hx hb d_M_store_20 hl rfl ?_ | refine x_aload_nQ hx hb d_M_store_20 hl rfl ?_
      refine m_get (v := .int (nI (τ 16 0))) hx hb hts hown hK hw ci_M (rf_at hI 0 (by decide) rfl) 16 (by decide) (wm3 88 rfl rfl) rfl d_M_store_21 ?_
      refine x_icmp_ge hx hb d_M_store_24 rfl (by omega) (by omega) (fun h24 => ?_) (fun h24 => ?_)
      · exact absurd h24 (by omega)
      · first | refine x_aload_n hx hb d_M_store_27 hl rfl ?_ | refine x_aload_nQ hx hb d_M_store_27 hl rfl ?_
        refine m_get hx hb hts hown hK hw ci_M (rf_at hI 0 (by decide) rfl) 18 (by decide) (wm3 90 rfl rfl) rfl d_M_store_28 ?_
        refine x_iload_n hx hb d_M_store_31 hl rfl ?_
        refine rl_18 hx hb hK hI hB hw (by omega) d_M_store_32 (fun hv32 => ?_)
        first | refine x_aload_n hx hb d_M_store_33 hl rfl ?_ | refine x_aload_nQ hx hb d_M_store_33 hl rfl ?_
        refine m_get hx hb hts hown hK hw ci_M (rf_at hI 0 (by decide) rfl) 7 (by decide) (wm3 79 rfl rfl) rfl d_M_store_34 ?_
        refine x_iload_n hx hb d_M_store_37 hl rfl ?_
        refine rl_7 hx hb hK hI hB hw (by omega) d_M_store_38 (fun hv38 => ?_)
        refine x_icmp_ne hx hb d_M_store_39 rfl (by omega) (by omega) (fun h39 => ?_) (fun h39 => ?_)
        · have hT2 : eqf τ n u (k + 1) = eqf τ n (τ 16 0) 0 := by rw [← hT]; exact (if_neg (fun z => h39 z.1)).symm
          refine x_iincN hx hb d_M_store_69 hl rfl (lh_k (i := 1) rfl (by first | exact lk_n | exact lk_i | exact lk_r | exact lk_q | exact lk_0)) (fun ls hl => ?_)
          refine lv_goto hx hb d_M_store_72 rfl ?_
          exact ih (k + 1) H locs ls (by omega) hw hl hT2 h13
        · first | refine x_aload_n hx hb d_M_store_42 hl rfl ?_ | refine x_aload_nQ hx hb d_M_store_42 hl rfl ?_
          refine m_get hx hb hts hown hK hw ci_M (rf_at hI 0 (by decide) rfl) 17 (by decide) (wm3 89 rfl rfl) rfl d_M_store_43 ?_
          refine x_iload_n hx hb d_M_store_46 hl rfl ?_
          refine rl_17 hx hb hK hI hw (by omega) d_M_store_47 ?_
          first | refine x_aload_n hx hb d_M_store_48 hl rfl ?_ | refine x_aload_nQ hx hb d_M_store_48 hl rfl ?_
          refine m_get hx hb hts hown hK hw ci_M (rf_at hI 0 (by decide) rfl) 9 (by decide) (wm3 81 rfl rfl) rfl d_M_store_49 ?_
          refine x_iload_n hx hb d_M_store_52 hl rfl ?_
          refine rl_9 hx hb hK hI hw (by omega) d_M_store_53 ?_
          refine W.lcmp hx hb d_M_store_54 ?_
          refine lv_if_ne hx hb d_M_store_55 rfl (fun h55 => ?_) (fun h55 => ?_)
          · have h55 := fun z => h55 ((cmp_eq (by have := hX17 k; omega) (by have := hX9 n; omega)).mpr z)
            have hT2 : eqf τ n u (k + 1) = eqf τ n (τ 16 0) 0 := by rw [← hT]; exact (if_neg (fun z => h55 z.2)).symm
            refine x_iincN hx hb d_M_store_69 hl rfl (lh_k (i := 1) rfl (by first | exact lk_n | exact lk_i | exact lk_r | exact lk_q | exact lk_0)) (fun ls hl => ?_)
            refine lv_goto hx hb d_M_store_72 rfl ?_
            exact ih (k + 1) H locs ls (by omega) hw hl hT2 h13
          · have h55 := (cmp_eq (by have := hX17 k; omega) (by have := hX9 n; omega)).mp h55
            have hT2 : eqf τ n (τ 16 0) 0 = k := by rw [← hT]; exact if_pos ⟨h39, h55⟩
            first | refine x_aload_n hx hb d_M_store_58 hl rfl ?_ | refine x_aload_nQ hx hb d_M_store_58 hl rfl ?_
            refine m_get hx hb hts hown hK hw ci_M (rf_at hI 0 (by decide) rfl) 15 (by decide) (wm3 87 rfl rfl) rfl d_M_store_59 ?_
            refine x_iload_n hx hb d_M_store_62 hl rfl ?_
            refine x_iload_n hx hb d_M_store_63 hl rfl ?_
            refine lv_iconst (v := nI 1) hx hb d_M_store_64 (by decide) ?_
            first | refine x_iadd hx hb d_M_store_65 ?_ | refine lv_iadd hx hb d_M_store_65 ?_
            first | refine x_i2s hx hb d_M_store_66 (by omega) ?_ | refine lv_i2s hx hb d_M_store_66 rfl ?_
            refine rs_15 hx hb hK hI hB hw (by omega) (by omega) d_M_store_67 (fun H locs hw hB => ?_)
            exact x_retv hQ hx hb hr hlk hw (by omega) (by omega) d_M_store_68 (by rw [hst2, st2_1 h13 hT2 (by omega)]; exact ⟨rfl, hB⟩)
  first | refine x_aload_n hx hb d_M_store_7 hl rfl ?_ | refine x_aload_nQ hx hb d_M_store_7 hl rfl ?_
  refine m_get hx hb hts hown hK hw ci_M (rf_at hI 0 (by decide) rfl) 7 (by decide) (wm3 79 rfl rfl) rfl d_M_store_8 ?_
  refine x_iload_n hx hb d_M_store_11 hl rfl ?_
  refine rl_7 hx hb hK hI hB hw (by omega) d_M_store_12 (fun hv12 => ?_)
  refine x_if_ne hx hb d_M_store_13 rfl (by omega) (fun h13 => ?_) (fun h13 => ?_)
  · refine lv_iconst (v := nI 0) hx hb d_M_store_17 (by decide) ?_
    refine x_istore_n hx hb d_M_store_18 hl (Nat.le_of_ble_eq_true rfl) (lh_k (i := 1) rfl (by first | exact lk_n | exact lk_i | exact lk_r | exact lk_q | exact lk_0)) (fun ls hl => ?_)
    exact loop1 (τ 16 0) 0 _ _ _ (by omega) hw hl rfl h13
  · exact x_retv hQ hx hb hr hlk hw (by omega) (by omega) d_M_store_16 (by rw [hst2, st2_0 h13]; exact ⟨rfl, hB⟩)
end
section
/-! the merging loops, as functions of the state: the state and the path of a conflict, 125 without one -/
section MG
def mg3 (t p : Nat) (d : Bool) : Nat → SS → SS × Nat
  | 0, τ => (τ, 125)
  | n + 1, τ => if wy τ t (p + 25 * (5 - (n + 1))) = 3 then (τ, p + 25 * (5 - (n + 1))) else mg3 t p d n (stl τ t (p + 25 * (5 - (n + 1))) (wy τ t (p + 25 * (5 - (n + 1)))) d)
def md3 (t p : Nat) (d : Bool) (τ : SS) : SS × Nat := if wy τ t p = 2 then mg3 t p d 4 (stl τ t p (wy τ t p) d) else (stl τ t p (wy τ t p) d, 125)
def mg2 (t o : Nat) (d : Bool) : Nat → SS → SS × Nat
  | 0, τ => (τ, 125)
  | n + 1, τ => if wy τ t (o + 5 * (5 - (n + 1))) = 3 then (τ, o + 5 * (5 - (n + 1))) else if (md3 t (o + 5 * (5 - (n + 1))) d τ).2 = 125 then mg2 t o d n (md3 t (o + 5 * (5 - (n + 1))) d τ).1 else md3 t (o + 5 * (5 - (n + 1))) d τ
def md2 (t o : Nat) (d : Bool) (τ : SS) : SS × Nat := if wy τ t o = 2 then mg2 t o d 4 (stl τ t o (wy τ t o) d) else (stl τ t o (wy τ t o) d, 125)
def mg1 (t : Nat) (d : Bool) : Nat → SS → SS × Nat
  | 0, τ => (τ, 125)
  | n + 1, τ => if wy τ t (5 - (n + 1)) = 3 then (τ, 5 - (n + 1)) else if (md2 t (5 - (n + 1)) d τ).2 = 125 then mg1 t d n (md2 t (5 - (n + 1)) d τ).1 else md2 t (5 - (n + 1)) d τ
def mI (r : Nat) : Int32 := if r = 125 then -1 else nI r
theorem mI_n {r : Nat} (h : r ≠ 125) : mI r = nI r := if_neg h
def MJ (τ : SS) (t k : Nat) : Prop := rB τ ∧ (∀ j, τ 0 j < 1300) ∧ τ 1 0 ≤ 15 ∧ τ 3 t ≤ 15 ∧ ∀ n, τ 11 n ≤ k
theorem MJ_up {τ : SS} {t k k' : Nat} (h : MJ τ t k) (hk : k ≤ k') : MJ τ t k' := ⟨h.1, h.2.1, h.2.2.1, h.2.2.2.1, fun n => Nat.le_trans (h.2.2.2.2 n) hk⟩
theorem MJ_tkn {τ : SS} {t q k : Nat} (h : MJ τ t k) : MJ (tkn τ t q 125) t k := by
  refine ⟨rB_rng (fun _ => h.1 0 _ (by decide) (by decide)) h.1, fun j => ?_, h.2.2.1, h.2.2.2.1, h.2.2.2.2⟩
  show (if 2000 + 125 * t ≤ j ∧ j < 2000 + 125 * t + 125 ∧ (pgb (j - (2000 + 125 * t)) && pun (j - (2000 + 125 * t)) q) = true then τ 0 (125 * τ 1 0 + (j - (2000 + 125 * t))) else τ 0 j) < 1300
  split <;> exact h.2.1 _
theorem MJ_jn {τ : SS} {t q k : Nat} (hk : k < 32000) (h : MJ τ t k) : MJ (jn τ t q) t (k + 1) := by
  have h1 := h.2.1 (125 * τ 1 0 + q)
  have h2 := h.2.2.2.2 (τ 0 (125 * τ 1 0 + q))
  refine ⟨rB_sp (rB_sp h.1 (by omega)) (by omega), h.2.1, h.2.2.1, h.2.2.2.1, fun n => ?_⟩
  unfold jn
  rw [sp_at]
  split
  · omega
  · have := h.2.2.2.2 n
    show τ 11 n ≤ k + 1
    omega
theorem MJ_stl {τ : SS} {t q w k : Nat} {d : Bool} (hk : k < 32000) (h : MJ τ t k) : MJ (stl τ t q w d) t (k + 1) := by
  unfold stl
  split
  · split
    · exact MJ_up (MJ_tkn h) (by omega)
    · split
      · exact MJ_jn hk h
      · exact MJ_up h (by omega)
  · exact MJ_up h (by omega)
theorem MJ_3 {t p : Nat} {d : Bool} : ∀ (n k : Nat) (τ : SS), k + n < 32000 → MJ τ t k → MJ (mg3 t p d n τ).1 t (k + n)
  | 0, k, τ, _, h => h
  | n + 1, k, τ, hk, h => by
    unfold mg3
    split
    · exact MJ_up h (by omega)
    · exact MJ_up (MJ_3 n (k + 1) _ (by omega) (MJ_stl (by omega) h)) (by omega)
theorem MJ_d3 {t p k : Nat} {d : Bool} {τ : SS} (hk : k < 31000) (h : MJ τ t k) : MJ (md3 t p d τ).1 t (k + 5) := by
  unfold md3
  split
  · exact MJ_up (MJ_3 4 (k + 1) _ (by omega) (MJ_stl (by omega) h)) (by omega)
  · exact MJ_up (MJ_stl (by omega) h) (by omega)
theorem MJ_2 {t o : Nat} {d : Bool} : ∀ (n k : Nat) (τ : SS), k + 5 * n < 30000 → MJ τ t k → MJ (mg2 t o d n τ).1 t (k + 5 * n)
  | 0, k, τ, _, h => h
  | n + 1, k, τ, hk, h => by
    unfold mg2
    split
    · exact MJ_up h (by omega)
    · split
      · exact MJ_up (MJ_2 n (k + 5) _ (by omega) (MJ_d3 (by omega) h)) (by omega)
      · exact MJ_up (MJ_d3 (by omega) h) (by omega)
theorem MJ_d2 {t o k : Nat} {d : Bool} {τ : SS} (hk : k < 29000) (h : MJ τ t k) : MJ (md2 t o d τ).1 t (k + 21) := by
  unfold md2
  split
  · exact MJ_up (MJ_2 4 (k + 1) _ (by omega) (MJ_stl (by omega) h)) (by omega)
  · exact MJ_up (MJ_stl (by omega) h) (by omega)
theorem MJ_1 {t : Nat} {d : Bool} : ∀ (n k : Nat) (τ : SS), k + 21 * n < 28000 → MJ τ t k → MJ (mg1 t d n τ).1 t (k + 21 * n)
  | 0, k, τ, _, h => h
  | n + 1, k, τ, hk, h => by
    unfold mg1
    split
    · exact MJ_up h (by omega)
    · split
      · exact MJ_up (MJ_1 n (k + 21) _ (by omega) (MJ_d2 (by omega) h)) (by omega)
      · exact MJ_up (MJ_d2 (by omega) h) (by omega)
theorem mg3_c {t p n : Nat} {d : Bool} {τ : SS} (h : wy τ t (p + 25 * (5 - (n + 1))) = 3) : mg3 t p d (n + 1) τ = (τ, p + 25 * (5 - (n + 1))) := if_pos h
theorem mg3_g {t p n : Nat} {d : Bool} {τ : SS} (h : wy τ t (p + 25 * (5 - (n + 1))) ≠ 3) : mg3 t p d (n + 1) τ = mg3 t p d n (stl τ t (p + 25 * (5 - (n + 1))) (wy τ t (p + 25 * (5 - (n + 1)))) d) := if_neg h
theorem md3_2 {t p : Nat} {d : Bool} {τ : SS} (h : wy τ t p = 2) : md3 t p d τ = mg3 t p d 4 (stl τ t p (wy τ t p) d) := if_pos h
theorem md3_n {t p : Nat} {d : Bool} {τ : SS} (h : wy τ t p ≠ 2) : md3 t p d τ = (stl τ t p (wy τ t p) d, 125) := if_neg h
theorem mg2_c {t o n : Nat} {d : Bool} {τ : SS} (h : wy τ t (o + 5 * (5 - (n + 1))) = 3) : mg2 t o d (n + 1) τ = (τ, o + 5 * (5 - (n + 1))) := if_pos h
theorem mg2_g {t o n : Nat} {d : Bool} {τ : SS} (h : wy τ t (o + 5 * (5 - (n + 1))) ≠ 3) (h2 : (md3 t (o + 5 * (5 - (n + 1))) d τ).2 = 125) : mg2 t o d (n + 1) τ = mg2 t o d n (md3 t (o + 5 * (5 - (n + 1))) d τ).1 := by
  show (if _ then _ else _) = _
  rw [if_neg h, if_pos h2]
theorem mg2_d {t o n : Nat} {d : Bool} {τ : SS} (h : wy τ t (o + 5 * (5 - (n + 1))) ≠ 3) (h2 : (md3 t (o + 5 * (5 - (n + 1))) d τ).2 ≠ 125) : mg2 t o d (n + 1) τ = md3 t (o + 5 * (5 - (n + 1))) d τ := by
  show (if _ then _ else _) = _
  rw [if_neg h, if_neg h2]
theorem md2_2 {t o : Nat} {d : Bool} {τ : SS} (h : wy τ t o = 2) : md2 t o d τ = mg2 t o d 4 (stl τ t o (wy τ t o) d) := if_pos h
theorem md2_n {t o : Nat} {d : Bool} {τ : SS} (h : wy τ t o ≠ 2) : md2 t o d τ = (stl τ t o (wy τ t o) d, 125) := if_neg h
theorem mg1_c {t n : Nat} {d : Bool} {τ : SS} (h : wy τ t (5 - (n + 1)) = 3) : mg1 t d (n + 1) τ = (τ, 5 - (n + 1)) := if_pos h
theorem mg1_g {t n : Nat} {d : Bool} {τ : SS} (h : wy τ t (5 - (n + 1)) ≠ 3) (h2 : (md2 t (5 - (n + 1)) d τ).2 = 125) : mg1 t d (n + 1) τ = mg1 t d n (md2 t (5 - (n + 1)) d τ).1 := by
  show (if _ then _ else _) = _
  rw [if_neg h, if_pos h2]
theorem mg1_d {t n : Nat} {d : Bool} {τ : SS} (h : wy τ t (5 - (n + 1)) ≠ 3) (h2 : (md2 t (5 - (n + 1)) d τ).2 ≠ 125) : mg1 t d (n + 1) τ = md2 t (5 - (n + 1)) d τ := by
  show (if _ then _ else _) = _
  rw [if_neg h, if_neg h2]
end MG
end
section
theorem d_M_merge_0 : decode prog_10_method_25_code 0 = .ok (.iconst 1, 1) := by decide +kernel
theorem d_M_merge_1 : decode prog_10_method_25_code 1 = .ok (.istore_n 3, 1) := by decide +kernel
theorem d_M_merge_2 : decode prog_10_method_25_code 2 = .ok (.iload_n 3, 1) := by decide +kernel
theorem d_M_merge_3 : decode prog_10_method_25_code 3 = .ok (.iconst 5, 1) := by decide +kernel
theorem d_M_merge_4 : decode prog_10_method_25_code 4 = .ok (.if_icmp .ge 150, 3) := by decide +kernel
theorem d_M_merge_7 : decode prog_10_method_25_code 7 = .ok (.aload_n 0, 1) := by decide +kernel
theorem d_M_merge_8 : decode prog_10_method_25_code 8 = .ok (.iload_n 1, 1) := by decide +kernel
theorem d_M_merge_9 : decode prog_10_method_25_code 9 = .ok (.iload_n 3, 1) := by decide +kernel
theorem d_M_merge_10 : decode prog_10_method_25_code 10 = .ok (.invokevirtual 127, 3) := by decide +kernel
theorem d_M_merge_13 : decode prog_10_method_25_code 13 = .ok (.istore 4, 2) := by decide +kernel
theorem d_M_merge_15 : decode prog_10_method_25_code 15 = .ok (.iload 4, 2) := by decide +kernel
theorem d_M_merge_17 : decode prog_10_method_25_code 17 = .ok (.iconst 3, 1) := by decide +kernel
theorem d_M_merge_18 : decode prog_10_method_25_code 18 = .ok (.if_icmp .ne 5, 3) := by decide +kernel
theorem d_M_merge_21 : decode prog_10_method_25_code 21 = .ok (.iload_n 3, 1) := by decide +kernel
theorem d_M_merge_22 : decode prog_10_method_25_code 22 = .ok (.ireturn, 1) := by decide +kernel
theorem d_M_merge_23 : decode prog_10_method_25_code 23 = .ok (.aload_n 0, 1) := by decide +kernel
theorem d_M_merge_24 : decode prog_10_method_25_code 24 = .ok (.iload_n 1, 1) := by decide +kernel
theorem d_M_merge_25 : decode prog_10_method_25_code 25 = .ok (.iload_n 3, 1) := by decide +kernel
theorem d_M_merge_26 : decode prog_10_method_25_code 26 = .ok (.iload 4, 2) := by decide +kernel
theorem d_M_merge_28 : decode prog_10_method_25_code 28 = .ok (.iload_n 2, 1) := by decide +kernel
theorem d_M_merge_29 : decode prog_10_method_25_code 29 = .ok (.invokevirtual 130, 3) := by decide +kernel
theorem d_M_merge_32 : decode prog_10_method_25_code 32 = .ok (.iconst 1, 1) := by decide +kernel
theorem d_M_merge_33 : decode prog_10_method_25_code 33 = .ok (.istore 5, 2) := by decide +kernel
theorem d_M_merge_35 : decode prog_10_method_25_code 35 = .ok (.iload 5, 2) := by decide +kernel
theorem d_M_merge_37 : decode prog_10_method_25_code 37 = .ok (.iconst 5, 1) := by decide +kernel
theorem d_M_merge_38 : decode prog_10_method_25_code 38 = .ok (.if_icmp .ge 110, 3) := by decide +kernel
theorem d_M_merge_41 : decode prog_10_method_25_code 41 = .ok (.iload 4, 2) := by decide +kernel
theorem d_M_merge_43 : decode prog_10_method_25_code 43 = .ok (.iconst 2, 1) := by decide +kernel
theorem d_M_merge_44 : decode prog_10_method_25_code 44 = .ok (.if_icmp .ne 104, 3) := by decide +kernel
theorem d_M_merge_47 : decode prog_10_method_25_code 47 = .ok (.iload_n 3, 1) := by decide +kernel
theorem d_M_merge_48 : decode prog_10_method_25_code 48 = .ok (.iconst 5, 1) := by decide +kernel
theorem d_M_merge_49 : decode prog_10_method_25_code 49 = .ok (.iload 5, 2) := by decide +kernel
theorem d_M_merge_51 : decode prog_10_method_25_code 51 = .ok (.imul, 1) := by decide +kernel
theorem d_M_merge_52 : decode prog_10_method_25_code 52 = .ok (.iadd, 1) := by decide +kernel
theorem d_M_merge_53 : decode prog_10_method_25_code 53 = .ok (.istore 6, 2) := by decide +kernel
theorem d_M_merge_55 : decode prog_10_method_25_code 55 = .ok (.aload_n 0, 1) := by decide +kernel
theorem d_M_merge_56 : decode prog_10_method_25_code 56 = .ok (.iload_n 1, 1) := by decide +kernel
theorem d_M_merge_57 : decode prog_10_method_25_code 57 = .ok (.iload 6, 2) := by decide +kernel
theorem d_M_merge_59 : decode prog_10_method_25_code 59 = .ok (.invokevirtual 127, 3) := by decide +kernel
theorem d_M_merge_62 : decode prog_10_method_25_code 62 = .ok (.istore 7, 2) := by decide +kernel
theorem d_M_merge_64 : decode prog_10_method_25_code 64 = .ok (.iload 7, 2) := by decide +kernel
theorem d_M_merge_66 : decode prog_10_method_25_code 66 = .ok (.iconst 3, 1) := by decide +kernel
theorem d_M_merge_67 : decode prog_10_method_25_code 67 = .ok (.if_icmp .ne 6, 3) := by decide +kernel
theorem d_M_merge_70 : decode prog_10_method_25_code 70 = .ok (.iload 6, 2) := by decide +kernel
theorem d_M_merge_72 : decode prog_10_method_25_code 72 = .ok (.ireturn, 1) := by decide +kernel
theorem d_M_merge_73 : decode prog_10_method_25_code 73 = .ok (.aload_n 0, 1) := by decide +kernel
theorem d_M_merge_74 : decode prog_10_method_25_code 74 = .ok (.iload_n 1, 1) := by decide +kernel
theorem d_M_merge_75 : decode prog_10_method_25_code 75 = .ok (.iload 6, 2) := by decide +kernel
theorem d_M_merge_77 : decode prog_10_method_25_code 77 = .ok (.iload 7, 2) := by decide +kernel
theorem d_M_merge_79 : decode prog_10_method_25_code 79 = .ok (.iload_n 2, 1) := by decide +kernel
theorem d_M_merge_80 : decode prog_10_method_25_code 80 = .ok (.invokevirtual 130, 3) := by decide +kernel
theorem d_M_merge_83 : decode prog_10_method_25_code 83 = .ok (.iconst 1, 1) := by decide +kernel
theorem d_M_merge_84 : decode prog_10_method_25_code 84 = .ok (.istore 8, 2) := by decide +kernel
theorem d_M_merge_86 : decode prog_10_method_25_code 86 = .ok (.iload 8, 2) := by decide +kernel
theorem d_M_merge_88 : decode prog_10_method_25_code 88 = .ok (.iconst 5, 1) := by decide +kernel
theorem d_M_merge_89 : decode prog_10_method_25_code 89 = .ok (.if_icmp .ge 53, 3) := by decide +kernel
theorem d_M_merge_92 : decode prog_10_method_25_code 92 = .ok (.iload 7, 2) := by decide +kernel
theorem d_M_merge_94 : decode prog_10_method_25_code 94 = .ok (.iconst 2, 1) := by decide +kernel
theorem d_M_merge_95 : decode prog_10_method_25_code 95 = .ok (.if_icmp .ne 47, 3) := by decide +kernel
theorem d_M_merge_98 : decode prog_10_method_25_code 98 = .ok (.iload 6, 2) := by decide +kernel
theorem d_M_merge_100 : decode prog_10_method_25_code 100 = .ok (.bipush 25, 2) := by decide +kernel
theorem d_M_merge_102 : decode prog_10_method_25_code 102 = .ok (.iload 8, 2) := by decide +kernel
theorem d_M_merge_104 : decode prog_10_method_25_code 104 = .ok (.imul, 1) := by decide +kernel
theorem d_M_merge_105 : decode prog_10_method_25_code 105 = .ok (.iadd, 1) := by decide +kernel
theorem d_M_merge_106 : decode prog_10_method_25_code 106 = .ok (.istore 9, 2) := by decide +kernel
theorem d_M_merge_108 : decode prog_10_method_25_code 108 = .ok (.aload_n 0, 1) := by decide +kernel
theorem d_M_merge_109 : decode prog_10_method_25_code 109 = .ok (.iload_n 1, 1) := by decide +kernel
theorem d_M_merge_110 : decode prog_10_method_25_code 110 = .ok (.iload 9, 2) := by decide +kernel
theorem d_M_merge_112 : decode prog_10_method_25_code 112 = .ok (.invokevirtual 127, 3) := by decide +kernel
theorem d_M_merge_115 : decode prog_10_method_25_code 115 = .ok (.istore 10, 2) := by decide +kernel
theorem d_M_merge_117 : decode prog_10_method_25_code 117 = .ok (.iload 10, 2) := by decide +kernel
theorem d_M_merge_119 : decode prog_10_method_25_code 119 = .ok (.iconst 3, 1) := by decide +kernel
theorem d_M_merge_120 : decode prog_10_method_25_code 120 = .ok (.if_icmp .ne 6, 3) := by decide +kernel
theorem d_M_merge_123 : decode prog_10_method_25_code 123 = .ok (.iload 9, 2) := by decide +kernel
theorem d_M_merge_125 : decode prog_10_method_25_code 125 = .ok (.ireturn, 1) := by decide +kernel
theorem d_M_merge_126 : decode prog_10_method_25_code 126 = .ok (.aload_n 0, 1) := by decide +kernel
theorem d_M_merge_127 : decode prog_10_method_25_code 127 = .ok (.iload_n 1, 1) := by decide +kernel
theorem d_M_merge_128 : decode prog_10_method_25_code 128 = .ok (.iload 9, 2) := by decide +kernel
theorem d_M_merge_130 : decode prog_10_method_25_code 130 = .ok (.iload 10, 2) := by decide +kernel
theorem d_M_merge_132 : decode prog_10_method_25_code 132 = .ok (.iload_n 2, 1) := by decide +kernel
theorem d_M_merge_133 : decode prog_10_method_25_code 133 = .ok (.invokevirtual 130, 3) := by decide +kernel
theorem d_M_merge_136 : decode prog_10_method_25_code 136 = .ok (.iinc 8 1, 3) := by decide +kernel
theorem d_M_merge_139 : decode prog_10_method_25_code 139 = .ok (.goto (-53), 3) := by decide +kernel
theorem d_M_merge_142 : decode prog_10_method_25_code 142 = .ok (.iinc 5 1, 3) := by decide +kernel
theorem d_M_merge_145 : decode prog_10_method_25_code 145 = .ok (.goto (-110), 3) := by decide +kernel
theorem d_M_merge_148 : decode prog_10_method_25_code 148 = .ok (.iinc 3 1, 3) := by decide +kernel
theorem d_M_merge_151 : decode prog_10_method_25_code 151 = .ok (.goto (-149), 3) := by decide +kernel
theorem d_M_merge_154 : decode prog_10_method_25_code 154 = .ok (.iconst (-1), 1) := by decide +kernel
theorem d_M_merge_155 : decode prog_10_method_25_code 155 = .ok (.ireturn, 1) := by decide +kernel
set_option maxHeartbeats 4000000 in
set_option maxRecDepth 100000 in
theorem c_M_merge {l : Launch} {E : Ev} {σ : SS} {ad : Nat → Nat} (hI : rfI ad) (hB : rB σ) {sz : Nat} {t : Nat} {d : Bool} (ht : t < 3) (hJ : MJ σ t 100) : MCi l E y_M_merge prog_10_method_25_code 11 (some .int) 4 88 0 0 [.ref (ad 0), .int (nI t), .int (bz d)] (rfM E σ ad) sz (fun r M' => r = mI (mg1 t d 4 σ).2 ∧ M' = rfM E (mg1 t d 4 σ).1 ad ∧ rB (mg1 t d 4 σ).1) := by
  refine mc_of R_M rfl [some (.ref (ad 0)), some (.int (nI t)), some (.int (bz d)), none, none, none, none, none, none, none, none] (by decide) (Nat.le_of_ble_eq_true rfl) rfl ?_
  intro p e R s m ag below meth c ls Q A X hAe hQ hR hsz hw hl
  rw [← hAe] at hQ
  obtain ⟨⟨hx, hb, hml, hown, hts⟩, hE, hA, hr, hlk, hnm⟩ := X
  have hK := hE.1
  refine lv_iconst (v := nI 1) hx hb d_M_merge_0 (by decide) ?_
  refine x_istore_n hx hb d_M_merge_1 hl (Nat.le_of_ble_eq_true rfl) (lh_k (i := 2) rfl (by first | exact lk_n | exact lk_i | exact lk_r | exact lk_q | exact lk_0)) (fun ls hl => ?_)
  obtain ⟨G, hGe⟩ : ∃ G, G = mg1 t d 4 σ := ⟨_, rfl⟩
  rw [← hGe] at hQ
  have loop3 : ∀ (n : Nat) (τ : SS) (k : Nat) (H : Heap) (locs : List Loc) (ls : Array Slot) (o w1 o2 p0 w2 : Nat), n ≤ 4 → k + n ≤ 30000 → MJ τ t k → mw E.1 vwCl A s.heap (rfM E τ ad) H locs → lh ls [some (.ref (ad 0)), some (.int (nI t)), some (.int (bz d)), some (.int (nI o)), some (.int (nI w1)), some (.int (nI o2)), some (.int (nI p0)), some (.int (nI w2)), some (.int (nI (5 - n))), none, none] → p0 < 25 → w2 = 2 → ((mg3 t p0 d n τ).2 ≠ 125 → mg3 t p0 d n τ = G) → ((mg3 t p0 d n τ).2 = 125 → ∀ (H : Heap) (locs : List Loc) (ls : Array Slot), mw E.1 vwCl A s.heap (rfM E (mg3 t p0 d n τ).1 ad) H locs → lh ls [some (.ref (ad 0)), some (.int (nI t)), some (.int (bz d)), some (.int (nI o)), some (.int (nI w1)), some (.int (nI o2)), some (.int (nI p0)), some (.int (nI w2)), none, none, none] → W p l e R s m ag below meth c H locs 0 0 Q (F0 m 142 ls [])) → W p l e R s m ag below meth c H locs 0 0 Q (F0 m 86 ls []) := by
    intro n
    induction n with
    | zero =>
      intro τ k H locs ls o w1 o2 p0 w2 hn hk9 hJ hw hl hp0 hw2 hC kk
      have hB := hJ.1
      refine x_iload hx hb d_M_merge_86 hl rfl ?_
      refine lv_iconst (v := nI 5) hx hb d_M_merge_88 (by decide) ?_
      refine x_icmp_ge hx hb d_M_merge_89 rfl (by omega) (by omega) (fun h89 => ?_) (fun h89 => ?_)
      · exact kk rfl H locs ls hw (lh_drop 8 hl)
      · exact absurd h89 (by omega)
    | succ n ih =>
      intro τ k H locs ls o w1 o2 p0 w2 hn hk9 hJ hw hl hp0 hw2 hC kk
      have hB := hJ.1
      refine x_iload hx hb d_M_merge_86 hl rfl ?_
      refine lv_iconst (v := nI 5) hx hb d_M_merge_88 (by decide) ?_
      refine x_icmp_ge hx hb d_M_merge_89 rfl (by omega) (by omega) (fun h89 => ?_) (fun h89 => ?_)
      · exact absurd h89 (by omega)
      · refine x_iload hx hb d_M_merge_92 hl rfl ?_
        refine lv_iconst (v := nI 2) hx hb d_M_merge_94 (by decide) ?_
        refine x_icmp_ne hx hb d_M_merge_95 rfl (by omega) (by omega) (fun h95 => ?_) (fun h95 => ?_)
        · exact absurd h95 (by omega)
        · refine x_iload hx hb d_M_merge_98 hl rfl ?_
          refine lv_bipush (v := nI 25) hx hb d_M_merge_100 (by decide) ?_
          refine x_iload hx hb d_M_merge_102 hl rfl ?_
          first | refine x_imul hx hb d_M_merge_104 ?_ | refine lv_imul hx hb d_M_merge_104 ?_
          first | refine x_iadd hx hb d_M_merge_105 ?_ | refine lv_iadd hx hb d_M_merge_105 ?_
          refine x_istore hx hb d_M_merge_106 hl (Nat.le_of_ble_eq_true rfl) (lh_k (i := 8) rfl (by first | exact lk_n | exact lk_i | exact lk_r | exact lk_q | exact lk_0)) (fun ls hl => ?_)
          first | refine x_aload_n hx hb d_M_merge_108 hl rfl ?_ | refine x_aload_nQ hx hb d_M_merge_108 hl rfl ?_
          refine x_iload_n hx hb d_M_merge_109 hl rfl ?_
          refine x_iload hx hb d_M_merge_110 hl rfl ?_
          refine m_calli (k_V ⟨hx, hb, hml, hown, hts⟩ hE hA hw (c_M_way hI hB (by omega) (by omega) hJ.2.2.2.1 hJ.2.2.1 hJ.2.1) (ci_M).1 rfl (rf_at hI 0 (by decide) rfl) (wm3 215 rfl rfl) (wm3 217 rfl rfl) (wmp2 12 rfl) (wm1 9 rfl rfl) (wm3 218 rfl rfl) rfl rfl ar_M_way ⟨Nat.le_trans (Nat.le_of_ble_eq_true rfl) hR.1, Nat.le_trans (Nat.le_of_ble_eq_true rfl) hR.2.1⟩ rfl hl.1 rfl (Nat.le_of_ble_eq_true rfl) d_M_merge_112 ⟨Nat.le_trans (Nat.le_of_ble_eq_true rfl) hR.2.2.1, Nat.le_trans (Nat.le_of_ble_eq_true rfl) hR.2.2.2⟩) hw (mfr_in hw hA) (fun r112 M112 H locs hP112 hw => ?_)
          obtain ⟨rfl, hM112⟩ := hP112
          rw [hM112] at hw
          refine x_istore hx hb d_M_merge_115 hl (Nat.le_of_ble_eq_true rfl) (lh_k (i := 9) rfl (by first | exact lk_n | exact lk_i | exact lk_r | exact lk_q | exact lk_0)) (fun ls hl => ?_)
          have hw9 := wy_le τ t (p0 + 25 * (5 - (n + 1)))
          refine x_iload hx hb d_M_merge_117 hl rfl ?_
          refine lv_iconst (v := nI 3) hx hb d_M_merge_119 (by decide) ?_
          refine x_icmp_ne hx hb d_M_merge_120 rfl (by omega) (by omega) (fun h120 => ?_) (fun h120 => ?_)
          · first | refine x_aload_n hx hb d_M_merge_126 hl rfl ?_ | refine x_aload_nQ hx hb d_M_merge_126 hl rfl ?_
            refine x_iload_n hx hb d_M_merge_127 hl rfl ?_
            refine x_iload hx hb d_M_merge_128 hl rfl ?_
            refine x_iload hx hb d_M_merge_130 hl rfl ?_
            refine x_iload_n hx hb d_M_merge_132 hl rfl ?_
            refine m_callv (k_V ⟨hx, hb, hml, hown, hts⟩ hE hA hw (c_M_settle hI hB (by omega) (by omega) (by omega) (by have := hJ.2.2.2.2 (τ 0 (125 * τ 1 0 + (p0 + 25 * (5 - (n + 1))))); omega) hJ.2.2.1 hJ.2.1) (ci_M).1 rfl (rf_at hI 0 (by decide) rfl) (wm3 219 rfl rfl) (wm3 221 rfl rfl) (wmp2 13 rfl) (wm1 9 rfl rfl) (wm3 222 rfl rfl) rfl rfl ar_M_settle ⟨Nat.le_trans (Nat.le_of_ble_eq_true rfl) hR.1, Nat.le_trans (Nat.le_of_ble_eq_true rfl) hR.2.1⟩ rfl hl.1 rfl (Nat.le_of_ble_eq_true rfl) d_M_merge_133 ⟨Nat.le_trans (Nat.le_of_ble_eq_true rfl) hR.2.2.1, Nat.le_trans (Nat.le_of_ble_eq_true rfl) hR.2.2.2⟩) hw (mfr_in hw hA) (fun M133 H locs hP133 hw => ?_)
            obtain ⟨hM133, hB⟩ := hP133
            rw [hM133] at hw
            refine x_iincN hx hb d_M_merge_136 hl rfl (lh_k (i := 7) rfl (by first | exact lk_n | exact lk_i | exact lk_r | exact lk_q | exact lk_0)) (fun ls hl => ?_)
            refine lv_goto hx hb d_M_merge_139 rfl ?_
            rw [mg3_g h120] at hC kk
            rw [show 5 - (n + 1) + 1 = 5 - n by omega] at hl
            exact ih _ (k + 1) H locs ls o w1 o2 p0 w2 (by omega) (by omega) (MJ_stl (by omega) hJ) hw (lh_drop 9 (lh_drop 10 hl)) hp0 hw2 hC kk
          · have hG := hC (by rw [mg3_c h120]; show p0 + 25 * (5 - (n + 1)) ≠ 125; omega)
            rw [mg3_c h120] at hG
            refine x_iload hx hb d_M_merge_123 hl rfl ?_
            exact x_reti hQ hx hb hr hlk rfl hw (by omega) (by omega) d_M_merge_125 ((by rw [← hG]; exact ⟨(mI_n (by omega)).symm, rfl, hB⟩))
  have loop2 : ∀ (n : Nat) (τ : SS) (k : Nat) (H : Heap) (locs : List Loc) (ls : Array Slot) (o w1 : Nat), n ≤ 4 → k + 5 * n ≤ 29000 → MJ τ t k → mw E.1 vwCl A s.heap (rfM E τ ad) H locs → lh ls [some (.ref (ad 0)), some (.int (nI t)), some (.int (bz d)), some (.int (nI o)), some (.int (nI w1)), some (.int (nI (5 - n))), none, none, none, none, none] → o < 5 → w1 = 2 → ((mg2 t o d n τ).2 ≠ 125 → mg2 t o d n τ = G) → ((mg2 t o d n τ).2 = 125 → ∀ (H : Heap) (locs : List Loc) (ls : Array Slot), mw E.1 vwCl A s.heap (rfM E (mg2 t o d n τ).1 ad) H locs → lh ls [some (.ref (ad 0)), some (.int (nI t)), some (.int (bz d)), some (.int (nI o)), some (.int (nI w1)), none, none, none, none, none, none] → W p l e R s m ag below meth c H locs 0 0 Q (F0 m 148 ls [])) → W p l e R s m ag below meth c H locs 0 0 Q (F0 m 35 ls []) := by
    intro n
    induction n with
    | zero =>
      intro τ k H locs ls o w1 hn hk9 hJ hw hl ho hw1 hC kk
      have hB := hJ.1
      refine x_iload hx hb d_M_merge_35 hl rfl ?_
      refine lv_iconst (v := nI 5) hx hb d_M_merge_37 (by decide) ?_
      refine x_icmp_ge hx hb d_M_merge_38 rfl (by omega) (by omega) (fun h38 => ?_) (fun h38 => ?_)
      · exact kk rfl H locs ls hw (lh_drop 5 hl)
      · exact absurd h38 (by omega)
    | succ n ih =>
      intro τ k H locs ls o w1 hn hk9 hJ hw hl ho hw1 hC kk
      have hB := hJ.1
      refine x_iload hx hb d_M_merge_35 hl rfl ?_
      refine lv_iconst (v := nI 5) hx hb d_M_merge_37 (by decide) ?_
      refine x_icmp_ge hx hb d_M_merge_38 rfl (by omega) (by omega) (fun h38 => ?_) (fun h38 => ?_)
      · exact absurd h38 (by omega)
      · refine x_iload hx hb d_M_merge_41 hl rfl ?_
        refine lv_iconst (v := nI 2) hx hb d_M_merge_43 (by decide) ?_
        refine x_icmp_ne hx hb d_M_merge_44 rfl (by omega) (by omega) (fun h44 => ?_) (fun h44 => ?_)
        · exact absurd h44 (by omega)
        · refine x_iload_n hx hb d_M_merge_47 hl rfl ?_
          refine lv_iconst (v := nI 5) hx hb d_M_merge_48 (by decide) ?_
          refine x_iload hx hb d_M_merge_49 hl rfl ?_
          first | refine x_imul hx hb d_M_merge_51 ?_ | refine lv_imul hx hb d_M_merge_51 ?_
          first | refine x_iadd hx hb d_M_merge_52 ?_ | refine lv_iadd hx hb d_M_merge_52 ?_
          refine x_istore hx hb d_M_merge_53 hl (Nat.le_of_ble_eq_true rfl) (lh_k (i := 5) rfl (by first | exact lk_n | exact lk_i | exact lk_r | exact lk_q | exact lk_0)) (fun ls hl => ?_)
          first | refine x_aload_n hx hb d_M_merge_55 hl rfl ?_ | refine x_aload_nQ hx hb d_M_merge_55 hl rfl ?_
          refine x_iload_n hx hb d_M_merge_56 hl rfl ?_
          refine x_iload hx hb d_M_merge_57 hl rfl ?_
          refine m_calli (k_V ⟨hx, hb, hml, hown, hts⟩ hE hA hw (c_M_way hI hB (by omega) (by omega) hJ.2.2.2.1 hJ.2.2.1 hJ.2.1) (ci_M).1 rfl (rf_at hI 0 (by decide) rfl) (wm3 215 rfl rfl) (wm3 217 rfl rfl) (wmp2 12 rfl) (wm1 9 rfl rfl) (wm3 218 rfl rfl) rfl rfl ar_M_way ⟨Nat.le_trans (Nat.le_of_ble_eq_true rfl) hR.1, Nat.le_trans (Nat.le_of_ble_eq_true rfl) hR.2.1⟩ rfl hl.1 rfl (Nat.le_of_ble_eq_true rfl) d_M_merge_59 ⟨Nat.le_trans (Nat.le_of_ble_eq_true rfl) hR.2.2.1, Nat.le_trans (Nat.le_of_ble_eq_true rfl) hR.2.2.2⟩) hw (mfr_in hw hA) (fun r59 M59 H locs hP59 hw => ?_)
          obtain ⟨rfl, hM59⟩ := hP59
          rw [hM59] at hw
          refine x_istore hx hb d_M_merge_62 hl (Nat.le_of_ble_eq_true rfl) (lh_k (i := 6) rfl (by first | exact lk_n | exact lk_i | exact lk_r | exact lk_q | exact lk_0)) (fun ls hl => ?_)
          have hw9 := wy_le τ t (o + 5 * (5 - (n + 1)))
          refine x_iload hx hb d_M_merge_64 hl rfl ?_
          refine lv_iconst (v := nI 3) hx hb d_M_merge_66 (by decide) ?_
          refine x_icmp_ne hx hb d_M_merge_67 rfl (by omega) (by omega) (fun h67 => ?_) (fun h67 => ?_)
          · first | refine x_aload_n hx hb d_M_merge_73 hl rfl ?_ | refine x_aload_nQ hx hb d_M_merge_73 hl rfl ?_
            refine x_iload_n hx hb d_M_merge_74 hl rfl ?_
            refine x_iload hx hb d_M_merge_75 hl rfl ?_
            refine x_iload hx hb d_M_merge_77 hl rfl ?_
            refine x_iload_n hx hb d_M_merge_79 hl rfl ?_
            refine m_callv (k_V ⟨hx, hb, hml, hown, hts⟩ hE hA hw (c_M_settle hI hB (by omega) (by omega) (by omega) (by have := hJ.2.2.2.2 (τ 0 (125 * τ 1 0 + (o + 5 * (5 - (n + 1))))); omega) hJ.2.2.1 hJ.2.1) (ci_M).1 rfl (rf_at hI 0 (by decide) rfl) (wm3 219 rfl rfl) (wm3 221 rfl rfl) (wmp2 13 rfl) (wm1 9 rfl rfl) (wm3 222 rfl rfl) rfl rfl ar_M_settle ⟨Nat.le_trans (Nat.le_of_ble_eq_true rfl) hR.1, Nat.le_trans (Nat.le_of_ble_eq_true rfl) hR.2.1⟩ rfl hl.1 rfl (Nat.le_of_ble_eq_true rfl) d_M_merge_80 ⟨Nat.le_trans (Nat.le_of_ble_eq_true rfl) hR.2.2.1, Nat.le_trans (Nat.le_of_ble_eq_true rfl) hR.2.2.2⟩) hw (mfr_in hw hA) (fun M80 H locs hP80 hw => ?_)
            obtain ⟨hM80, hB⟩ := hP80
            rw [hM80] at hw
            refine lv_iconst (v := nI 1) hx hb d_M_merge_83 (by decide) ?_
            refine x_istore hx hb d_M_merge_84 hl (Nat.le_of_ble_eq_true rfl) (lh_k (i := 7) rfl (by first | exact lk_n | exact lk_i | exact lk_r | exact lk_q | exact lk_0)) (fun ls hl => ?_)
            by_cases h2 : wy τ t (o + 5 * (5 - (n + 1))) = 2
            · have hX := md3_2 (d := d) h2
              refine loop3 4 _ (k + 1) H locs ls o w1 _ (o + 5 * (5 - (n + 1))) _ (by omega) (by omega) (MJ_stl (by omega) hJ) hw hl (by omega) h2 (fun z => ?_) (fun z H locs ls hw hl => ?_)
              · rw [← hX] at z ⊢
                have hC2 := hC (by rw [mg2_d h67 z]; exact z)
                rw [mg2_d h67 z] at hC2
                exact hC2
              · rw [← hX] at z hw
                rw [mg2_g h67 z] at hC kk
                refine x_iincN hx hb d_M_merge_142 hl rfl (lh_k (i := 4) rfl (by first | exact lk_n | exact lk_i | exact lk_r | exact lk_q | exact lk_0)) (fun ls hl => ?_)
                refine lv_goto hx hb d_M_merge_145 rfl ?_
                rw [show 5 - (n + 1) + 1 = 5 - n by omega] at hl
                exact ih _ (k + 5) H locs ls o w1 (by omega) (by omega) (MJ_d3 (by omega) hJ) hw (lh_drop 6 (lh_drop 7 (lh_drop 8 (lh_drop 9 (lh_drop 10 hl))))) ho hw1 hC kk
            · refine x_iload hx hb d_M_merge_86 hl rfl ?_
              refine lv_iconst (v := nI 5) hx hb d_M_merge_88 (by decide) ?_
              refine x_icmp_ge hx hb d_M_merge_89 rfl (by omega) (by omega) (fun h89 => ?_) (fun h89 => ?_)
              · exact absurd h89 (by omega)
              · refine x_iload hx hb d_M_merge_92 hl rfl ?_
                refine lv_iconst (v := nI 2) hx hb d_M_merge_94 (by decide) ?_
                refine x_icmp_ne hx hb d_M_merge_95 rfl (by omega) (by omega) (fun h95 => ?_) (fun h95 => ?_)
                · have hX := md3_n (d := d) h2
                  have hX2 : (md3 t (o + 5 * (5 - (n + 1))) d τ).2 = 125 := by rw [hX]
                  rw [mg2_g h67 hX2] at hC kk
                  have hw : mw E.1 vwCl A s.heap (rfM E (md3 t (o + 5 * (5 - (n + 1))) d τ).1 ad) H locs := by rw [hX]; exact hw
                  refine x_iincN hx hb d_M_merge_142 hl rfl (lh_k (i := 4) rfl (by first | exact lk_n | exact lk_i | exact lk_r | exact lk_q | exact lk_0)) (fun ls hl => ?_)
                  refine lv_goto hx hb d_M_merge_145 rfl ?_
                  rw [show 5 - (n + 1) + 1 = 5 - n by omega] at hl
                  exact ih _ (k + 5) H locs ls o w1 (by omega) (by omega) (MJ_d3 (by omega) hJ) hw (lh_drop 6 (lh_drop 7 (lh_drop 8 (lh_drop 9 (lh_drop 10 hl))))) ho hw1 hC kk
                · exact absurd h95 (by omega)
          · have hG := hC (by rw [mg2_c h67]; show o + 5 * (5 - (n + 1)) ≠ 125; omega)
            rw [mg2_c h67] at hG
            refine x_iload hx hb d_M_merge_70 hl rfl ?_
            exact x_reti hQ hx hb hr hlk rfl hw (by omega) (by omega) d_M_merge_72 ((by rw [← hG]; exact ⟨(mI_n (by omega)).symm, rfl, hB⟩))
  have loop1 : ∀ (n : Nat) (τ : SS) (k : Nat) (H : Heap) (locs : List Loc) (ls : Array Slot), n ≤ 4 → k + 21 * n ≤ 28000 → MJ τ t k → mw E.1 vwCl A s.heap (rfM E τ ad) H locs → lh ls [some (.ref (ad 0)), some (.int (nI t)), some (.int (bz d)), some (.int (nI (5 - n))), none, none, none, none, none, none, none] → mg1 t d n τ = G → W p l e R s m ag below meth c H locs 0 0 Q (F0 m 2 ls []) := by
    intro n
    induction n with
    | zero =>
      intro τ k H locs ls hn hk9 hJ hw hl hC
      have hB := hJ.1
      refine x_iload_n hx hb d_M_merge_2 hl rfl ?_
      refine lv_iconst (v := nI 5) hx hb d_M_merge_3 (by decide) ?_
      refine x_icmp_ge hx hb d_M_merge_4 rfl (by omega) (by omega) (fun h4 => ?_) (fun h4 => ?_)
      · refine lv_iconst (v := -1) hx hb d_M_merge_154 (by decide) ?_
        exact x_reti hQ hx hb hr hlk rfl hw (by omega) (by omega) d_M_merge_155 (by rw [← hC]; exact ⟨rfl, rfl, hB⟩)
      · exact absurd h4 (by omega)
    | succ n ih =>
      intro τ k H locs ls hn hk9 hJ hw hl hC
      have hB := hJ.1
      refine x_iload_n hx hb d_M_merge_2 hl rfl ?_
      refine lv_iconst (v := nI 5) hx hb d_M_merge_3 (by decide) ?_
      refine x_icmp_ge hx hb d_M_merge_4 rfl (by omega) (by omega) (fun h4 => ?_) (fun h4 => ?_)
      · exact absurd h4 (by omega)
      · first | refine x_aload_n hx hb d_M_merge_7 hl rfl ?_ | refine x_aload_nQ hx hb d_M_merge_7 hl rfl ?_
        refine x_iload_n hx hb d_M_merge_8 hl rfl ?_
        refine x_iload_n hx hb d_M_merge_9 hl rfl ?_
        refine m_calli (k_V ⟨hx, hb, hml, hown, hts⟩ hE hA hw (c_M_way hI hB (by omega) (by omega) hJ.2.2.2.1 hJ.2.2.1 hJ.2.1) (ci_M).1 rfl (rf_at hI 0 (by decide) rfl) (wm3 215 rfl rfl) (wm3 217 rfl rfl) (wmp2 12 rfl) (wm1 9 rfl rfl) (wm3 218 rfl rfl) rfl rfl ar_M_way ⟨Nat.le_trans (Nat.le_of_ble_eq_true rfl) hR.1, Nat.le_trans (Nat.le_of_ble_eq_true rfl) hR.2.1⟩ rfl hl.1 rfl (Nat.le_of_ble_eq_true rfl) d_M_merge_10 ⟨Nat.le_trans (Nat.le_of_ble_eq_true rfl) hR.2.2.1, Nat.le_trans (Nat.le_of_ble_eq_true rfl) hR.2.2.2⟩) hw (mfr_in hw hA) (fun r10 M10 H locs hP10 hw => ?_)
        obtain ⟨rfl, hM10⟩ := hP10
        rw [hM10] at hw
        refine x_istore hx hb d_M_merge_13 hl (Nat.le_of_ble_eq_true rfl) (lh_k (i := 3) rfl (by first | exact lk_n | exact lk_i | exact lk_r | exact lk_q | exact lk_0)) (fun ls hl => ?_)
        have hw9 := wy_le τ t (5 - (n + 1))
        refine x_iload hx hb d_M_merge_15 hl rfl ?_
        refine lv_iconst (v := nI 3) hx hb d_M_merge_17 (by decide) ?_
        refine x_icmp_ne hx hb d_M_merge_18 rfl (by omega) (by omega) (fun h18 => ?_) (fun h18 => ?_)
        · first | refine x_aload_n hx hb d_M_merge_23 hl rfl ?_ | refine x_aload_nQ hx hb d_M_merge_23 hl rfl ?_
          refine x_iload_n hx hb d_M_merge_24 hl rfl ?_
          refine x_iload_n hx hb d_M_merge_25 hl rfl ?_
          refine x_iload hx hb d_M_merge_26 hl rfl ?_
          refine x_iload_n hx hb d_M_merge_28 hl rfl ?_
          refine m_callv (k_V ⟨hx, hb, hml, hown, hts⟩ hE hA hw (c_M_settle hI hB (by omega) (by omega) (by omega) (by have := hJ.2.2.2.2 (τ 0 (125 * τ 1 0 + (5 - (n + 1)))); omega) hJ.2.2.1 hJ.2.1) (ci_M).1 rfl (rf_at hI 0 (by decide) rfl) (wm3 219 rfl rfl) (wm3 221 rfl rfl) (wmp2 13 rfl) (wm1 9 rfl rfl) (wm3 222 rfl rfl) rfl rfl ar_M_settle ⟨Nat.le_trans (Nat.le_of_ble_eq_true rfl) hR.1, Nat.le_trans (Nat.le_of_ble_eq_true rfl) hR.2.1⟩ rfl hl.1 rfl (Nat.le_of_ble_eq_true rfl) d_M_merge_29 ⟨Nat.le_trans (Nat.le_of_ble_eq_true rfl) hR.2.2.1, Nat.le_trans (Nat.le_of_ble_eq_true rfl) hR.2.2.2⟩) hw (mfr_in hw hA) (fun M29 H locs hP29 hw => ?_)
          obtain ⟨hM29, hB⟩ := hP29
          rw [hM29] at hw
          refine lv_iconst (v := nI 1) hx hb d_M_merge_32 (by decide) ?_
          refine x_istore hx hb d_M_merge_33 hl (Nat.le_of_ble_eq_true rfl) (lh_k (i := 4) rfl (by first | exact lk_n | exact lk_i | exact lk_r | exact lk_q | exact lk_0)) (fun ls hl => ?_)
          by_cases h2 : wy τ t (5 - (n + 1)) = 2
          · have hX := md2_2 (d := d) h2
            refine loop2 4 _ (k + 1) H locs ls (5 - (n + 1)) _ (by omega) (by omega) (MJ_stl (by omega) hJ) hw hl (by omega) h2 (fun z => ?_) (fun z H locs ls hw hl => ?_)
            · rw [← hX] at z ⊢
              rw [mg1_d h18 z] at hC
              exact hC
            · rw [← hX] at z hw
              rw [mg1_g h18 z] at hC
              refine x_iincN hx hb d_M_merge_148 hl rfl (lh_k (i := 2) rfl (by first | exact lk_n | exact lk_i | exact lk_r | exact lk_q | exact lk_0)) (fun ls hl => ?_)
              refine lv_goto hx hb d_M_merge_151 rfl ?_
              rw [show 5 - (n + 1) + 1 = 5 - n by omega] at hl
              exact ih _ (k + 21) H locs ls (by omega) (by omega) (MJ_d2 (by omega) hJ) hw (lh_drop 4 (lh_drop 5 (lh_drop 6 (lh_drop 7 (lh_drop 8 (lh_drop 9 (lh_drop 10 hl))))))) hC
          · refine x_iload hx hb d_M_merge_35 hl rfl ?_
            refine lv_iconst (v := nI 5) hx hb d_M_merge_37 (by decide) ?_
            refine x_icmp_ge hx hb d_M_merge_38 rfl (by omega) (by omega) (fun h38 => ?_) (fun h38 => ?_)
            · exact absurd h38 (by omega)
            · refine x_iload hx hb d_M_merge_41 hl rfl ?_
              refine lv_iconst (v := nI 2) hx hb d_M_merge_43 (by decide) ?_
              refine x_icmp_ne hx hb d_M_merge_44 rfl (by omega) (by omega) (fun h44 => ?_) (fun h44 => ?_)
              · have hX := md2_n (d := d) h2
                have hX2 : (md2 t (5 - (n + 1)) d τ).2 = 125 := by rw [hX]
                rw [mg1_g h18 hX2] at hC
                have hw : mw E.1 vwCl A s.heap (rfM E (md2 t (5 - (n + 1)) d τ).1 ad) H locs := by rw [hX]; exact hw
                refine x_iincN hx hb d_M_merge_148 hl rfl (lh_k (i := 2) rfl (by first | exact lk_n | exact lk_i | exact lk_r | exact lk_q | exact lk_0)) (fun ls hl => ?_)
                refine lv_goto hx hb d_M_merge_151 rfl ?_
                rw [show 5 - (n + 1) + 1 = 5 - n by omega] at hl
                exact ih _ (k + 21) H locs ls (by omega) (by omega) (MJ_d2 (by omega) hJ) hw (lh_drop 4 (lh_drop 5 (lh_drop 6 (lh_drop 7 (lh_drop 8 (lh_drop 9 (lh_drop 10 hl))))))) hC
              · exact absurd h44 (by omega)
        · rw [mg1_c h18] at hC
          have hG := hC
          refine x_iload_n hx hb d_M_merge_21 hl rfl ?_
          exact x_reti hQ hx hb hr hlk rfl hw (by omega) (by omega) d_M_merge_22 ((by rw [← hG]; exact ⟨(mI_n (by omega)).symm, rfl, hB⟩))
  exact loop1 4 σ 100 _ _ _ (by omega) (by omega) hJ hw hl hGe.symm
end
section
/-! committing, as a function of the state -/
section CM
def sl1 (τ : SS) (p : Nat) : SS := if 0 < rat τ (τ 1 0) p ∧ 128 ≤ τ 12 (rat τ (τ 1 0) p) then (if τ 6 (rat τ (τ 1 0) p) = 2 ∧ τ 8 (rat τ (τ 1 0) p) ≠ 0 then stf (sp τ 12 (rat τ (τ 1 0) p) (τ 1 0)) (rat τ (τ 1 0) p) else sp τ 12 (rat τ (τ 1 0) p) (τ 1 0)) else τ
def slf : Nat → Nat → SS → SS
  | 0, _, τ => τ
  | u + 1, p, τ => slf u (p + 1) (sl1 τ p)
theorem sl_0 {τ : SS} {p : Nat} (h : rat τ (τ 1 0) p = 0 ∨ τ 12 (rat τ (τ 1 0) p) < 128) : sl1 τ p = τ := if_neg (by omega)
theorem sl_1 {τ : SS} {p : Nat} (h : 0 < rat τ (τ 1 0) p) (h2 : 128 ≤ τ 12 (rat τ (τ 1 0) p)) (h3 : τ 6 (rat τ (τ 1 0) p) ≠ 2 ∨ τ 8 (rat τ (τ 1 0) p) = 0) : sl1 τ p = sp τ 12 (rat τ (τ 1 0) p) (τ 1 0) := by
  unfold sl1
  rw [if_pos ⟨h, h2⟩, if_neg]
  rintro ⟨z1, z2⟩
  rcases h3 with h3 | h3
  · exact h3 z1
  · exact z2 h3
theorem sl_2 {τ : SS} {p : Nat} (h : 0 < rat τ (τ 1 0) p) (h2 : 128 ≤ τ 12 (rat τ (τ 1 0) p)) (h3 : τ 6 (rat τ (τ 1 0) p) = 2) (h4 : τ 8 (rat τ (τ 1 0) p) ≠ 0) : sl1 τ p = stf (sp τ 12 (rat τ (τ 1 0) p) (τ 1 0)) (rat τ (τ 1 0) p) := by
  unfold sl1
  rw [if_pos ⟨h, h2⟩, if_pos ⟨h3, h4⟩]
def SJ (τ : SS) : Prop := rB τ ∧ (∀ j, τ 0 j < 1300) ∧ (∀ j, τ 12 j < 256) ∧ (∀ j, τ 13 j < 1300) ∧ (∀ j, τ 15 j ≤ 512) ∧ (∀ j, τ 7 j < 128) ∧ (∀ j, τ 17 j < 2 ^ 48) ∧ (∀ j, τ 9 j < 2 ^ 48) ∧ (∀ j, τ 11 j < 1000) ∧ τ 1 0 ≤ 15
theorem SJ_12 {τ : SS} {n v : Nat} (h : SJ τ) (hv : v < 256) : SJ (sp τ 12 n v) := by
  obtain ⟨a, b, c, d, e, f, g, h8, h9, h10⟩ := h
  refine ⟨rB_sp a (by omega), b, fun j => ?_, d, e, f, g, h8, h9, h10⟩
  rw [sp_at]
  split
  · exact hv
  · exact c j
theorem SJ_15 {τ : SS} {n v : Nat} (h : SJ τ) (hv : v ≤ 512) : SJ (sp τ 15 n v) := by
  obtain ⟨a, b, c, d, e, f, g, h8, h9, h10⟩ := h
  refine ⟨rB_sp a (by omega), b, c, d, fun j => ?_, f, g, h8, h9, h10⟩
  rw [sp_at]
  split
  · exact hv
  · exact e j
theorem SJ_17 {τ : SS} {n v : Nat} (h : SJ τ) (hv : v < 2 ^ 48) : SJ (sp τ 17 n v) := by
  obtain ⟨a, b, c, d, e, f, g, h8, h9, h10⟩ := h
  refine ⟨rB_spL a (Or.inr rfl), b, c, d, e, f, fun j => ?_, h8, h9, h10⟩
  rw [sp_at]
  split
  · exact hv
  · exact g j
theorem SJ_x {τ : SS} {f n v : Nat} (h : SJ τ) (hv : v < 32768) (hf : f = 18 ∨ f = 19 ∨ f = 20 ∨ f = 16) : SJ (sp τ f n v) := by
  obtain ⟨a, b, c, d, e, f, g, h8, h9, h10⟩ := h
  rcases hf with rfl | rfl | rfl | rfl
  · exact ⟨rB_sp a hv, b, c, d, e, f, g, h8, h9, h10⟩
  · exact ⟨rB_sp a hv, b, c, d, e, f, g, h8, h9, h10⟩
  · exact ⟨rB_sp a hv, b, c, d, e, f, g, h8, h9, h10⟩
  · exact ⟨rB_sp a hv, b, c, d, e, f, g, h8, h9, h10⟩
theorem SJ_st5 {τ : SS} {n bv cv : Nat} (h : SJ τ) (hS : τ 16 0 < 512) (hb : bv < 32768) (hc : cv < 32768) : SJ (st5 τ n bv cv) := by
  unfold st5
  have h7 := h.2.2.2.2.2.1 n
  have h9 := h.2.2.2.2.2.2.2.1 n
  exact SJ_15 (SJ_x (SJ_x (SJ_x (SJ_x (SJ_17 h h9) (by omega) (Or.inl rfl)) hb (Or.inr (Or.inl rfl))) hc (Or.inr (Or.inr (Or.inl rfl)))) (by omega) (Or.inr (Or.inr (Or.inr rfl)))) (by omega)
theorem SJ_stf {τ : SS} {n : Nat} (h : SJ τ) (hS : τ 16 0 < 512) : SJ (stf τ n) := by
  have h1 : SJ (sp τ 15 n 0) := SJ_15 h (by omega)
  have hS1 : sp τ 15 n 0 16 0 < 512 := hS
  unfold stf
  generalize sp τ 15 n 0 = θ at h1 hS1
  unfold st2
  split
  · exact h1
  · split
    · exact SJ_15 h1 (by omega)
    · unfold st3
      have ho : oldf θ n ≤ 512 := by
        unfold oldf
        split
        · exact h1.2.2.2.2.1 _
        · omega
      have hal := alw_le (c := θ 11 n) 20 0
      split
      · exact SJ_st5 h1 hS1 (by omega) (by omega)
      · exact SJ_st5 h1 hS1 (by omega) (by omega)
theorem SJ_sl1 {τ : SS} {p : Nat} (h : SJ τ) (hS : τ 16 0 < 512) : SJ (sl1 τ p) := by
  have h1 := h.2.2.2.2.2.2.2.2.2
  unfold sl1
  split
  · split
    · exact SJ_stf (SJ_12 h (by omega)) hS
    · exact SJ_12 h (by omega)
  · exact h
def cm2 (τ : SS) (t : Nat) : SS := sp (fil (sp τ 1 0 (τ 1 0 + 1)) (τ 1 0 + 1) (16 + t) 125) 2 t 0
def cm1 (σ : SS) (t : Nat) : SS × Nat := if σ 0 (125 * σ 1 0) ≠ σ 0 (125 * σ 3 t) then (if σ 0 (2000 + 125 * t) = σ 0 (125 * σ 3 t) then (fil σ (16 + t) (σ 1 0) 125, 125) else if (mg1 t false 4 σ).2 = 125 then (jn (mg1 t true 4 σ).1 t 0, 125) else (σ, (mg1 t false 4 σ).2)) else (σ, 125)
theorem cm1_s {σ : SS} {t : Nat} (h : σ 0 (125 * σ 1 0) = σ 0 (125 * σ 3 t)) : cm1 σ t = (σ, 125) := if_neg (fun z => z h)
theorem cm1_f {σ : SS} {t : Nat} (h : σ 0 (125 * σ 1 0) ≠ σ 0 (125 * σ 3 t)) (h2 : σ 0 (2000 + 125 * t) = σ 0 (125 * σ 3 t)) : cm1 σ t = (fil σ (16 + t) (σ 1 0) 125, 125) := by
  unfold cm1
  rw [if_pos h, if_pos h2]
theorem cm1_j {σ : SS} {t : Nat} (h : σ 0 (125 * σ 1 0) ≠ σ 0 (125 * σ 3 t)) (h2 : σ 0 (2000 + 125 * t) ≠ σ 0 (125 * σ 3 t)) (h3 : (mg1 t false 4 σ).2 = 125) : cm1 σ t = (jn (mg1 t true 4 σ).1 t 0, 125) := by
  unfold cm1
  rw [if_pos h, if_neg h2, if_pos h3]
theorem cm1_c {σ : SS} {t : Nat} (h : σ 0 (125 * σ 1 0) ≠ σ 0 (125 * σ 3 t)) (h2 : σ 0 (2000 + 125 * t) ≠ σ 0 (125 * σ 3 t)) (h3 : (mg1 t false 4 σ).2 ≠ 125) : cm1 σ t = (σ, (mg1 t false 4 σ).2) := by
  unfold cm1
  rw [if_pos h, if_neg h2, if_neg h3]
def cmb (σ : SS) (t : Nat) : Bool := opb σ t && decide (σ 1 0 ≠ 15)
theorem cmb_1 {σ : SS} {t : Nat} (h : opb σ t = false) : ¬ cmb σ t = true := by simp [cmb, h]
theorem cmb_2 {σ : SS} {t : Nat} (h : σ 1 0 = 15) : ¬ cmb σ t = true := by simp [cmb, h]
theorem cmb_t {σ : SS} {t : Nat} (h : opb σ t = true) (h2 : σ 1 0 ≠ 15) : cmb σ t = true := by simp [cmb, h, h2]
def cmO (σ : SS) (t : Nat) : SS := if cmb σ t = true then (if (cm1 σ t).2 = 125 then slf 125 0 (cm2 (cm1 σ t).1 t) else σ) else σ
def cmA (σ : SS) (t : Nat) : Int32 := if cmb σ t = true then (if (cm1 σ t).2 = 125 then nI (cmO σ t 1 0) else -2 - nI (cm1 σ t).2) else -1
theorem cmO_f {σ : SS} {t : Nat} (h : ¬ cmb σ t = true) : cmO σ t = σ := if_neg h
theorem cmA_f {σ : SS} {t : Nat} (h : ¬ cmb σ t = true) : cmA σ t = -1 := if_neg h
theorem cmO_c {σ : SS} {t : Nat} (h : cmb σ t = true) (h2 : (cm1 σ t).2 ≠ 125) : cmO σ t = σ := by unfold cmO; rw [if_pos h, if_neg h2]
theorem cmA_c {σ : SS} {t : Nat} (h : cmb σ t = true) (h2 : (cm1 σ t).2 ≠ 125) : cmA σ t = -2 - nI (cm1 σ t).2 := by unfold cmA; rw [if_pos h, if_neg h2]
theorem cmO_t {σ : SS} {t : Nat} (h : cmb σ t = true) (h2 : (cm1 σ t).2 = 125) : cmO σ t = slf 125 0 (cm2 (cm1 σ t).1 t) := by unfold cmO; rw [if_pos h, if_pos h2]
theorem cmA_t {σ : SS} {t : Nat} (h : cmb σ t = true) (h2 : (cm1 σ t).2 = 125) : cmA σ t = nI (cmO σ t 1 0) := by unfold cmA; rw [if_pos h, if_pos h2]
theorem mg3_f {t p : Nat} : ∀ n τ, (mg3 t p false n τ).1 = τ
  | 0, τ => rfl
  | n + 1, τ => by
    unfold mg3
    split
    · rfl
    · rw [stl_f]; exact mg3_f n τ
theorem md3_f {t p : Nat} {τ : SS} : (md3 t p false τ).1 = τ := by
  unfold md3
  rw [stl_f]
  split
  · exact mg3_f 4 τ
  · rfl
theorem mg2_f {t o : Nat} : ∀ n τ, (mg2 t o false n τ).1 = τ
  | 0, τ => rfl
  | n + 1, τ => by
    unfold mg2
    split
    · rfl
    · split
      · rw [md3_f]; exact mg2_f n τ
      · exact md3_f
theorem md2_f {t o : Nat} {τ : SS} : (md2 t o false τ).1 = τ := by
  unfold md2
  rw [stl_f]
  split
  · exact mg2_f 4 τ
  · rfl
theorem mg1_f {t : Nat} : ∀ n τ, (mg1 t false n τ).1 = τ
  | 0, τ => rfl
  | n + 1, τ => by
    unfold mg1
    split
    · rfl
    · split
      · rw [md2_f]; exact mg1_f n τ
      · exact md2_f
theorem mI_lt {r : Nat} (hr : r < 2 ^ 31) (h : mI r < 0) : r = 125 := by
  rcases Nat.decEq r 125 with z | z
  · rw [mI_n z] at h
    exact absurd h (nI_pos hr)
  · exact z
theorem mI_nlt {r : Nat} (h : ¬ mI r < 0) : r ≠ 125 := by rintro rfl; exact h (by decide)
theorem mg3_2 {t p : Nat} {d : Bool} (hp : p < 25) : ∀ n τ, (mg3 t p d n τ).2 ≤ 125
  | 0, τ => Nat.le_refl _
  | n + 1, τ => by
    unfold mg3
    split
    · show p + 25 * (5 - (n + 1)) ≤ 125
      omega
    · exact mg3_2 hp n _
theorem mg2_2 {t o : Nat} {d : Bool} (ho : o < 5) : ∀ n τ, (mg2 t o d n τ).2 ≤ 125
  | 0, τ => Nat.le_refl _
  | n + 1, τ => by
    have hd : (md3 t (o + 5 * (5 - (n + 1))) d τ).2 ≤ 125 := by
      unfold md3
      split
      · exact mg3_2 (by omega) 4 _
      · exact Nat.le_refl _
    unfold mg2
    split
    · show o + 5 * (5 - (n + 1)) ≤ 125
      omega
    · split
      · exact mg2_2 ho n _
      · exact hd
theorem mg1_2 {t : Nat} {d : Bool} : ∀ n τ, (mg1 t d n τ).2 ≤ 125
  | 0, τ => Nat.le_refl _
  | n + 1, τ => by
    have hd : (md2 t (5 - (n + 1)) d τ).2 ≤ 125 := by
      unfold md2
      split
      · exact mg2_2 (by omega) 4 _
      · exact Nat.le_refl _
    unfold mg1
    split
    · show 5 - (n + 1) ≤ 125
      omega
    · split
      · exact mg1_2 n _
      · exact hd
end CM
end
section
theorem d_M_commit_0 : decode prog_10_method_26_code 0 = .ok (.aload_n 0, 1) := by decide +kernel
theorem d_M_commit_1 : decode prog_10_method_26_code 1 = .ok (.iload_n 1, 1) := by decide +kernel
theorem d_M_commit_2 : decode prog_10_method_26_code 2 = .ok (.invokevirtual 102, 3) := by decide +kernel
theorem d_M_commit_5 : decode prog_10_method_26_code 5 = .ok (.ifCond .eq 12, 3) := by decide +kernel
theorem d_M_commit_8 : decode prog_10_method_26_code 8 = .ok (.aload_n 0, 1) := by decide +kernel
theorem d_M_commit_9 : decode prog_10_method_26_code 9 = .ok (.getfield 76, 3) := by decide +kernel
theorem d_M_commit_12 : decode prog_10_method_26_code 12 = .ok (.bipush 15, 2) := by decide +kernel
theorem d_M_commit_14 : decode prog_10_method_26_code 14 = .ok (.if_icmp .ne 5, 3) := by decide +kernel
theorem d_M_commit_17 : decode prog_10_method_26_code 17 = .ok (.iconst (-1), 1) := by decide +kernel
theorem d_M_commit_18 : decode prog_10_method_26_code 18 = .ok (.ireturn, 1) := by decide +kernel
theorem d_M_commit_19 : decode prog_10_method_26_code 19 = .ok (.aload_n 0, 1) := by decide +kernel
theorem d_M_commit_20 : decode prog_10_method_26_code 20 = .ok (.getfield 7, 3) := by decide +kernel
theorem d_M_commit_23 : decode prog_10_method_26_code 23 = .ok (.bipush 125, 2) := by decide +kernel
theorem d_M_commit_25 : decode prog_10_method_26_code 25 = .ok (.aload_n 0, 1) := by decide +kernel
theorem d_M_commit_26 : decode prog_10_method_26_code 26 = .ok (.getfield 17, 3) := by decide +kernel
theorem d_M_commit_29 : decode prog_10_method_26_code 29 = .ok (.iload_n 1, 1) := by decide +kernel
theorem d_M_commit_30 : decode prog_10_method_26_code 30 = .ok (.iaload, 1) := by decide +kernel
theorem d_M_commit_31 : decode prog_10_method_26_code 31 = .ok (.imul, 1) := by decide +kernel
theorem d_M_commit_32 : decode prog_10_method_26_code 32 = .ok (.saload, 1) := by decide +kernel
theorem d_M_commit_33 : decode prog_10_method_26_code 33 = .ok (.istore_n 2, 1) := by decide +kernel
theorem d_M_commit_34 : decode prog_10_method_26_code 34 = .ok (.aload_n 0, 1) := by decide +kernel
theorem d_M_commit_35 : decode prog_10_method_26_code 35 = .ok (.getfield 7, 3) := by decide +kernel
theorem d_M_commit_38 : decode prog_10_method_26_code 38 = .ok (.bipush 125, 2) := by decide +kernel
theorem d_M_commit_40 : decode prog_10_method_26_code 40 = .ok (.aload_n 0, 1) := by decide +kernel
theorem d_M_commit_41 : decode prog_10_method_26_code 41 = .ok (.getfield 76, 3) := by decide +kernel
theorem d_M_commit_44 : decode prog_10_method_26_code 44 = .ok (.imul, 1) := by decide +kernel
theorem d_M_commit_45 : decode prog_10_method_26_code 45 = .ok (.saload, 1) := by decide +kernel
theorem d_M_commit_46 : decode prog_10_method_26_code 46 = .ok (.istore_n 3, 1) := by decide +kernel
theorem d_M_commit_47 : decode prog_10_method_26_code 47 = .ok (.aload_n 0, 1) := by decide +kernel
theorem d_M_commit_48 : decode prog_10_method_26_code 48 = .ok (.getfield 7, 3) := by decide +kernel
theorem d_M_commit_51 : decode prog_10_method_26_code 51 = .ok (.sipush 2000, 3) := by decide +kernel
theorem d_M_commit_54 : decode prog_10_method_26_code 54 = .ok (.bipush 125, 2) := by decide +kernel
theorem d_M_commit_56 : decode prog_10_method_26_code 56 = .ok (.iload_n 1, 1) := by decide +kernel
theorem d_M_commit_57 : decode prog_10_method_26_code 57 = .ok (.imul, 1) := by decide +kernel
theorem d_M_commit_58 : decode prog_10_method_26_code 58 = .ok (.iadd, 1) := by decide +kernel
theorem d_M_commit_59 : decode prog_10_method_26_code 59 = .ok (.saload, 1) := by decide +kernel
theorem d_M_commit_60 : decode prog_10_method_26_code 60 = .ok (.istore 4, 2) := by decide +kernel
theorem d_M_commit_62 : decode prog_10_method_26_code 62 = .ok (.iload_n 3, 1) := by decide +kernel
theorem d_M_commit_63 : decode prog_10_method_26_code 63 = .ok (.iload_n 2, 1) := by decide +kernel
theorem d_M_commit_64 : decode prog_10_method_26_code 64 = .ok (.if_icmp .eq 24, 3) := by decide +kernel
theorem d_M_commit_67 : decode prog_10_method_26_code 67 = .ok (.iload 4, 2) := by decide +kernel
theorem d_M_commit_69 : decode prog_10_method_26_code 69 = .ok (.iload_n 2, 1) := by decide +kernel
theorem d_M_commit_70 : decode prog_10_method_26_code 70 = .ok (.if_icmp .ne 18, 3) := by decide +kernel
theorem d_M_commit_73 : decode prog_10_method_26_code 73 = .ok (.aload_n 0, 1) := by decide +kernel
theorem d_M_commit_74 : decode prog_10_method_26_code 74 = .ok (.bipush 16, 2) := by decide +kernel
theorem d_M_commit_76 : decode prog_10_method_26_code 76 = .ok (.iload_n 1, 1) := by decide +kernel
theorem d_M_commit_77 : decode prog_10_method_26_code 77 = .ok (.iadd, 1) := by decide +kernel
theorem d_M_commit_78 : decode prog_10_method_26_code 78 = .ok (.aload_n 0, 1) := by decide +kernel
theorem d_M_commit_79 : decode prog_10_method_26_code 79 = .ok (.getfield 76, 3) := by decide +kernel
theorem d_M_commit_82 : decode prog_10_method_26_code 82 = .ok (.invokevirtual 83, 3) := by decide +kernel
theorem d_M_commit_85 : decode prog_10_method_26_code 85 = .ok (.goto 40, 3) := by decide +kernel
theorem d_M_commit_88 : decode prog_10_method_26_code 88 = .ok (.iload_n 3, 1) := by decide +kernel
theorem d_M_commit_89 : decode prog_10_method_26_code 89 = .ok (.iload_n 2, 1) := by decide +kernel
theorem d_M_commit_90 : decode prog_10_method_26_code 90 = .ok (.if_icmp .eq 35, 3) := by decide +kernel
theorem d_M_commit_93 : decode prog_10_method_26_code 93 = .ok (.aload_n 0, 1) := by decide +kernel
theorem d_M_commit_94 : decode prog_10_method_26_code 94 = .ok (.iload_n 1, 1) := by decide +kernel
theorem d_M_commit_95 : decode prog_10_method_26_code 95 = .ok (.iconst 0, 1) := by decide +kernel
theorem d_M_commit_96 : decode prog_10_method_26_code 96 = .ok (.invokevirtual 134, 3) := by decide +kernel
theorem d_M_commit_99 : decode prog_10_method_26_code 99 = .ok (.istore 5, 2) := by decide +kernel
theorem d_M_commit_101 : decode prog_10_method_26_code 101 = .ok (.iload 5, 2) := by decide +kernel
theorem d_M_commit_103 : decode prog_10_method_26_code 103 = .ok (.ifCond .lt 9, 3) := by decide +kernel
theorem d_M_commit_106 : decode prog_10_method_26_code 106 = .ok (.bipush (-2), 2) := by decide +kernel
theorem d_M_commit_108 : decode prog_10_method_26_code 108 = .ok (.iload 5, 2) := by decide +kernel
theorem d_M_commit_110 : decode prog_10_method_26_code 110 = .ok (.isub, 1) := by decide +kernel
theorem d_M_commit_111 : decode prog_10_method_26_code 111 = .ok (.ireturn, 1) := by decide +kernel
theorem d_M_commit_112 : decode prog_10_method_26_code 112 = .ok (.aload_n 0, 1) := by decide +kernel
theorem d_M_commit_113 : decode prog_10_method_26_code 113 = .ok (.iload_n 1, 1) := by decide +kernel
theorem d_M_commit_114 : decode prog_10_method_26_code 114 = .ok (.iconst 1, 1) := by decide +kernel
theorem d_M_commit_115 : decode prog_10_method_26_code 115 = .ok (.invokevirtual 134, 3) := by decide +kernel
theorem d_M_commit_118 : decode prog_10_method_26_code 118 = .ok (.pop, 1) := by decide +kernel
theorem d_M_commit_119 : decode prog_10_method_26_code 119 = .ok (.aload_n 0, 1) := by decide +kernel
theorem d_M_commit_120 : decode prog_10_method_26_code 120 = .ok (.iload_n 1, 1) := by decide +kernel
theorem d_M_commit_121 : decode prog_10_method_26_code 121 = .ok (.iconst 0, 1) := by decide +kernel
theorem d_M_commit_122 : decode prog_10_method_26_code 122 = .ok (.invokevirtual 124, 3) := by decide +kernel
theorem d_M_commit_125 : decode prog_10_method_26_code 125 = .ok (.aload_n 0, 1) := by decide +kernel
theorem d_M_commit_126 : decode prog_10_method_26_code 126 = .ok (.dup, 1) := by decide +kernel
theorem d_M_commit_127 : decode prog_10_method_26_code 127 = .ok (.getfield 76, 3) := by decide +kernel
theorem d_M_commit_130 : decode prog_10_method_26_code 130 = .ok (.iconst 1, 1) := by decide +kernel
theorem d_M_commit_131 : decode prog_10_method_26_code 131 = .ok (.iadd, 1) := by decide +kernel
theorem d_M_commit_132 : decode prog_10_method_26_code 132 = .ok (.putfield 76, 3) := by decide +kernel
theorem d_M_commit_135 : decode prog_10_method_26_code 135 = .ok (.aload_n 0, 1) := by decide +kernel
theorem d_M_commit_136 : decode prog_10_method_26_code 136 = .ok (.aload_n 0, 1) := by decide +kernel
theorem d_M_commit_137 : decode prog_10_method_26_code 137 = .ok (.getfield 76, 3) := by decide +kernel
theorem d_M_commit_140 : decode prog_10_method_26_code 140 = .ok (.bipush 16, 2) := by decide +kernel
theorem d_M_commit_142 : decode prog_10_method_26_code 142 = .ok (.iload_n 1, 1) := by decide +kernel
theorem d_M_commit_143 : decode prog_10_method_26_code 143 = .ok (.iadd, 1) := by decide +kernel
theorem d_M_commit_144 : decode prog_10_method_26_code 144 = .ok (.invokevirtual 83, 3) := by decide +kernel
theorem d_M_commit_147 : decode prog_10_method_26_code 147 = .ok (.aload_n 0, 1) := by decide +kernel
theorem d_M_commit_148 : decode prog_10_method_26_code 148 = .ok (.getfield 13, 3) := by decide +kernel
theorem d_M_commit_151 : decode prog_10_method_26_code 151 = .ok (.iload_n 1, 1) := by decide +kernel
theorem d_M_commit_152 : decode prog_10_method_26_code 152 = .ok (.iconst 0, 1) := by decide +kernel
theorem d_M_commit_153 : decode prog_10_method_26_code 153 = .ok (.bastore, 1) := by decide +kernel
theorem d_M_commit_154 : decode prog_10_method_26_code 154 = .ok (.iconst 0, 1) := by decide +kernel
theorem d_M_commit_155 : decode prog_10_method_26_code 155 = .ok (.istore 5, 2) := by decide +kernel
theorem d_M_commit_157 : decode prog_10_method_26_code 157 = .ok (.iload 5, 2) := by decide +kernel
theorem d_M_commit_159 : decode prog_10_method_26_code 159 = .ok (.bipush 125, 2) := by decide +kernel
theorem d_M_commit_161 : decode prog_10_method_26_code 161 = .ok (.if_icmp .ge 75, 3) := by decide +kernel
theorem d_M_commit_164 : decode prog_10_method_26_code 164 = .ok (.aload_n 0, 1) := by decide +kernel
theorem d_M_commit_165 : decode prog_10_method_26_code 165 = .ok (.aload_n 0, 1) := by decide +kernel
theorem d_M_commit_166 : decode prog_10_method_26_code 166 = .ok (.getfield 76, 3) := by decide +kernel
theorem d_M_commit_169 : decode prog_10_method_26_code 169 = .ok (.iload 5, 2) := by decide +kernel
theorem d_M_commit_171 : decode prog_10_method_26_code 171 = .ok (.invokevirtual 87, 3) := by decide +kernel
theorem d_M_commit_174 : decode prog_10_method_26_code 174 = .ok (.istore 6, 2) := by decide +kernel
theorem d_M_commit_176 : decode prog_10_method_26_code 176 = .ok (.iload 6, 2) := by decide +kernel
theorem d_M_commit_178 : decode prog_10_method_26_code 178 = .ok (.ifCond .le 52, 3) := by decide +kernel
theorem d_M_commit_181 : decode prog_10_method_26_code 181 = .ok (.aload_n 0, 1) := by decide +kernel
theorem d_M_commit_182 : decode prog_10_method_26_code 182 = .ok (.getfield 41, 3) := by decide +kernel
theorem d_M_commit_185 : decode prog_10_method_26_code 185 = .ok (.iload 6, 2) := by decide +kernel
theorem d_M_commit_187 : decode prog_10_method_26_code 187 = .ok (.baload, 1) := by decide +kernel
theorem d_M_commit_188 : decode prog_10_method_26_code 188 = .ok (.ifCond .ge 42, 3) := by decide +kernel
theorem d_M_commit_191 : decode prog_10_method_26_code 191 = .ok (.aload_n 0, 1) := by decide +kernel
theorem d_M_commit_192 : decode prog_10_method_26_code 192 = .ok (.getfield 41, 3) := by decide +kernel
theorem d_M_commit_195 : decode prog_10_method_26_code 195 = .ok (.iload 6, 2) := by decide +kernel
theorem d_M_commit_197 : decode prog_10_method_26_code 197 = .ok (.aload_n 0, 1) := by decide +kernel
theorem d_M_commit_198 : decode prog_10_method_26_code 198 = .ok (.getfield 76, 3) := by decide +kernel
theorem d_M_commit_201 : decode prog_10_method_26_code 201 = .ok (.i2b, 1) := by decide +kernel
theorem d_M_commit_202 : decode prog_10_method_26_code 202 = .ok (.bastore, 1) := by decide +kernel
theorem d_M_commit_203 : decode prog_10_method_26_code 203 = .ok (.aload_n 0, 1) := by decide +kernel
theorem d_M_commit_204 : decode prog_10_method_26_code 204 = .ok (.getfield 21, 3) := by decide +kernel
theorem d_M_commit_207 : decode prog_10_method_26_code 207 = .ok (.iload 6, 2) := by decide +kernel
theorem d_M_commit_209 : decode prog_10_method_26_code 209 = .ok (.baload, 1) := by decide +kernel
theorem d_M_commit_210 : decode prog_10_method_26_code 210 = .ok (.iconst 2, 1) := by decide +kernel
theorem d_M_commit_211 : decode prog_10_method_26_code 211 = .ok (.if_icmp .ne 19, 3) := by decide +kernel
theorem d_M_commit_214 : decode prog_10_method_26_code 214 = .ok (.aload_n 0, 1) := by decide +kernel
theorem d_M_commit_215 : decode prog_10_method_26_code 215 = .ok (.getfield 28, 3) := by decide +kernel
theorem d_M_commit_218 : decode prog_10_method_26_code 218 = .ok (.iload 6, 2) := by decide +kernel
theorem d_M_commit_220 : decode prog_10_method_26_code 220 = .ok (.baload, 1) := by decide +kernel
theorem d_M_commit_221 : decode prog_10_method_26_code 221 = .ok (.ifCond .eq 9, 3) := by decide +kernel
theorem d_M_commit_224 : decode prog_10_method_26_code 224 = .ok (.aload_n 0, 1) := by decide +kernel
theorem d_M_commit_225 : decode prog_10_method_26_code 225 = .ok (.iload 6, 2) := by decide +kernel
theorem d_M_commit_227 : decode prog_10_method_26_code 227 = .ok (.invokevirtual 138, 3) := by decide +kernel
theorem d_M_commit_230 : decode prog_10_method_26_code 230 = .ok (.iinc 5 1, 3) := by decide +kernel
theorem d_M_commit_233 : decode prog_10_method_26_code 233 = .ok (.goto (-76), 3) := by decide +kernel
theorem d_M_commit_236 : decode prog_10_method_26_code 236 = .ok (.aload_n 0, 1) := by decide +kernel
theorem d_M_commit_237 : decode prog_10_method_26_code 237 = .ok (.getfield 76, 3) := by decide +kernel
theorem d_M_commit_240 : decode prog_10_method_26_code 240 = .ok (.ireturn, 1) := by decide +kernel
set_option maxHeartbeats 4000000 in
set_option maxRecDepth 100000 in
theorem c_M_commit {l : Launch} {E : Ev} {σ : SS} {ad : Nat → Nat} (hI : rfI ad) (hB : rB σ) {sz : Nat} {x : Int32} (hMJ : cmb σ (tx x) = true → MJ σ (tx x) 100) (hSS : cmb σ (tx x) = true → (cm1 σ (tx x)).1 1 0 ≤ 14 ∧ ((cm1 σ (tx x)).2 = 125 → SJ (cm2 (cm1 σ (tx x)).1 (tx x)) ∧ ∀ i, i < 125 → (slf i 0 (cm2 (cm1 σ (tx x)).1 (tx x))) 16 0 < 512)) : MCi l E y_M_commit prog_10_method_26_code 7 (some .int) 5 118 0 0 [.ref (ad 0), .int x] (rfM E σ ad) sz (fun r M' => r = cmA σ (tx x) ∧ M' = rfM E (cmO σ (tx x)) ad ∧ rB (cmO σ (tx x))) := by
  refine mc_of R_M rfl [some (.ref (ad 0)), some (.int x), none, none, none, none, none] (by decide) (Nat.le_of_ble_eq_true rfl) rfl ?_
  intro p e R s m ag below meth c ls Q A X hAe hQ hR hsz hw hl
  rw [← hAe] at hQ
  obtain ⟨⟨hx, hb, hml, hown, hts⟩, hE, hA, hr, hlk, hnm⟩ := X
  have hK := hE.1
  first | refine x_aload_n hx hb d_M_commit_0 hl rfl ?_ | refine x_aload_nQ hx hb d_M_commit_0 hl rfl ?_
  refine x_iload_n hx hb d_M_commit_1 hl rfl ?_
  refine m_calli (k_V ⟨hx, hb, hml, hown, hts⟩ hE hA hw (c_M_isOpen hI hB) (ci_M).1 rfl (rf_at hI 0 (by decide) rfl) (wm3 157 rfl rfl) (wm3 159 rfl rfl) (wmp2 6 rfl) (wm1 9 rfl rfl) (wm3 160 rfl rfl) rfl rfl ar_M_isOpen ⟨Nat.le_trans (Nat.le_of_ble_eq_true rfl) hR.1, Nat.le_trans (Nat.le_of_ble_eq_true rfl) hR.2.1⟩ rfl hl.1 rfl (Nat.le_of_ble_eq_true rfl) d_M_commit_2 ⟨Nat.le_trans (Nat.le_of_ble_eq_true rfl) hR.2.2.1, Nat.le_trans (Nat.le_of_ble_eq_true rfl) hR.2.2.2⟩) hw (mfr_in hw hA) (fun r2 M2 H locs hP2 hw => ?_)
  obtain ⟨rfl, hM2⟩ := hP2
  rw [hM2] at hw
  refine x_if_eqB hx hb d_M_commit_5 rfl (fun h5 => ?_) (fun h5 => ?_)
  · refine lv_iconst (v := -1) hx hb d_M_commit_17 (by decide) ?_
    exact x_reti hQ hx hb hr hlk rfl hw (by omega) (by omega) d_M_commit_18 (by first | (rw [cmA_f (cmb_1 h5), cmO_f (cmb_1 h5)]; exact ⟨rfl, rfl, hB⟩) | (rw [tx_n ht, cmA_f (cmb_2 h14), cmO_f (cmb_2 h14)]; exact ⟨rfl, rfl, hB⟩))
  · obtain ⟨t, ht, rfl, ho⟩ := opb_of h5
    first | refine x_aload_n hx hb d_M_commit_8 hl rfl ?_ | refine x_aload_nQ hx hb d_M_commit_8 hl rfl ?_
    refine m_get hx hb hts hown hK hw ci_M (rf_at hI 0 (by decide) rfl) 1 (by decide) (wm3 73 rfl rfl) rfl d_M_commit_9 ?_
    have hs9 := hB 1 0 (by decide) (by decide)
    refine lv_bipush (v := nI 15) hx hb d_M_commit_12 (by decide) ?_
    refine x_icmp_ne hx hb d_M_commit_14 rfl (by omega) (by omega) (fun h14 => ?_) (fun h14 => ?_)
    · have hcm := cmb_t (opb_t ht ho) h14
      rw [tx_n ht] at hMJ hSS
      have hM9 := hMJ hcm
      obtain ⟨hy14, hS0⟩ := hSS hcm
      have hy := hM9.2.2.1
      have hb3 := hM9.2.2.2.1
      have loop : ∀ (u p0 : Nat) (τ : SS) (H : Heap) (locs : List Loc) (ls : Array Slot), p0 + u = 125 → SJ τ → (∀ i, i < u → (slf i p0 τ) 16 0 < 512) → mw E.1 vwCl A s.heap (rfM E τ ad) H locs → lh ls [some (.ref (ad 0)), some (.int (nI t)), none, none, none, some (.int (nI p0)), none] → slf u p0 τ = slf 125 0 (cm2 (cm1 σ t).1 t) → (cm1 σ t).2 = 125 → W p l e R s m ag below meth c H locs 0 0 Q (F0 m 157 ls []) := by
        intro u
        induction u with
        | zero =>
          intro p0 τ H locs ls hu hJ hS hw hl hF h125
          have hB := hJ.1
          refine x_iload hx hb d_M_commit_157 hl rfl ?_
          refine lv_bipush (v := nI 125) hx hb d_M_commit_159 (by decide) ?_
          refine x_icmp_ge hx hb d_M_commit_161 rfl (by omega) (by omega) (fun h161 => ?_) (fun h161 => ?_)
          · first | refine x_aload_n hx hb d_M_commit_236 hl rfl ?_ | refine x_aload_nQ hx hb d_M_commit_236 hl rfl ?_
            refine m_get hx hb hts hown hK hw ci_M (rf_at hI 0 (by decide) rfl) 1 (by decide) (wm3 73 rfl rfl) rfl d_M_commit_237 ?_
            have hs237 := hB 1 0 (by decide) (by decide)
            exact x_reti hQ hx hb hr hlk rfl hw (by omega) (by omega) d_M_commit_240 (by rw [tx_n ht, cmA_t hcm h125, cmO_t hcm h125, ← hF]; exact ⟨rfl, rfl, hJ.1⟩)
          · exact absurd h161 (by omega)
        | succ u ih =>
          intro p0 τ H locs ls hu hJ hS hw hl hF h125
          have hB := hJ.1
          have hs16 : τ 16 0 < 512 := hS 0 (by omega)
          refine x_iload hx hb d_M_commit_157 hl rfl ?_
          refine lv_bipush (v := nI 125) hx hb d_M_commit_159 (by decide) ?_
          refine x_icmp_ge hx hb d_M_commit_161 rfl (by omega) (by omega) (fun h161 => ?_) (fun h161 => ?_)
          · exact absurd h161 (by omega)
          · first | refine x_aload_n hx hb d_M_commit_164 hl rfl ?_ | refine x_aload_nQ hx hb d_M_commit_164 hl rfl ?_
            first | refine x_aload_n hx hb d_M_commit_165 hl rfl ?_ | refine x_aload_nQ hx hb d_M_commit_165 hl rfl ?_
            refine m_get (v := .int (nI (τ 1 0))) hx hb hts hown hK hw ci_M (rf_at hI 0 (by decide) rfl) 1 (by decide) (wm3 73 rfl rfl) rfl d_M_commit_166 ?_
            refine x_iload hx hb d_M_commit_169 hl rfl ?_
            refine m_calli (k_V ⟨hx, hb, hml, hown, hts⟩ hE hA hw (c_M_atN hI hB (show τ 1 0 < 19 by have := hJ.2.2.2.2.2.2.2.2.2; omega) (by omega)) (ci_M).1 rfl (rf_at hI 0 (by decide) rfl) (wm3 164 rfl rfl) (wm3 166 rfl rfl) (wmp2 7 rfl) (wm1 9 rfl rfl) (wm3 167 rfl rfl) rfl rfl ar_M_at ⟨Nat.le_trans (Nat.le_of_ble_eq_true rfl) hR.1, Nat.le_trans (Nat.le_of_ble_eq_true rfl) hR.2.1⟩ rfl hl.1 rfl (Nat.le_of_ble_eq_true rfl) d_M_commit_171 ⟨Nat.le_trans (Nat.le_of_ble_eq_true rfl) hR.2.2.1, Nat.le_trans (Nat.le_of_ble_eq_true rfl) hR.2.2.2⟩) hw (mfr_in hw hA) (fun r171 M171 H locs hP171 hw => ?_)
            obtain ⟨⟨rfl, hb171⟩, hM171⟩ := hP171
            rw [hM171] at hw
            have hN2 := rat_N (k := τ 1 0) (p := p0) hJ.2.1
            have hy2 := hJ.2.2.2.2.2.2.2.2.2
            refine x_istore hx hb d_M_commit_174 hl (Nat.le_of_ble_eq_true rfl) (lh_k (i := 5) rfl (by first | exact lk_n | exact lk_i | exact lk_r | exact lk_q | exact lk_0)) (fun ls hl => ?_)
            refine x_iload hx hb d_M_commit_176 hl rfl ?_
            refine x_if_le hx hb d_M_commit_178 rfl (by omega) (fun h178 => ?_) (fun h178 => ?_)
            · have hsl := sl_0 (τ := τ) (p := p0) (Or.inl h178)
              refine x_iincN hx hb d_M_commit_230 hl rfl (lh_k (i := 4) rfl (by first | exact lk_n | exact lk_i | exact lk_r | exact lk_q | exact lk_0)) (fun ls hl => ?_)
              refine lv_goto hx hb d_M_commit_233 rfl ?_
              rw [← hsl] at hw
              exact ih (p0 + 1) _ H locs ls (by omega) (SJ_sl1 hJ hs16) (fun i hi => by have := hS (i + 1) (by omega); exact this) hw (lh_drop 6 hl) hF h125
            · first | refine x_aload_n hx hb d_M_commit_181 hl rfl ?_ | refine x_aload_nQ hx hb d_M_commit_181 hl rfl ?_
              refine m_get hx hb hts hown hK hw ci_M (rf_at hI 0 (by decide) rfl) 12 (by decide) (wm3 84 rfl rfl) rfl d_M_commit_182 ?_
              refine x_iload hx hb d_M_commit_185 hl rfl ?_
              refine rl_12 hx hb hK hI hB hw (by omega) d_M_commit_187 (fun hv187 => ?_)
              refine lv_if_ge hx hb d_M_commit_188 rfl (fun h188 => ?_) (fun h188 => ?_)
              · have h188 := (bI_ge (hJ.2.2.1 _)).mp h188
                have hsl := sl_0 (τ := τ) (p := p0) (Or.inr h188)
                refine x_iincN hx hb d_M_commit_230 hl rfl (lh_k (i := 4) rfl (by first | exact lk_n | exact lk_i | exact lk_r | exact lk_q | exact lk_0)) (fun ls hl => ?_)
                refine lv_goto hx hb d_M_commit_233 rfl ?_
                rw [← hsl] at hw
                exact ih (p0 + 1) _ H locs ls (by omega) (SJ_sl1 hJ hs16) (fun i hi => by have := hS (i + 1) (by omega); exact this) hw (lh_drop 6 hl) hF h125
              · have h188 : 128 ≤ τ 12 (rat τ (τ 1 0) p0) := by
                  rcases Nat.lt_or_ge (τ 12 (rat τ (τ 1 0) p0)) 128 with z | z
                  · exact absurd ((bI_ge (hJ.2.2.1 _)).mpr z) h188
                  · exact z
                first | refine x_aload_n hx hb d_M_commit_191 hl rfl ?_ | refine x_aload_nQ hx hb d_M_commit_191 hl rfl ?_
                refine m_get hx hb hts hown hK hw ci_M (rf_at hI 0 (by decide) rfl) 12 (by decide) (wm3 84 rfl rfl) rfl d_M_commit_192 ?_
                refine x_iload hx hb d_M_commit_195 hl rfl ?_
                first | refine x_aload_n hx hb d_M_commit_197 hl rfl ?_ | refine x_aload_nQ hx hb d_M_commit_197 hl rfl ?_
                refine m_get (v := .int (nI (τ 1 0))) hx hb hts hown hK hw ci_M (rf_at hI 0 (by decide) rfl) 1 (by decide) (wm3 73 rfl rfl) rfl d_M_commit_198 ?_
                first | refine x_i2b hx hb d_M_commit_201 (by omega) ?_ | refine lv_i2b hx hb d_M_commit_201 rfl ?_
                rw [← bI_n (b := τ 1 0) (by omega)]
                refine rs_12 hx hb hK hI hB hw (by omega) (by omega) d_M_commit_202 (fun H locs hw hB => ?_)
                first | refine x_aload_n hx hb d_M_commit_203 hl rfl ?_ | refine x_aload_nQ hx hb d_M_commit_203 hl rfl ?_
                refine m_get hx hb hts hown hK hw ci_M (rf_at hI 0 (by decide) rfl) 6 (by decide) (wm3 78 rfl rfl) rfl d_M_commit_204 ?_
                refine x_iload hx hb d_M_commit_207 hl rfl ?_
                refine rl_6 hx hb hK hI hB hw (by omega) d_M_commit_209 (fun hv209 => ?_)
                refine lv_iconst (v := nI 2) hx hb d_M_commit_210 (by decide) ?_
                refine x_icmp_ne hx hb d_M_commit_211 rfl (by omega) (by omega) (fun h211 => ?_) (fun h211 => ?_)
                · have hsl := sl_1 (τ := τ) (p := p0) h178 h188 (Or.inl h211)
                  refine x_iincN hx hb d_M_commit_230 hl rfl (lh_k (i := 4) rfl (by first | exact lk_n | exact lk_i | exact lk_r | exact lk_q | exact lk_0)) (fun ls hl => ?_)
                  refine lv_goto hx hb d_M_commit_233 rfl ?_
                  rw [← hsl] at hw
                  exact ih (p0 + 1) _ H locs ls (by omega) (SJ_sl1 hJ hs16) (fun i hi => by have := hS (i + 1) (by omega); exact this) hw (lh_drop 6 hl) hF h125
                · first | refine x_aload_n hx hb d_M_commit_214 hl rfl ?_ | refine x_aload_nQ hx hb d_M_commit_214 hl rfl ?_
                  refine m_get hx hb hts hown hK hw ci_M (rf_at hI 0 (by decide) rfl) 8 (by decide) (wm3 80 rfl rfl) rfl d_M_commit_215 ?_
                  refine x_iload hx hb d_M_commit_218 hl rfl ?_
                  refine rl_8 hx hb hK hI hB hw (by omega) d_M_commit_220 (fun hv220 => ?_)
                  refine x_if_eq hx hb d_M_commit_221 rfl (by omega) (fun h221 => ?_) (fun h221 => ?_)
                  · have hsl := sl_1 (τ := τ) (p := p0) h178 h188 (Or.inr h221)
                    refine x_iincN hx hb d_M_commit_230 hl rfl (lh_k (i := 4) rfl (by first | exact lk_n | exact lk_i | exact lk_r | exact lk_q | exact lk_0)) (fun ls hl => ?_)
                    refine lv_goto hx hb d_M_commit_233 rfl ?_
                    rw [← hsl] at hw
                    exact ih (p0 + 1) _ H locs ls (by omega) (SJ_sl1 hJ hs16) (fun i hi => by have := hS (i + 1) (by omega); exact this) hw (lh_drop 6 hl) hF h125
                  · have hsl := sl_2 (τ := τ) (p := p0) h178 h188 h211 h221
                    first | refine x_aload_n hx hb d_M_commit_224 hl rfl ?_ | refine x_aload_nQ hx hb d_M_commit_224 hl rfl ?_
                    refine x_iload hx hb d_M_commit_225 hl rfl ?_
                    refine m_callv (k_V ⟨hx, hb, hml, hown, hts⟩ hE hA hw (c_M_store hI hB hN2 hJ.2.2.2.1 hJ.2.2.2.2.1 hJ.2.2.2.2.2.1 (fun _ => hs16) (Nat.le_of_lt hs16) hJ.2.2.2.2.2.2.1 hJ.2.2.2.2.2.2.2.1 (hJ.2.2.2.2.2.2.2.2.1 _)) (ci_M).1 rfl (rf_at hI 0 (by decide) rfl) (wm3 231 rfl rfl) (wm3 233 rfl rfl) (wmp3 0 rfl) (wm1 9 rfl rfl) (wm3 234 rfl rfl) rfl rfl ar_M_store ⟨Nat.le_trans (Nat.le_of_ble_eq_true rfl) hR.1, Nat.le_trans (Nat.le_of_ble_eq_true rfl) hR.2.1⟩ rfl hl.1 rfl (Nat.le_of_ble_eq_true rfl) d_M_commit_227 ⟨Nat.le_trans (Nat.le_of_ble_eq_true rfl) hR.2.2.1, Nat.le_trans (Nat.le_of_ble_eq_true rfl) hR.2.2.2⟩) hw (mfr_in hw hA) (fun M227 H locs hP227 hw => ?_)
                    obtain ⟨hM227, hB⟩ := hP227
                    rw [hM227] at hw
                    refine x_iincN hx hb d_M_commit_230 hl rfl (lh_k (i := 4) rfl (by first | exact lk_n | exact lk_i | exact lk_r | exact lk_q | exact lk_0)) (fun ls hl => ?_)
                    refine lv_goto hx hb d_M_commit_233 rfl ?_
                    rw [← hsl] at hw
                    exact ih (p0 + 1) _ H locs ls (by omega) (SJ_sl1 hJ hs16) (fun i hi => by have := hS (i + 1) (by omega); exact this) hw (lh_drop 6 hl) hF h125
      have tail : ∀ (τ : SS) (H : Heap) (locs : List Loc) (ls : Array Slot), rB τ → τ 1 0 ≤ 14 → mw E.1 vwCl A s.heap (rfM E τ ad) H locs → lh ls [some (.ref (ad 0)), some (.int (nI t)), none, none, none, none, none] → (cm1 σ t).1 = τ → (cm1 σ t).2 = 125 → W p l e R s m ag below meth c H locs 0 0 Q (F0 m 125 ls []) := by
        intro τ H locs ls hB hy hw hl h1 h125
        have hcs := hS0 h125
        first | refine x_aload_n hx hb d_M_commit_125 hl rfl ?_ | refine x_aload_nQ hx hb d_M_commit_125 hl rfl ?_
        first | refine lv_dup hx hb d_M_commit_126 rfl ?_ | refine lv_dup hx hb d_M_commit_126 (va_rf_c _) ?_
        refine m_get (v := .int (nI (τ 1 0))) hx hb hts hown hK hw ci_M (rf_at hI 0 (by decide) rfl) 1 (by decide) (wm3 73 rfl rfl) rfl d_M_commit_127 ?_
        refine lv_iconst (v := nI 1) hx hb d_M_commit_130 (by decide) ?_
        first | refine x_iadd hx hb d_M_commit_131 ?_ | refine lv_iadd hx hb d_M_commit_131 ?_
        refine rp_1 hx hb hts hown hK hI hB hw (wm3 73 rfl rfl) (by omega) d_M_commit_132 (fun H locs hw hB => ?_)
        first | refine x_aload_n hx hb d_M_commit_135 hl rfl ?_ | refine x_aload_nQ hx hb d_M_commit_135 hl rfl ?_
        first | refine x_aload_n hx hb d_M_commit_136 hl rfl ?_ | refine x_aload_nQ hx hb d_M_commit_136 hl rfl ?_
        refine m_get (v := .int (nI (τ 1 0 + 1))) hx hb hts hown hK hw ci_M (rf_at hI 0 (by decide) rfl) 1 (by decide) (wm3 73 rfl rfl) rfl d_M_commit_137 ?_
        refine lv_bipush (v := nI 16) hx hb d_M_commit_140 (by decide) ?_
        refine x_iload_n hx hb d_M_commit_142 hl rfl ?_
        first | refine x_iadd hx hb d_M_commit_143 ?_ | refine lv_iadd hx hb d_M_commit_143 ?_
        refine m_callv (k_V ⟨hx, hb, hml, hown, hts⟩ hE hA hw (c_M_fill hI hB (by omega) (by omega) (by omega)) (ci_M).1 rfl (rf_at hI 0 (by decide) rfl) (wm3 145 rfl rfl) (wm3 147 rfl rfl) (wmp2 4 rfl) (wm1 9 rfl rfl) (wm3 148 rfl rfl) rfl rfl ar_M_fill ⟨Nat.le_trans (Nat.le_of_ble_eq_true rfl) hR.1, Nat.le_trans (Nat.le_of_ble_eq_true rfl) hR.2.1⟩ rfl hl.1 rfl (Nat.le_of_ble_eq_true rfl) d_M_commit_144 ⟨Nat.le_trans (Nat.le_of_ble_eq_true rfl) hR.2.2.1, Nat.le_trans (Nat.le_of_ble_eq_true rfl) hR.2.2.2⟩) hw (mfr_in hw hA) (fun M144 H locs hP144 hw => ?_)
        obtain ⟨hM144, hB⟩ := hP144
        rw [hM144] at hw
        first | refine x_aload_n hx hb d_M_commit_147 hl rfl ?_ | refine x_aload_nQ hx hb d_M_commit_147 hl rfl ?_
        refine m_get hx hb hts hown hK hw ci_M (rf_at hI 0 (by decide) rfl) 2 (by decide) (wm3 74 rfl rfl) rfl d_M_commit_148 ?_
        refine x_iload_n hx hb d_M_commit_151 hl rfl ?_
        refine lv_iconst (v := nI 0) hx hb d_M_commit_152 (by decide) ?_
        refine rs_2 hx hb hK hI hB hw (by omega) (by omega) d_M_commit_153 (fun H locs hw hB => ?_)
        refine lv_iconst (v := nI 0) hx hb d_M_commit_154 (by decide) ?_
        refine x_istore hx hb d_M_commit_155 hl (Nat.le_of_ble_eq_true rfl) (lh_k (i := 4) rfl (by first | exact lk_n | exact lk_i | exact lk_r | exact lk_q | exact lk_0)) (fun ls hl => ?_)
        rw [h1] at hcs
        rw [h1] at loop
        exact loop 125 0 _ _ _ _ (by omega) hcs.1 hcs.2 hw hl rfl h125
      first | refine x_aload_n hx hb d_M_commit_19 hl rfl ?_ | refine x_aload_nQ hx hb d_M_commit_19 hl rfl ?_
      refine m_get hx hb hts hown hK hw ci_M (rf_at hI 0 (by decide) rfl) 0 (by decide) (wm3 72 rfl rfl) rfl d_M_commit_20 ?_
      refine lv_bipush (v := nI 125) hx hb d_M_commit_23 (by decide) ?_
      first | refine x_aload_n hx hb d_M_commit_25 hl rfl ?_ | refine x_aload_nQ hx hb d_M_commit_25 hl rfl ?_
      refine m_get hx hb hts hown hK hw ci_M (rf_at hI 0 (by decide) rfl) 3 (by decide) (wm3 75 rfl rfl) rfl d_M_commit_26 ?_
      refine x_iload_n hx hb d_M_commit_29 hl rfl ?_
      refine rl_3 hx hb hK hI hB hw (by omega) d_M_commit_30 (fun hv30 => ?_)
      first | refine x_imul hx hb d_M_commit_31 ?_ | refine lv_imul hx hb d_M_commit_31 ?_
      refine rl_0 hx hb hK hI hB hw (by omega) d_M_commit_32 (fun hv32 => ?_)
      refine x_istore_n hx hb d_M_commit_33 hl (Nat.le_of_ble_eq_true rfl) (lh_k (i := 1) rfl (by first | exact lk_n | exact lk_i | exact lk_r | exact lk_q | exact lk_0)) (fun ls hl => ?_)
      first | refine x_aload_n hx hb d_M_commit_34 hl rfl ?_ | refine x_aload_nQ hx hb d_M_commit_34 hl rfl ?_
      refine m_get hx hb hts hown hK hw ci_M (rf_at hI 0 (by decide) rfl) 0 (by decide) (wm3 72 rfl rfl) rfl d_M_commit_35 ?_
      refine lv_bipush (v := nI 125) hx hb d_M_commit_38 (by decide) ?_
      first | refine x_aload_n hx hb d_M_commit_40 hl rfl ?_ | refine x_aload_nQ hx hb d_M_commit_40 hl rfl ?_
      refine m_get hx hb hts hown hK hw ci_M (rf_at hI 0 (by decide) rfl) 1 (by decide) (wm3 73 rfl rfl) rfl d_M_commit_41 ?_
      have hs41 := hB 1 0 (by decide) (by decide)
      first | refine x_imul hx hb d_M_commit_44 ?_ | refine lv_imul hx hb d_M_commit_44 ?_
      refine rl_0 hx hb hK hI hB hw (by omega) d_M_commit_45 (fun hv45 => ?_)
      refine x_istore_n hx hb d_M_commit_46 hl (Nat.le_of_ble_eq_true rfl) (lh_k (i := 2) rfl (by first | exact lk_n | exact lk_i | exact lk_r | exact lk_q | exact lk_0)) (fun ls hl => ?_)
      first | refine x_aload_n hx hb d_M_commit_47 hl rfl ?_ | refine x_aload_nQ hx hb d_M_commit_47 hl rfl ?_
      refine m_get hx hb hts hown hK hw ci_M (rf_at hI 0 (by decide) rfl) 0 (by decide) (wm3 72 rfl rfl) rfl d_M_commit_48 ?_
      refine lv_sipush (v := nI 2000) hx hb d_M_commit_51 (by decide) ?_
      refine lv_bipush (v := nI 125) hx hb d_M_commit_54 (by decide) ?_
      refine x_iload_n hx hb d_M_commit_56 hl rfl ?_
      first | refine x_imul hx hb d_M_commit_57 ?_ | refine lv_imul hx hb d_M_commit_57 ?_
      first | refine x_iadd hx hb d_M_commit_58 ?_ | refine lv_iadd hx hb d_M_commit_58 ?_
      refine rl_0 hx hb hK hI hB hw (by omega) d_M_commit_59 (fun hv59 => ?_)
      refine x_istore hx hb d_M_commit_60 hl (Nat.le_of_ble_eq_true rfl) (lh_k (i := 3) rfl (by first | exact lk_n | exact lk_i | exact lk_r | exact lk_q | exact lk_0)) (fun ls hl => ?_)
      refine x_iload_n hx hb d_M_commit_62 hl rfl ?_
      refine x_iload_n hx hb d_M_commit_63 hl rfl ?_
      refine x_icmp_eq hx hb d_M_commit_64 rfl (by omega) (by omega) (fun h64 => ?_) (fun h64 => ?_)
      · have hc1 := cm1_s h64
        refine x_iload_n hx hb d_M_commit_88 hl rfl ?_
        refine x_iload_n hx hb d_M_commit_89 hl rfl ?_
        refine x_icmp_eq hx hb d_M_commit_90 rfl (by omega) (by omega) (fun h90 => ?_) (fun h90 => ?_)
        · first
            | exact absurd h90 (by omega)
            | have hyt : (cm1 σ t).1 1 0 ≤ 14 := hy14
              rw [hc1] at hyt
              exact tail _ H locs ls hB hyt hw (lh_drop 2 (lh_drop 3 (lh_drop 4 (lh_drop 5 hl)))) (by rw [hc1]) (by rw [hc1])
        · first
            | exact absurd h90 (by omega)
            | first | refine x_aload_n hx hb d_M_commit_93 hl rfl ?_ | refine x_aload_nQ hx hb d_M_commit_93 hl rfl ?_
              refine x_iload_n hx hb d_M_commit_94 hl rfl ?_
              refine lv_iconst (v := nI 0) hx hb d_M_commit_95 (by decide) ?_
              refine m_calli (k_V ⟨hx, hb, hml, hown, hts⟩ hE hA hw (c_M_merge (d := false) hI hB (by omega) hM9) (ci_M).1 rfl (rf_at hI 0 (by decide) rfl) (wm3 211 rfl rfl) (wm3 213 rfl rfl) (wmp2 11 rfl) (wm1 9 rfl rfl) (wm3 214 rfl rfl) rfl rfl ar_M_merge ⟨Nat.le_trans (Nat.le_of_ble_eq_true rfl) hR.1, Nat.le_trans (Nat.le_of_ble_eq_true rfl) hR.2.1⟩ rfl hl.1 rfl (Nat.le_of_ble_eq_true rfl) d_M_commit_96 ⟨Nat.le_trans (Nat.le_of_ble_eq_true rfl) hR.2.2.1, Nat.le_trans (Nat.le_of_ble_eq_true rfl) hR.2.2.2⟩) hw (mfr_in hw hA) (fun r96 M96 H locs hP96 hw => ?_)
              obtain ⟨rfl, hM96, hB⟩ := hP96
              rw [hM96, mg1_f] at hw
              rw [mg1_f] at hB
              refine x_istore hx hb d_M_commit_99 hl (Nat.le_of_ble_eq_true rfl) (lh_k (i := 4) rfl (by first | exact lk_n | exact lk_i | exact lk_r | exact lk_q | exact lk_0)) (fun ls hl => ?_)
              refine x_iload hx hb d_M_commit_101 hl rfl ?_
              refine lv_if_lt hx hb d_M_commit_103 rfl (fun h103 => ?_) (fun h103 => ?_)
              · have h103 := mI_lt (by have := mg1_2 (t := t) (d := false) 4 σ; omega) h103
                have hc1 := cm1_j h64 h70 h103
                first | refine x_aload_n hx hb d_M_commit_112 hl rfl ?_ | refine x_aload_nQ hx hb d_M_commit_112 hl rfl ?_
                refine x_iload_n hx hb d_M_commit_113 hl rfl ?_
                refine lv_iconst (v := nI 1) hx hb d_M_commit_114 (by decide) ?_
                refine m_calli (k_V ⟨hx, hb, hml, hown, hts⟩ hE hA hw (c_M_merge (d := true) hI hB (by omega) hM9) (ci_M).1 rfl (rf_at hI 0 (by decide) rfl) (wm3 211 rfl rfl) (wm3 213 rfl rfl) (wmp2 11 rfl) (wm1 9 rfl rfl) (wm3 214 rfl rfl) rfl rfl ar_M_merge ⟨Nat.le_trans (Nat.le_of_ble_eq_true rfl) hR.1, Nat.le_trans (Nat.le_of_ble_eq_true rfl) hR.2.1⟩ rfl hl.1 rfl (Nat.le_of_ble_eq_true rfl) d_M_commit_115 ⟨Nat.le_trans (Nat.le_of_ble_eq_true rfl) hR.2.2.1, Nat.le_trans (Nat.le_of_ble_eq_true rfl) hR.2.2.2⟩) hw (mfr_in hw hA) (fun r115 M115 H locs hP115 hw => ?_)
                obtain ⟨rfl, hM115, hB⟩ := hP115
                rw [hM115] at hw
                first | refine lv_pop hx hb d_M_commit_118 rfl ?_ | refine lv_pop hx hb d_M_commit_118 (va_rf_c _) ?_
                have hM8 := MJ_1 (t := t) (d := true) 4 100 σ (by omega) hM9
                first | refine x_aload_n hx hb d_M_commit_119 hl rfl ?_ | refine x_aload_nQ hx hb d_M_commit_119 hl rfl ?_
                refine x_iload_n hx hb d_M_commit_120 hl rfl ?_
                refine lv_iconst (v := nI 0) hx hb d_M_commit_121 (by decide) ?_
                refine m_callv (k_V ⟨hx, hb, hml, hown, hts⟩ hE hA hw (c_M_join (q := 0) hI hB (by omega) (by omega) (by have := hM8.2.2.2.2 ((mg1 t true 4 σ).1 0 (125 * (mg1 t true 4 σ).1 1 0 + 0)); omega) hM8.2.2.1 hM8.2.1) (ci_M).1 rfl (rf_at hI 0 (by decide) rfl) (wm3 227 rfl rfl) (wm3 229 rfl rfl) (wmp2 15 rfl) (wm1 9 rfl rfl) (wm3 230 rfl rfl) rfl rfl ar_M_join ⟨Nat.le_trans (Nat.le_of_ble_eq_true rfl) hR.1, Nat.le_trans (Nat.le_of_ble_eq_true rfl) hR.2.1⟩ rfl hl.1 rfl (Nat.le_of_ble_eq_true rfl) d_M_commit_122 ⟨Nat.le_trans (Nat.le_of_ble_eq_true rfl) hR.2.2.1, Nat.le_trans (Nat.le_of_ble_eq_true rfl) hR.2.2.2⟩) hw (mfr_in hw hA) (fun M122 H locs hP122 hw => ?_)
                obtain ⟨hM122, hB⟩ := hP122
                rw [hM122] at hw
                have hyt : (cm1 σ t).1 1 0 ≤ 14 := hy14
                rw [hc1] at hyt
                exact tail _ H locs ls hB hyt hw (lh_drop 2 (lh_drop 3 (lh_drop 4 (lh_drop 5 hl)))) (by rw [hc1]) (by rw [hc1])
              · have h103 := mI_nlt h103
                have hc1 := cm1_c h64 h70 h103
                rw [mI_n h103] at hl
                have h2 : (cm1 σ t).2 ≠ 125 := by rw [hc1]; exact h103
                refine lv_bipush (v := (-2)) hx hb d_M_commit_106 (by decide) ?_
                refine x_iload hx hb d_M_commit_108 hl rfl ?_
                refine lv_isub hx hb d_M_commit_110 ?_
                exact x_reti hQ hx hb hr hlk rfl hw (by omega) (by omega) d_M_commit_111 (by rw [tx_n ht, cmA_c hcm h2, cmO_c hcm h2, hc1]; exact ⟨rfl, rfl, hB⟩)
      · refine x_iload hx hb d_M_commit_67 hl rfl ?_
        refine x_iload_n hx hb d_M_commit_69 hl rfl ?_
        refine x_icmp_ne hx hb d_M_commit_70 rfl (by omega) (by omega) (fun h70 => ?_) (fun h70 => ?_)
        · skip
          refine x_iload_n hx hb d_M_commit_88 hl rfl ?_
          refine x_iload_n hx hb d_M_commit_89 hl rfl ?_
          refine x_icmp_eq hx hb d_M_commit_90 rfl (by omega) (by omega) (fun h90 => ?_) (fun h90 => ?_)
          · first
              | exact absurd h90 (by omega)
              | have hyt : (cm1 σ t).1 1 0 ≤ 14 := hy14
                rw [hc1] at hyt
                exact tail _ H locs ls hB hyt hw (lh_drop 2 (lh_drop 3 (lh_drop 4 (lh_drop 5 hl)))) (by rw [hc1]) (by rw [hc1])
          · first
              | exact absurd h90 (by omega)
              | first | refine x_aload_n hx hb d_M_commit_93 hl rfl ?_ | refine x_aload_nQ hx hb d_M_commit_93 hl rfl ?_
                refine x_iload_n hx hb d_M_commit_94 hl rfl ?_
                refine lv_iconst (v := nI 0) hx hb d_M_commit_95 (by decide) ?_
                refine m_calli (k_V ⟨hx, hb, hml, hown, hts⟩ hE hA hw (c_M_merge (d := false) hI hB (by omega) hM9) (ci_M).1 rfl (rf_at hI 0 (by decide) rfl) (wm3 211 rfl rfl) (wm3 213 rfl rfl) (wmp2 11 rfl) (wm1 9 rfl rfl) (wm3 214 rfl rfl) rfl rfl ar_M_merge ⟨Nat.le_trans (Nat.le_of_ble_eq_true rfl) hR.1, Nat.le_trans (Nat.le_of_ble_eq_true rfl) hR.2.1⟩ rfl hl.1 rfl (Nat.le_of_ble_eq_true rfl) d_M_commit_96 ⟨Nat.le_trans (Nat.le_of_ble_eq_true rfl) hR.2.2.1, Nat.le_trans (Nat.le_of_ble_eq_true rfl) hR.2.2.2⟩) hw (mfr_in hw hA) (fun r96 M96 H locs hP96 hw => ?_)
                obtain ⟨rfl, hM96, hB⟩ := hP96
                rw [hM96, mg1_f] at hw
                rw [mg1_f] at hB
                refine x_istore hx hb d_M_commit_99 hl (Nat.le_of_ble_eq_true rfl) (lh_k (i := 4) rfl (by first | exact lk_n | exact lk_i | exact lk_r | exact lk_q | exact lk_0)) (fun ls hl => ?_)
                refine x_iload hx hb d_M_commit_101 hl rfl ?_
                refine lv_if_lt hx hb d_M_commit_103 rfl (fun h103 => ?_) (fun h103 => ?_)
                · have h103 := mI_lt (by have := mg1_2 (t := t) (d := false) 4 σ; omega) h103
                  have hc1 := cm1_j h64 h70 h103
                  first | refine x_aload_n hx hb d_M_commit_112 hl rfl ?_ | refine x_aload_nQ hx hb d_M_commit_112 hl rfl ?_
                  refine x_iload_n hx hb d_M_commit_113 hl rfl ?_
                  refine lv_iconst (v := nI 1) hx hb d_M_commit_114 (by decide) ?_
                  refine m_calli (k_V ⟨hx, hb, hml, hown, hts⟩ hE hA hw (c_M_merge (d := true) hI hB (by omega) hM9) (ci_M).1 rfl (rf_at hI 0 (by decide) rfl) (wm3 211 rfl rfl) (wm3 213 rfl rfl) (wmp2 11 rfl) (wm1 9 rfl rfl) (wm3 214 rfl rfl) rfl rfl ar_M_merge ⟨Nat.le_trans (Nat.le_of_ble_eq_true rfl) hR.1, Nat.le_trans (Nat.le_of_ble_eq_true rfl) hR.2.1⟩ rfl hl.1 rfl (Nat.le_of_ble_eq_true rfl) d_M_commit_115 ⟨Nat.le_trans (Nat.le_of_ble_eq_true rfl) hR.2.2.1, Nat.le_trans (Nat.le_of_ble_eq_true rfl) hR.2.2.2⟩) hw (mfr_in hw hA) (fun r115 M115 H locs hP115 hw => ?_)
                  obtain ⟨rfl, hM115, hB⟩ := hP115
                  rw [hM115] at hw
                  first | refine lv_pop hx hb d_M_commit_118 rfl ?_ | refine lv_pop hx hb d_M_commit_118 (va_rf_c _) ?_
                  have hM8 := MJ_1 (t := t) (d := true) 4 100 σ (by omega) hM9
                  first | refine x_aload_n hx hb d_M_commit_119 hl rfl ?_ | refine x_aload_nQ hx hb d_M_commit_119 hl rfl ?_
                  refine x_iload_n hx hb d_M_commit_120 hl rfl ?_
                  refine lv_iconst (v := nI 0) hx hb d_M_commit_121 (by decide) ?_
                  refine m_callv (k_V ⟨hx, hb, hml, hown, hts⟩ hE hA hw (c_M_join (q := 0) hI hB (by omega) (by omega) (by have := hM8.2.2.2.2 ((mg1 t true 4 σ).1 0 (125 * (mg1 t true 4 σ).1 1 0 + 0)); omega) hM8.2.2.1 hM8.2.1) (ci_M).1 rfl (rf_at hI 0 (by decide) rfl) (wm3 227 rfl rfl) (wm3 229 rfl rfl) (wmp2 15 rfl) (wm1 9 rfl rfl) (wm3 230 rfl rfl) rfl rfl ar_M_join ⟨Nat.le_trans (Nat.le_of_ble_eq_true rfl) hR.1, Nat.le_trans (Nat.le_of_ble_eq_true rfl) hR.2.1⟩ rfl hl.1 rfl (Nat.le_of_ble_eq_true rfl) d_M_commit_122 ⟨Nat.le_trans (Nat.le_of_ble_eq_true rfl) hR.2.2.1, Nat.le_trans (Nat.le_of_ble_eq_true rfl) hR.2.2.2⟩) hw (mfr_in hw hA) (fun M122 H locs hP122 hw => ?_)
                  obtain ⟨hM122, hB⟩ := hP122
                  rw [hM122] at hw
                  have hyt : (cm1 σ t).1 1 0 ≤ 14 := hy14
                  rw [hc1] at hyt
                  exact tail _ H locs ls hB hyt hw (lh_drop 2 (lh_drop 3 (lh_drop 4 (lh_drop 5 hl)))) (by rw [hc1]) (by rw [hc1])
                · have h103 := mI_nlt h103
                  have hc1 := cm1_c h64 h70 h103
                  rw [mI_n h103] at hl
                  have h2 : (cm1 σ t).2 ≠ 125 := by rw [hc1]; exact h103
                  refine lv_bipush (v := (-2)) hx hb d_M_commit_106 (by decide) ?_
                  refine x_iload hx hb d_M_commit_108 hl rfl ?_
                  refine lv_isub hx hb d_M_commit_110 ?_
                  exact x_reti hQ hx hb hr hlk rfl hw (by omega) (by omega) d_M_commit_111 (by rw [tx_n ht, cmA_c hcm h2, cmO_c hcm h2, hc1]; exact ⟨rfl, rfl, hB⟩)
        · have hc1 := cm1_f h64 h70
          first | refine x_aload_n hx hb d_M_commit_73 hl rfl ?_ | refine x_aload_nQ hx hb d_M_commit_73 hl rfl ?_
          refine lv_bipush (v := nI 16) hx hb d_M_commit_74 (by decide) ?_
          refine x_iload_n hx hb d_M_commit_76 hl rfl ?_
          first | refine x_iadd hx hb d_M_commit_77 ?_ | refine lv_iadd hx hb d_M_commit_77 ?_
          first | refine x_aload_n hx hb d_M_commit_78 hl rfl ?_ | refine x_aload_nQ hx hb d_M_commit_78 hl rfl ?_
          refine m_get hx hb hts hown hK hw ci_M (rf_at hI 0 (by decide) rfl) 1 (by decide) (wm3 73 rfl rfl) rfl d_M_commit_79 ?_
          have hs79 := hB 1 0 (by decide) (by decide)
          refine m_callv (k_V ⟨hx, hb, hml, hown, hts⟩ hE hA hw (c_M_fill hI hB (by omega) (by omega) (by omega)) (ci_M).1 rfl (rf_at hI 0 (by decide) rfl) (wm3 145 rfl rfl) (wm3 147 rfl rfl) (wmp2 4 rfl) (wm1 9 rfl rfl) (wm3 148 rfl rfl) rfl rfl ar_M_fill ⟨Nat.le_trans (Nat.le_of_ble_eq_true rfl) hR.1, Nat.le_trans (Nat.le_of_ble_eq_true rfl) hR.2.1⟩ rfl hl.1 rfl (Nat.le_of_ble_eq_true rfl) d_M_commit_82 ⟨Nat.le_trans (Nat.le_of_ble_eq_true rfl) hR.2.2.1, Nat.le_trans (Nat.le_of_ble_eq_true rfl) hR.2.2.2⟩) hw (mfr_in hw hA) (fun M82 H locs hP82 hw => ?_)
          obtain ⟨hM82, hB⟩ := hP82
          rw [hM82] at hw
          refine lv_goto hx hb d_M_commit_85 rfl ?_
          have hyt : (cm1 σ t).1 1 0 ≤ 14 := hy14
          rw [hc1] at hyt
          exact tail _ H locs ls hB hyt hw (lh_drop 2 (lh_drop 3 (lh_drop 4 (lh_drop 5 hl)))) (by rw [hc1]) (by rw [hc1])
    · refine lv_iconst (v := -1) hx hb d_M_commit_17 (by decide) ?_
      exact x_reti hQ hx hb hr hlk rfl hw (by omega) (by omega) d_M_commit_18 (by first | (rw [cmA_f (cmb_1 h5), cmO_f (cmb_1 h5)]; exact ⟨rfl, rfl, hB⟩) | (rw [tx_n ht, cmA_f (cmb_2 h14), cmO_f (cmb_2 h14)]; exact ⟨rfl, rfl, hB⟩))
end
