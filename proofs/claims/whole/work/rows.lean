section
-- ===== PART A: goes FIRST, ahead of the names: the tables' words, and 'selects' of the private methods out of them =====
/-- a private method of a class that the tables say can be made, by its rows of tables_1 -/
def lw_okq (q : MethodName × Nat) : Prop := (q.1.cls ≠ "java/lang/invoke/MethodHandle" ∧ q.1.cls ≠ "java/lang/invoke/VarHandle") ∧ Cond.instantiable q.1.cls q.2 ∈ tables_1 ∧ Cond.privateMethod q.1 ∈ tables_1 ∧ Cond.instanceMethod q.1 ∈ tables_1
theorem lw_p0 : lw_okq (⟨"MonotonePostings", "mixList", "(JLMonotonePostings$Postings;)J"⟩, 6) := ⟨⟨by decide +kernel, by decide +kernel⟩, List.mem_of_getElem? (i := 18) (by decide +kernel), List.mem_of_getElem? (i := 181) (by decide +kernel), List.mem_of_getElem? (i := 182) (by decide +kernel)⟩
theorem lw_p1 : lw_okq (⟨"MonotonePostings$CodeRow", "putHeader", "(LMonotonePostings$Postings;I)V"⟩, 2) := ⟨⟨by decide +kernel, by decide +kernel⟩, List.mem_of_getElem? (i := 130) (by decide +kernel), List.mem_of_getElem? (i := 200) (by decide +kernel), List.mem_of_getElem? (i := 201) (by decide +kernel)⟩
theorem lw_p2 : lw_okq (⟨"MonotonePostings$CodeRow", "put", "(II)V"⟩, 2) := ⟨⟨by decide +kernel, by decide +kernel⟩, List.mem_of_getElem? (i := 130) (by decide +kernel), List.mem_of_getElem? (i := 204) (by decide +kernel), List.mem_of_getElem? (i := 205) (by decide +kernel)⟩
theorem lw_p3 : lw_okq (⟨"MonotonePostings$CodeRow", "putBitmap", "(LMonotonePostings$Postings;II)V"⟩, 2) := ⟨⟨by decide +kernel, by decide +kernel⟩, List.mem_of_getElem? (i := 130) (by decide +kernel), List.mem_of_getElem? (i := 213) (by decide +kernel), List.mem_of_getElem? (i := 214) (by decide +kernel)⟩
theorem lw_p4 : lw_okq (⟨"MonotonePostings$CodeRow", "setBit", "(I)V"⟩, 2) := ⟨⟨by decide +kernel, by decide +kernel⟩, List.mem_of_getElem? (i := 130) (by decide +kernel), List.mem_of_getElem? (i := 221) (by decide +kernel), List.mem_of_getElem? (i := 222) (by decide +kernel)⟩
theorem lw_p5 : lw_okq (⟨"MonotonePostings$CodeRow", "putHighParts", "(LMonotonePostings$Postings;II)V"⟩, 2) := ⟨⟨by decide +kernel, by decide +kernel⟩, List.mem_of_getElem? (i := 130) (by decide +kernel), List.mem_of_getElem? (i := 225) (by decide +kernel), List.mem_of_getElem? (i := 226) (by decide +kernel)⟩
theorem lw_p6 : lw_okq (⟨"MonotonePostings$CodeRow", "putLowParts", "(LMonotonePostings$Postings;II)V"⟩, 2) := ⟨⟨by decide +kernel, by decide +kernel⟩, List.mem_of_getElem? (i := 130) (by decide +kernel), List.mem_of_getElem? (i := 232) (by decide +kernel), List.mem_of_getElem? (i := 233) (by decide +kernel)⟩
theorem lw_p7 : lw_okq (⟨"MonotonePostings", "listAt", "(I)LMonotonePostings$Postings;"⟩, 6) := ⟨⟨by decide +kernel, by decide +kernel⟩, List.mem_of_getElem? (i := 18) (by decide +kernel), List.mem_of_getElem? (i := 250) (by decide +kernel), List.mem_of_getElem? (i := 251) (by decide +kernel)⟩
theorem lw_p8 : lw_okq (⟨"java/lang/Throwable", "fillInStackTrace", "(I)Ljava/lang/Throwable;"⟩, 6) := ⟨⟨by decide +kernel, by decide +kernel⟩, List.mem_of_getElem? (i := 298) (by decide +kernel), List.mem_of_getElem? (i := 296) (by decide +kernel), List.mem_of_getElem? (i := 297) (by decide +kernel)⟩
theorem lw_p9 : lw_okq (⟨"MonotonePostings", "recode", "(I)V"⟩, 6) := ⟨⟨by decide +kernel, by decide +kernel⟩, List.mem_of_getElem? (i := 18) (by decide +kernel), List.mem_of_getElem? (i := 396) (by decide +kernel), List.mem_of_getElem? (i := 397) (by decide +kernel)⟩
theorem lw_p10 : lw_okq (⟨"MonotonePostings$Partitioner", "chooseEnd", "(LMonotonePostings$Postings;I)V"⟩, 2) := ⟨⟨by decide +kernel, by decide +kernel⟩, List.mem_of_getElem? (i := 117) (by decide +kernel), List.mem_of_getElem? (i := 404) (by decide +kernel), List.mem_of_getElem? (i := 405) (by decide +kernel)⟩
theorem lw_p11 : lw_okq (⟨"MonotonePostings$Cache", "dropBetween", "(II)I"⟩, 3) := ⟨⟨by decide +kernel, by decide +kernel⟩, List.mem_of_getElem? (i := 34) (by decide +kernel), List.mem_of_getElem? (i := 433) (by decide +kernel), List.mem_of_getElem? (i := 434) (by decide +kernel)⟩
theorem lw_p12 : lw_okq (⟨"MonotonePostings", "writeResult", "(II)I"⟩, 6) := ⟨⟨by decide +kernel, by decide +kernel⟩, List.mem_of_getElem? (i := 18) (by decide +kernel), List.mem_of_getElem? (i := 448) (by decide +kernel), List.mem_of_getElem? (i := 449) (by decide +kernel)⟩
theorem lw_p13 : lw_okq (⟨"MonotonePostings$State", "queryInside", "(III)I"⟩, 4) := ⟨⟨by decide +kernel, by decide +kernel⟩, List.mem_of_getElem? (i := 26) (by decide +kernel), List.mem_of_getElem? (i := 549) (by decide +kernel), List.mem_of_getElem? (i := 550) (by decide +kernel)⟩
theorem lw_p14 : lw_okq (⟨"MonotonePostings$Cache", "shrinkTo", "(I)V"⟩, 3) := ⟨⟨by decide +kernel, by decide +kernel⟩, List.mem_of_getElem? (i := 34) (by decide +kernel), List.mem_of_getElem? (i := 558) (by decide +kernel), List.mem_of_getElem? (i := 559) (by decide +kernel)⟩
theorem lw_p15 : lw_okq (⟨"MonotonePostings", "findIntersection", "(I)I"⟩, 6) := ⟨⟨by decide +kernel, by decide +kernel⟩, List.mem_of_getElem? (i := 18) (by decide +kernel), List.mem_of_getElem? (i := 578) (by decide +kernel), List.mem_of_getElem? (i := 579) (by decide +kernel)⟩
def lw_privs_1 : List (MethodName × Nat) := [(⟨"MonotonePostings", "mixList", "(JLMonotonePostings$Postings;)J"⟩, 6), (⟨"MonotonePostings$CodeRow", "putHeader", "(LMonotonePostings$Postings;I)V"⟩, 2), (⟨"MonotonePostings$CodeRow", "put", "(II)V"⟩, 2), (⟨"MonotonePostings$CodeRow", "putBitmap", "(LMonotonePostings$Postings;II)V"⟩, 2), (⟨"MonotonePostings$CodeRow", "setBit", "(I)V"⟩, 2), (⟨"MonotonePostings$CodeRow", "putHighParts", "(LMonotonePostings$Postings;II)V"⟩, 2), (⟨"MonotonePostings$CodeRow", "putLowParts", "(LMonotonePostings$Postings;II)V"⟩, 2), (⟨"MonotonePostings", "listAt", "(I)LMonotonePostings$Postings;"⟩, 6), (⟨"java/lang/Throwable", "fillInStackTrace", "(I)Ljava/lang/Throwable;"⟩, 6), (⟨"MonotonePostings", "recode", "(I)V"⟩, 6), (⟨"MonotonePostings$Partitioner", "chooseEnd", "(LMonotonePostings$Postings;I)V"⟩, 2), (⟨"MonotonePostings$Cache", "dropBetween", "(II)I"⟩, 3), (⟨"MonotonePostings", "writeResult", "(II)I"⟩, 6), (⟨"MonotonePostings$State", "queryInside", "(III)I"⟩, 4), (⟨"MonotonePostings$Cache", "shrinkTo", "(I)V"⟩, 3), (⟨"MonotonePostings", "findIntersection", "(I)I"⟩, 6)]
theorem lw_r1 : ∀ q ∈ lw_privs_1, lw_okq q := List.forall_mem_cons.mpr ⟨lw_p0, List.forall_mem_cons.mpr ⟨lw_p1, List.forall_mem_cons.mpr ⟨lw_p2, List.forall_mem_cons.mpr ⟨lw_p3, List.forall_mem_cons.mpr ⟨lw_p4, List.forall_mem_cons.mpr ⟨lw_p5, List.forall_mem_cons.mpr ⟨lw_p6, List.forall_mem_cons.mpr ⟨lw_p7, List.forall_mem_cons.mpr ⟨lw_p8, List.forall_mem_cons.mpr ⟨lw_p9, List.forall_mem_cons.mpr ⟨lw_p10, List.forall_mem_cons.mpr ⟨lw_p11, List.forall_mem_cons.mpr ⟨lw_p12, List.forall_mem_cons.mpr ⟨lw_p13, List.forall_mem_cons.mpr ⟨lw_p14, List.forall_mem_cons.mpr ⟨lw_p15, fun _ h => absurd h List.not_mem_nil⟩⟩⟩⟩⟩⟩⟩⟩⟩⟩⟩⟩⟩⟩⟩⟩
theorem lw_p16 : lw_okq (⟨"MonotonePostings", "orderLists", "(I)I"⟩, 6) := ⟨⟨by decide +kernel, by decide +kernel⟩, List.mem_of_getElem? (i := 18) (by decide +kernel), List.mem_of_getElem? (i := 582) (by decide +kernel), List.mem_of_getElem? (i := 583) (by decide +kernel)⟩
theorem lw_p17 : lw_okq (⟨"MonotonePostings", "askOthers", "(II)I"⟩, 6) := ⟨⟨by decide +kernel, by decide +kernel⟩, List.mem_of_getElem? (i := 18) (by decide +kernel), List.mem_of_getElem? (i := 586) (by decide +kernel), List.mem_of_getElem? (i := 587) (by decide +kernel)⟩
theorem lw_p18 : lw_okq (⟨"MonotonePostings", "mergeIntoResult", "(LMonotonePostings$Postings;LMonotonePostings$Postings;)I"⟩, 6) := ⟨⟨by decide +kernel, by decide +kernel⟩, List.mem_of_getElem? (i := 18) (by decide +kernel), List.mem_of_getElem? (i := 604) (by decide +kernel), List.mem_of_getElem? (i := 605) (by decide +kernel)⟩
theorem lw_p19 : lw_okq (⟨"MonotonePostings", "differenceIntoResult", "(LMonotonePostings$Postings;LMonotonePostings$Postings;)I"⟩, 6) := ⟨⟨by decide +kernel, by decide +kernel⟩, List.mem_of_getElem? (i := 18) (by decide +kernel), List.mem_of_getElem? (i := 616) (by decide +kernel), List.mem_of_getElem? (i := 617) (by decide +kernel)⟩
theorem lw_p20 : lw_okq (⟨"MonotonePostingsModel", "fails", "(I)I"⟩, 12) := ⟨⟨by decide +kernel, by decide +kernel⟩, List.mem_of_getElem? (i := 650) (by decide +kernel), List.mem_of_getElem? (i := 708) (by decide +kernel), List.mem_of_getElem? (i := 709) (by decide +kernel)⟩
theorem lw_p21 : lw_okq (⟨"MonotonePostingsModel", "isBehind", "(II)Z"⟩, 12) := ⟨⟨by decide +kernel, by decide +kernel⟩, List.mem_of_getElem? (i := 650) (by decide +kernel), List.mem_of_getElem? (i := 712) (by decide +kernel), List.mem_of_getElem? (i := 713) (by decide +kernel)⟩
theorem lw_p22 : lw_okq (⟨"MonotonePostingsModel", "doc", "(II)I"⟩, 12) := ⟨⟨by decide +kernel, by decide +kernel⟩, List.mem_of_getElem? (i := 650) (by decide +kernel), List.mem_of_getElem? (i := 716) (by decide +kernel), List.mem_of_getElem? (i := 717) (by decide +kernel)⟩
theorem lw_p23 : lw_okq (⟨"MonotonePostingsModel", "save", "()V"⟩, 12) := ⟨⟨by decide +kernel, by decide +kernel⟩, List.mem_of_getElem? (i := 650) (by decide +kernel), List.mem_of_getElem? (i := 720) (by decide +kernel), List.mem_of_getElem? (i := 721) (by decide +kernel)⟩
theorem lw_p24 : lw_okq (⟨"MonotonePostingsModel", "changes", "(I)V"⟩, 12) := ⟨⟨by decide +kernel, by decide +kernel⟩, List.mem_of_getElem? (i := 650) (by decide +kernel), List.mem_of_getElem? (i := 724) (by decide +kernel), List.mem_of_getElem? (i := 725) (by decide +kernel)⟩
theorem lw_p25 : lw_okq (⟨"MonotonePostingsModel", "drop", "(I)V"⟩, 12) := ⟨⟨by decide +kernel, by decide +kernel⟩, List.mem_of_getElem? (i := 650) (by decide +kernel), List.mem_of_getElem? (i := 728) (by decide +kernel), List.mem_of_getElem? (i := 729) (by decide +kernel)⟩
theorem lw_p26 : lw_okq (⟨"MonotonePostingsModel", "add", "(II)V"⟩, 12) := ⟨⟨by decide +kernel, by decide +kernel⟩, List.mem_of_getElem? (i := 650) (by decide +kernel), List.mem_of_getElem? (i := 732) (by decide +kernel), List.mem_of_getElem? (i := 733) (by decide +kernel)⟩
theorem lw_p27 : lw_okq (⟨"MonotonePostingsModel", "lay", "(I)V"⟩, 12) := ⟨⟨by decide +kernel, by decide +kernel⟩, List.mem_of_getElem? (i := 650) (by decide +kernel), List.mem_of_getElem? (i := 760) (by decide +kernel), List.mem_of_getElem? (i := 761) (by decide +kernel)⟩
theorem lw_p28 : lw_okq (⟨"MonotonePostingsModel", "sizeOf", "(III)I"⟩, 12) := ⟨⟨by decide +kernel, by decide +kernel⟩, List.mem_of_getElem? (i := 650) (by decide +kernel), List.mem_of_getElem? (i := 765) (by decide +kernel), List.mem_of_getElem? (i := 766) (by decide +kernel)⟩
theorem lw_p29 : lw_okq (⟨"MonotonePostingsModel", "property", "(III)I"⟩, 12) := ⟨⟨by decide +kernel, by decide +kernel⟩, List.mem_of_getElem? (i := 650) (by decide +kernel), List.mem_of_getElem? (i := 782) (by decide +kernel), List.mem_of_getElem? (i := 783) (by decide +kernel)⟩
theorem lw_p30 : lw_okq (⟨"MonotonePostingsModel", "kindIn", "(II)I"⟩, 12) := ⟨⟨by decide +kernel, by decide +kernel⟩, List.mem_of_getElem? (i := 650) (by decide +kernel), List.mem_of_getElem? (i := 786) (by decide +kernel), List.mem_of_getElem? (i := 787) (by decide +kernel)⟩
theorem lw_p31 : lw_okq (⟨"MonotonePostingsModel", "documentsIn", "(II)I"⟩, 12) := ⟨⟨by decide +kernel, by decide +kernel⟩, List.mem_of_getElem? (i := 650) (by decide +kernel), List.mem_of_getElem? (i := 790) (by decide +kernel), List.mem_of_getElem? (i := 791) (by decide +kernel)⟩
def lw_privs_2 : List (MethodName × Nat) := [(⟨"MonotonePostings", "orderLists", "(I)I"⟩, 6), (⟨"MonotonePostings", "askOthers", "(II)I"⟩, 6), (⟨"MonotonePostings", "mergeIntoResult", "(LMonotonePostings$Postings;LMonotonePostings$Postings;)I"⟩, 6), (⟨"MonotonePostings", "differenceIntoResult", "(LMonotonePostings$Postings;LMonotonePostings$Postings;)I"⟩, 6), (⟨"MonotonePostingsModel", "fails", "(I)I"⟩, 12), (⟨"MonotonePostingsModel", "isBehind", "(II)Z"⟩, 12), (⟨"MonotonePostingsModel", "doc", "(II)I"⟩, 12), (⟨"MonotonePostingsModel", "save", "()V"⟩, 12), (⟨"MonotonePostingsModel", "changes", "(I)V"⟩, 12), (⟨"MonotonePostingsModel", "drop", "(I)V"⟩, 12), (⟨"MonotonePostingsModel", "add", "(II)V"⟩, 12), (⟨"MonotonePostingsModel", "lay", "(I)V"⟩, 12), (⟨"MonotonePostingsModel", "sizeOf", "(III)I"⟩, 12), (⟨"MonotonePostingsModel", "property", "(III)I"⟩, 12), (⟨"MonotonePostingsModel", "kindIn", "(II)I"⟩, 12), (⟨"MonotonePostingsModel", "documentsIn", "(II)I"⟩, 12)]
theorem lw_r2 : ∀ q ∈ lw_privs_2, lw_okq q := List.forall_mem_cons.mpr ⟨lw_p16, List.forall_mem_cons.mpr ⟨lw_p17, List.forall_mem_cons.mpr ⟨lw_p18, List.forall_mem_cons.mpr ⟨lw_p19, List.forall_mem_cons.mpr ⟨lw_p20, List.forall_mem_cons.mpr ⟨lw_p21, List.forall_mem_cons.mpr ⟨lw_p22, List.forall_mem_cons.mpr ⟨lw_p23, List.forall_mem_cons.mpr ⟨lw_p24, List.forall_mem_cons.mpr ⟨lw_p25, List.forall_mem_cons.mpr ⟨lw_p26, List.forall_mem_cons.mpr ⟨lw_p27, List.forall_mem_cons.mpr ⟨lw_p28, List.forall_mem_cons.mpr ⟨lw_p29, List.forall_mem_cons.mpr ⟨lw_p30, List.forall_mem_cons.mpr ⟨lw_p31, fun _ h => absurd h List.not_mem_nil⟩⟩⟩⟩⟩⟩⟩⟩⟩⟩⟩⟩⟩⟩⟩⟩
theorem lw_p32 : lw_okq (⟨"MonotonePostingsModel", "beginOf", "(II)I"⟩, 12) := ⟨⟨by decide +kernel, by decide +kernel⟩, List.mem_of_getElem? (i := 650) (by decide +kernel), List.mem_of_getElem? (i := 794) (by decide +kernel), List.mem_of_getElem? (i := 795) (by decide +kernel)⟩
theorem lw_p33 : lw_okq (⟨"MonotonePostingsModel", "widthOf", "(II)I"⟩, 12) := ⟨⟨by decide +kernel, by decide +kernel⟩, List.mem_of_getElem? (i := 650) (by decide +kernel), List.mem_of_getElem? (i := 798) (by decide +kernel), List.mem_of_getElem? (i := 799) (by decide +kernel)⟩
theorem lw_p34 : lw_okq (⟨"MonotonePostingsModel", "lastIn", "(II)I"⟩, 12) := ⟨⟨by decide +kernel, by decide +kernel⟩, List.mem_of_getElem? (i := 650) (by decide +kernel), List.mem_of_getElem? (i := 802) (by decide +kernel), List.mem_of_getElem? (i := 803) (by decide +kernel)⟩
theorem lw_p35 : lw_okq (⟨"MonotonePostingsModel", "firstIn", "(II)I"⟩, 12) := ⟨⟨by decide +kernel, by decide +kernel⟩, List.mem_of_getElem? (i := 650) (by decide +kernel), List.mem_of_getElem? (i := 806) (by decide +kernel), List.mem_of_getElem? (i := 807) (by decide +kernel)⟩
theorem lw_p36 : lw_okq (⟨"MonotonePostingsModel", "lowIn", "(II)I"⟩, 12) := ⟨⟨by decide +kernel, by decide +kernel⟩, List.mem_of_getElem? (i := 650) (by decide +kernel), List.mem_of_getElem? (i := 810) (by decide +kernel), List.mem_of_getElem? (i := 811) (by decide +kernel)⟩
theorem lw_p37 : lw_okq (⟨"MonotonePostingsModel", "bitsOf", "(I)I"⟩, 12) := ⟨⟨by decide +kernel, by decide +kernel⟩, List.mem_of_getElem? (i := 650) (by decide +kernel), List.mem_of_getElem? (i := 818) (by decide +kernel), List.mem_of_getElem? (i := 819) (by decide +kernel)⟩
theorem lw_p38 : lw_okq (⟨"MonotonePostingsModel", "bitOf", "(II)I"⟩, 12) := ⟨⟨by decide +kernel, by decide +kernel⟩, List.mem_of_getElem? (i := 650) (by decide +kernel), List.mem_of_getElem? (i := 826) (by decide +kernel), List.mem_of_getElem? (i := 827) (by decide +kernel)⟩
theorem lw_p39 : lw_okq (⟨"MonotonePostingsModel", "headerBit", "(III)I"⟩, 12) := ⟨⟨by decide +kernel, by decide +kernel⟩, List.mem_of_getElem? (i := 650) (by decide +kernel), List.mem_of_getElem? (i := 830) (by decide +kernel), List.mem_of_getElem? (i := 831) (by decide +kernel)⟩
theorem lw_p40 : lw_okq (⟨"MonotonePostingsModel", "bodyBit", "(III)I"⟩, 12) := ⟨⟨by decide +kernel, by decide +kernel⟩, List.mem_of_getElem? (i := 650) (by decide +kernel), List.mem_of_getElem? (i := 834) (by decide +kernel), List.mem_of_getElem? (i := 835) (by decide +kernel)⟩
theorem lw_p41 : lw_okq (⟨"MonotonePostingsModel", "asks", "(II)I"⟩, 12) := ⟨⟨by decide +kernel, by decide +kernel⟩, List.mem_of_getElem? (i := 650) (by decide +kernel), List.mem_of_getElem? (i := 850) (by decide +kernel), List.mem_of_getElem? (i := 851) (by decide +kernel)⟩
theorem lw_p42 : lw_okq (⟨"MonotonePostingsModel", "opens", "(III)I"⟩, 12) := ⟨⟨by decide +kernel, by decide +kernel⟩, List.mem_of_getElem? (i := 650) (by decide +kernel), List.mem_of_getElem? (i := 854) (by decide +kernel), List.mem_of_getElem? (i := 855) (by decide +kernel)⟩
theorem lw_p43 : lw_okq (⟨"MonotonePostingsModel", "readsFor", "(IIII)I"⟩, 12) := ⟨⟨by decide +kernel, by decide +kernel⟩, List.mem_of_getElem? (i := 650) (by decide +kernel), List.mem_of_getElem? (i := 858) (by decide +kernel), List.mem_of_getElem? (i := 859) (by decide +kernel)⟩
theorem lw_p44 : lw_okq (⟨"MonotonePostingsModel", "meets", "(I)I"⟩, 12) := ⟨⟨by decide +kernel, by decide +kernel⟩, List.mem_of_getElem? (i := 650) (by decide +kernel), List.mem_of_getElem? (i := 869) (by decide +kernel), List.mem_of_getElem? (i := 870) (by decide +kernel)⟩
theorem lw_p45 : lw_okq (⟨"MonotonePostingsModel", "writes", "(II)I"⟩, 12) := ⟨⟨by decide +kernel, by decide +kernel⟩, List.mem_of_getElem? (i := 650) (by decide +kernel), List.mem_of_getElem? (i := 877) (by decide +kernel), List.mem_of_getElem? (i := 878) (by decide +kernel)⟩
theorem lw_p46 : lw_okq (⟨"MonotonePostingsModel", "has", "(II)Z"⟩, 12) := ⟨⟨by decide +kernel, by decide +kernel⟩, List.mem_of_getElem? (i := 650) (by decide +kernel), List.mem_of_getElem? (i := 885) (by decide +kernel), List.mem_of_getElem? (i := 886) (by decide +kernel)⟩
def lw_privs_3 : List (MethodName × Nat) := [(⟨"MonotonePostingsModel", "beginOf", "(II)I"⟩, 12), (⟨"MonotonePostingsModel", "widthOf", "(II)I"⟩, 12), (⟨"MonotonePostingsModel", "lastIn", "(II)I"⟩, 12), (⟨"MonotonePostingsModel", "firstIn", "(II)I"⟩, 12), (⟨"MonotonePostingsModel", "lowIn", "(II)I"⟩, 12), (⟨"MonotonePostingsModel", "bitsOf", "(I)I"⟩, 12), (⟨"MonotonePostingsModel", "bitOf", "(II)I"⟩, 12), (⟨"MonotonePostingsModel", "headerBit", "(III)I"⟩, 12), (⟨"MonotonePostingsModel", "bodyBit", "(III)I"⟩, 12), (⟨"MonotonePostingsModel", "asks", "(II)I"⟩, 12), (⟨"MonotonePostingsModel", "opens", "(III)I"⟩, 12), (⟨"MonotonePostingsModel", "readsFor", "(IIII)I"⟩, 12), (⟨"MonotonePostingsModel", "meets", "(I)I"⟩, 12), (⟨"MonotonePostingsModel", "writes", "(II)I"⟩, 12), (⟨"MonotonePostingsModel", "has", "(II)Z"⟩, 12)]
theorem lw_r3 : ∀ q ∈ lw_privs_3, lw_okq q := List.forall_mem_cons.mpr ⟨lw_p32, List.forall_mem_cons.mpr ⟨lw_p33, List.forall_mem_cons.mpr ⟨lw_p34, List.forall_mem_cons.mpr ⟨lw_p35, List.forall_mem_cons.mpr ⟨lw_p36, List.forall_mem_cons.mpr ⟨lw_p37, List.forall_mem_cons.mpr ⟨lw_p38, List.forall_mem_cons.mpr ⟨lw_p39, List.forall_mem_cons.mpr ⟨lw_p40, List.forall_mem_cons.mpr ⟨lw_p41, List.forall_mem_cons.mpr ⟨lw_p42, List.forall_mem_cons.mpr ⟨lw_p43, List.forall_mem_cons.mpr ⟨lw_p44, List.forall_mem_cons.mpr ⟨lw_p45, List.forall_mem_cons.mpr ⟨lw_p46, fun _ h => absurd h List.not_mem_nil⟩⟩⟩⟩⟩⟩⟩⟩⟩⟩⟩⟩⟩⟩⟩
def lw_privs : List (MethodName × Nat) := lw_privs_1 ++ (lw_privs_2 ++ (lw_privs_3))
def lw_tbl : List Cond := k2_sels lw_privs ++ tables_1
theorem lw_privs_ok : ∀ q ∈ lw_privs, lw_okq q := by
  show ∀ q ∈ lw_privs_1 ++ (lw_privs_2 ++ (lw_privs_3)), lw_okq q
  exact List.forall_mem_append.mpr ⟨lw_r1, List.forall_mem_append.mpr ⟨lw_r2, lw_r3⟩⟩
/-- the streams that the claim lets the run draw from -/
abbrev lw_cs : List Choice := [Jvm.Choice.named "NaN.bits"]
theorem lw_bits : nanBits ∈ lw_cs := by first | decide | exact List.mem_cons_self | simp [lw_cs, nanBits]
/-! ===== BEGIN words of one list among another's, by their places ===== -/
theorem goodIn_r {big : List Cond} (ws : List Cond) (ps : List Nat) (hp : ws = ps.filterMap (fun i => big[i]?)) (h : ws.all goodWord = true) : GoodIn big ws := by
  intro w hw
  have h1 := List.all_eq_true.mp h w hw
  rw [hp] at hw
  obtain ⟨i, -, hi⟩ := List.mem_filterMap.mp hw
  have hm : w ∈ big := by first | exact List.mem_of_getElem? hi | exact List.getElem?_mem hi
  exact ⟨hm, good_of_word h1⟩
theorem goodIn_app {big a b : List Cond} (ha : GoodIn big a) (hb : GoodIn big b) : GoodIn big (a ++ b) := fun w h => (List.mem_append.mp h).elim (ha w) (hb w)
theorem goodIn_ca {big a b : List Cond} {c : Cond} (ha : GoodIn big (c :: a)) (hb : GoodIn big b) : GoodIn big (c :: (a ++ b)) := fun w h => (List.mem_cons.mp h).elim (fun e => ha w (List.mem_cons.mpr (Or.inl e))) (fun h => (List.mem_append.mp h).elim (fun h => ha w (List.mem_cons.mpr (Or.inr h))) (hb w))
theorem goodIn_sub {big ws : List Cond} (hm : ∀ w ∈ ws, w ∈ big) (h : ws.all goodWord = true) : GoodIn big ws := fun w hw => ⟨hm w hw, good_of_word (List.all_eq_true.mp h w hw)⟩
/-! ===== END ===== -/

/-! ===== BEGIN exceptions that leave a method, and their catching by the caller (launches without stack traces) ===== -/
section VXA
/-! The laws vx_back, vx_callV, vx_callS, vx_callSW, vx_throw0, vx_throwS follow proofs of the library, with one case more: JvmDerived/Free/Laws.lean (Back.of_free), Shelf42/LK1.lean (callV, callS), Shelf/KitTraced.lean (throwNew0V, throwNewS). -/
/-- where a method has thrown q: the class by its name, the cell, what was written, the world -/
def vx_T (XC : String → State → State → Prop) (st : State) (q : Addr) (t : State) (mc ms : Nat) (free : Addr → Prop) : Prop :=
  ∃ (E : String) (ce : Cell) (L : List Loc), XC E st t ∧ t.heap[q]? = some ce ∧ ce.vm = .none ∧ st.vm.findClass E = some ce.cls ∧ st.WarmedH t.vm ∧ st.sameButNew ({ t with vm := st.vm } : State) L mc ms ∧ ∀ z ∈ L, free z.base
def vx_Q (Qc : Array Value → State → Outcome → State → Prop) (XC : String → State → State → Prop) (mc ms : Nat) (free : Addr → Prop) : Array Value → State → Outcome → State → Prop := fun a st o t =>
  (Qc a st o t ∧ ∃ L, FrameEnd st o t L mc ms ∧ ∀ q ∈ L, free q.base) ∨ ∃ q, o = .threw q ∧ vx_T XC st q t mc ms free
/-- a callee that returns or throws -/
def vx_Met (l : Launch) (y : MethodName) (ws : List Cond) (rm : Room) (Pc : Array Value → State → Prop) (Qc : Array Value → State → Outcome → State → Prop) (XC : String → State → State → Prop) (mc ms : Nat) (free : Addr → Prop) : Prop :=
  MetFree l y (headSpec ws rm) Pc (fun _ _ _ _ _ => True) (vx_Q Qc XC mc ms free)
def vx_Post (XC : String → State → State → Prop) (mc ms : Nat) (free : Addr → Prop) : Pt → Array Value → Addr → Pt → Prop := fun A a q B =>
  ∃ (g : JFrame) (mk : MethodId) (t : State) (L : List Loc) (E : String) (ce : Cell), B.U.heap = t.heap ∧ B.U.vm = t.vm ∧ XC E (A.U.calling g mk a) t ∧ t.heap[q]? = some ce ∧ ce.vm = .none ∧ A.U.vm.findClass E = some ce.cls ∧ B.locs = A.locs ++ L ∧ (∀ z ∈ L, free z.base) ∧ B.cells = A.cells + mc ∧ B.slots = A.slots + ms
def vx_Back (l : Launch) (R : Room) (p : Program) (e : Env) (below : List Frame) (s : State) (sargs : Array Value) (y : MethodName) (len W9 : Nat)
    (Pre : Pt → Array Value → Prop) (Post : Pt → Array Value → Option Value → Pt → Prop) (PostX : Pt → Array Value → Addr → Pt → Prop) : Prop :=
  ∀ (m : MethodId) (meth : Method) (c : Code) (A : Pt) (g : JFrame) (ig : Instr) (mk : MethodId) (a : Array Value),
    Stand p l e R s m sargs below meth c A.U A.locs A.cells A.slots → g.method = m → g.locals.size = c.maxLocals → decode c.code g.pc = .ok (ig, len) →
    2 * g.monitorRoom + (g.stack.map fun v => v.category).sum ≤ W9 → A.U.methodNamed? y = some mk → Pre A a →
    (∃ (v : Option Value) (B : Pt), Stand p l e R s m sargs below meth c B.U B.locs B.cells B.slots ∧ Post A a v B ∧
      Steps p.tables e below (doInvoke e (A.U.setTop g) [] mk a).1 (B.U.setTop { g with pc := g.pc + len, stack := v.toList ++ g.stack })) ∨
    (∃ (q : Addr) (B : Pt), Stand p l e R s m sargs below meth c B.U B.locs B.cells B.slots ∧ PostX A a q B ∧
      Steps p.tables e below (doInvoke e (A.U.setTop g) [] mk a).1 ((B.U.setTop g).pushFrame (.throwing q)))
section Payer
variable {l : Launch} {R : Room} {p : Program} {e : Env} {below : List Frame} {s : State} {sargs : Array Value} {y : MethodName} {len W9 : Nat}
theorem vx_back {ws : List Cond} {rm : Room} {Pc : Array Value → State → Prop} {Qc : Array Value → State → Outcome → State → Prop} {XC : String → State → State → Prop} {mc ms : Nat} {free : Addr → Prop} {bytes : ByteArray} {maxL : Nat} {ret : Option FieldType}
    (hM : vx_Met l y ws rm Pc Qc XC mc ms free) (hblind : FrameBlind Pc) (hrc : rm.cells = mc) (hrs : rm.slots = ms)
    (hframes : rm.frames + 1 ≤ R.frames) (hlocals : W9 + (maxL + 11) + rm.locals ≤ R.locals)
    (hws : ∀ w ∈ ws, ∀ a' U, s.WarmedH U.vm → w.before a' U = true) (hcode : Cond.code y bytes maxL ret ∈ ws) (hinit : ∀ a' U, s.WarmedH U.vm → (Cond.initialized y.cls).before a' U = true) :
    vx_Back l R p e below s sargs y len W9 (PreOf R mc ms Pc) (PostOf Qc mc ms free) (vx_Post XC mc ms free) := by
  intro m meth c A g ig mk a X hg hsize hdg hW hn hp
  have h1 : (headSpec ws rm).pre.before a A.U = true := atoms_intro fun w hw => hws w hw _ _ X.warmed
  have h2 : (Cond.code y bytes maxL ret).before a A.U = true := hws _ hcode _ _ X.warmed
  have h3 : (Cond.initialized y.cls).before a A.U = true := hinit _ _ X.warmed
  have h4 : A.cells + (headSpec ws rm).room.cells ≤ R.cells := by rw [show (headSpec ws rm).room.cells = mc from hrc]; exact hp.1
  have h5 : A.slots + (headSpec ws rm).room.slots ≤ R.slots := by rw [show (headSpec ws rm).room.slots = ms from hrs]; exact hp.2.1
  have hPc : Pc a (A.U.calling g mk a) := hblind _ _ _ _ hp.2.2
  obtain ⟨U, Ls, c0, s0⟩ := A
  dsimp only [Pt.U, Pt.locs, Pt.cells, Pt.slots] at h1 h2 h3 h4 h5 X hn hPc ⊢
  obtain ⟨methY, cY, hmY, hcY, -, hlY, -, -, -, -⟩ := Cond.code_spec hn h2
  obtain ⟨kY, hkY, -⟩ := className_of_methodNamed hn
  have hinitY : kY.init = .initialized := Cond.initialized_spec (findClass_of_methodNamed hn) hkY h3
  have h : At U g.method c below := by rw [hg]; exact X.here
  have hlocals9 : W9 + (maxL + 11) + (headSpec ws rm).room.locals ≤ R.locals := hlocals
  have happ : (headSpec ws rm).appliesLoose y e.platform (U.calling g mk a) = true :=
    Spec.appliesLoose_calling (g := g) h hdg hn hkY hinitY
      (X.room_calling (g := g) (R' := (headSpec ws rm).room) hsize hmY hcY hframes (by rw [hlY]; omega) h4 h5) h1
  obtain ⟨mid, hmid⟩ := h.above
  have hfr : (U.setTop g).frames = (.java g :: mid) ++ below := by rw [State.frames_setTop' g h.top, hmid]; rfl
  obtain ⟨o, s₂, hsteps, -, hend, hq⟩ := Steps.callFree hM p X.admits X.cas X.clock (acts := []) hfr happ hPc trivial
  have hq' : vx_Q Qc XC mc ms free a (U.calling g mk a) o s₂ := hq
  rw [State.frames_setTop' g h.top] at hend
  obtain ⟨g₀, hg0⟩ := Option.isSome_iff_exists.mp h.top
  obtain ⟨r, hr⟩ := State.topJava?_eq_some.mp hg0
  have hr' : (({ U with heap := s₂.heap, slotsUsed := s₂.slotsUsed } : State).setVm s₂.vm).frames = .java g₀ :: r := hr
  rcases hq' with ⟨hqc, L, hfe, hL⟩ | ⟨q, rfl, E, ce, L, hx, hce, hcv, hcl, hW₂, hsm, hL⟩
  · obtain ⟨⟨v, rfl⟩, hW₂, e2, q2, q3, q4, q5, q6⟩ := id hfe
    have e3 : s₂ = ({ (U.calling g mk a).setFrames s₂.frames with heap := s₂.heap, slotsUsed := s₂.slotsUsed } : State).setVm s₂.vm := by
      have : s₂ = ({ s₂ with vm := (U.calling g mk a).vm } : State).setVm s₂.vm := rfl
      rw [e2] at this
      exact this
    obtain ⟨c₂, i₂, len₂, hc₂, hd₂, hf₂⟩ := hend
    have hW' : U.WarmedH s₂.vm := hW₂
    have hcc : c₂ = c := by
      have h1 : s₂.code? g.method = U.code? g.method := by
        rw [State.code?_eq, State.code?_eq, hW'.alike.method?]
      exact Option.some.inj (hc₂.symm.trans (h1.trans h.code))
    subst hcc
    have hlen : len₂ = len := by rw [hdg] at hd₂; cases hd₂; rfl
    subst hlen
    have hs₂ : s₂ = (({ U with heap := s₂.heap, slotsUsed := s₂.slotsUsed } : State).setVm s₂.vm).setTop { g with pc := g.pc + len₂, stack := v.toList ++ g.stack } := by
      refine e3.trans ?_
      rw [hf₂, State.calling_eq h.top, State.setFrames_setFrames, State.setTop_of_frames _ hr', hr]
      rfl
    have hsame : U.sameButNew ({ U with heap := s₂.heap, slotsUsed := s₂.slotsUsed } : State) L mc ms := by
      refine ⟨?_, q2, q3, q4, q5, q6⟩
      obtain ⟨t, ht, -⟩ := State.frames_cons hr
      show ({ U with heap := s₂.heap, slotsUsed := s₂.slotsUsed } : State) = { U.setFrames U.frames with heap := s₂.heap, slotsUsed := s₂.slotsUsed }
      rw [State.setFrames_self ht]
    subst hg
    refine Or.inl ⟨v, ⟨(({ U with heap := s₂.heap, slotsUsed := s₂.slotsUsed } : State).setVm s₂.vm), Ls ++ L, c0 + mc, s0 + ms⟩,
      ⟨X.admits, X.cas, X.clock, X.frames, X.room, X.hears, X.method, X.code, (X.here.setHeapUsed s₂.heap s₂.slotsUsed).setVm hW'.alike, X.tail, State.WarmedH.trans X.warmed hW', X.limits, X.bytes, X.same.trans (hsame.setVm s.vm)⟩,
      ⟨g, mk, s₂, L, rfl, rfl, hqc, rfl, hL, rfl, rfl⟩, ?_⟩
    show Steps p.tables e below _ ((({ U with heap := s₂.heap, slotsUsed := s₂.slotsUsed } : State).setVm s₂.vm).setTop { g with pc := g.pc + len₂, stack := v.toList ++ g.stack })
    rw [← hs₂]
    exact hsteps
  · obtain ⟨e2, q2, q3, q4, q5, q6⟩ := id hsm
    have e3 : s₂ = ({ (U.calling g mk a).setFrames s₂.frames with heap := s₂.heap, slotsUsed := s₂.slotsUsed } : State).setVm s₂.vm := by
      have : s₂ = ({ s₂ with vm := (U.calling g mk a).vm } : State).setVm s₂.vm := rfl
      rw [e2] at this
      exact this
    have hf₂ : s₂.frames = .throwing q :: .java g :: U.frames.tail := hend
    have hW' : U.WarmedH s₂.vm := hW₂
    have hs₂ : s₂ = ((({ U with heap := s₂.heap, slotsUsed := s₂.slotsUsed } : State).setVm s₂.vm).setTop g).pushFrame (.throwing q) := by
      refine e3.trans ?_
      rw [hf₂, State.calling_eq h.top, State.setFrames_setFrames, State.pushFrame, State.frames_setTop _ hr', State.setTop_of_frames _ hr', State.setFrames_setFrames, hr]
      rfl
    have hsame : U.sameButNew ({ U with heap := s₂.heap, slotsUsed := s₂.slotsUsed } : State) L mc ms := by
      refine ⟨?_, q2, q3, q4, q5, q6⟩
      obtain ⟨t, ht, -⟩ := State.frames_cons hr
      show ({ U with heap := s₂.heap, slotsUsed := s₂.slotsUsed } : State) = { U.setFrames U.frames with heap := s₂.heap, slotsUsed := s₂.slotsUsed }
      rw [State.setFrames_self ht]
    subst hg
    refine Or.inr ⟨q, ⟨(({ U with heap := s₂.heap, slotsUsed := s₂.slotsUsed } : State).setVm s₂.vm), Ls ++ L, c0 + mc, s0 + ms⟩,
      ⟨X.admits, X.cas, X.clock, X.frames, X.room, X.hears, X.method, X.code, (X.here.setHeapUsed s₂.heap s₂.slotsUsed).setVm hW'.alike, X.tail, State.WarmedH.trans X.warmed hW', X.limits, X.bytes, X.same.trans (hsame.setVm s.vm)⟩,
      ⟨g, mk, s₂, L, E, ce, rfl, rfl, hx, hce, hcv, hcl, rfl, hL, rfl, rfl⟩, ?_⟩
    show Steps p.tables e below _ (((({ U with heap := s₂.heap, slotsUsed := s₂.slotsUsed } : State).setVm s₂.vm).setTop g).pushFrame (.throwing q))
    rw [← hs₂]
    exact hsteps
end Payer
section Calls
variable {p : Program} {l : Launch} {e : Env} {R : Room} {s : State} {m : MethodId} {args : Array Value} {below : List Frame} {meth : Method} {c : Code} {T : State} {locs : List Loc} {cells slots : Nat}
theorem vx_callV (X : Stand p l e R s m args below meth c T locs cells slots) (hexec : p.tables.exec = Jvm.exec) {own C : String} {index : Nat} {y : MethodName} {bytes : ByteArray} {maxL : Nat} {ret : Option FieldType}
    (hown : s.vm.findClass own = some m.cls) (hlink : (Cond.methodLink own index y).before args s = true) (hinst : (Cond.instanceMethod y).before args s = true) (hsel : (Cond.selects C y y).before args s = true)
    (hcode : (Cond.code y bytes maxL ret).before args s = true) (hy : y.cls ≠ "java/lang/invoke/MethodHandle" ∧ y.cls ≠ "java/lang/invoke/VarHandle")
    {W9 : Nat} {Pre : Pt → Array Value → Prop} {Post : Pt → Array Value → Option Value → Pt → Prop} {PostX : Pt → Array Value → Addr → Pt → Prop} (hK : vx_Back l R p e below s args y 3 W9 Pre Post PostX)
    {b : Addr} {cellB : Cell} (hcell : T.heap[b]? = some cellB) (hobj : cellB.vm.isStatics = false) (hcls : s.vm.findClass C = some cellB.cls)
    {g : JFrame} (hg : g.method = m) (hsize : g.locals.size = c.maxLocals) {argsL rest : List Value} (hlen : ∀ sig, parseMethodDescriptor y.desc = some sig → argsL.length = sig.parameters.length)
    (hstack : g.stack = argsL.reverse ++ .ref b :: rest) (hW : 2 * g.monitorRoom + (rest.map fun v => v.category).sum ≤ W9) (hdg : decode c.code g.pc = .ok (.invokevirtual index, 3))
    (hpre : ∀ vm₁, s.WarmedH vm₁ → Pre ⟨T.setVm vm₁, locs, cells, slots⟩ (Value.ref b :: argsL).toArray) :
    (∃ (v : Option Value) (vm₁ : Vm) (B : Pt), s.WarmedH vm₁ ∧ Stand p l e R s m args below meth c B.U B.locs B.cells B.slots ∧ Post ⟨T.setVm vm₁, locs, cells, slots⟩ (Value.ref b :: argsL).toArray v B ∧
      ∀ target, Steps p.tables e below (B.U.setTop { g with pc := g.pc + 3, stack := v.toList ++ rest }) target → Steps p.tables e below (T.setTop g) target) ∨
    (∃ (q : Addr) (vm₁ : Vm) (B : Pt), s.WarmedH vm₁ ∧ Stand p l e R s m args below meth c B.U B.locs B.cells B.slots ∧ PostX ⟨T.setVm vm₁, locs, cells, slots⟩ (Value.ref b :: argsL).toArray q B ∧
      Steps p.tables e below (T.setTop g) ((B.U.setTop { g with stack := rest }).pushFrame (.throwing q))) := by
  obtain ⟨mk, methM, hnamed, hmethM, hstM, habM⟩ := Cond.instanceMethod_spec hinst
  obtain ⟨methM', cM, hmethM', -, -, -, -, -, -, hsigM⟩ := Cond.code_spec hnamed hcode
  cases hmethM.symm.trans hmethM'
  obtain ⟨c2, r2, m2, q1, q2, q3, q4, kP, hkP, hkPi⟩ := Cond.selects_spec hsel
  cases hcls.symm.trans q1
  cases (State.methodFound?_of_named hnamed hy).symm.trans q2
  cases hnamed.symm.trans q3
  have hselP : selectMethod e.platform s.vm cellB.cls mk = .method mk := by rw [Launch.admits_selectMethod X.admits]; exact q4
  obtain ⟨vm₁, X₁, hstep₁⟩ := X.invokevirtual hexec hown hlink hnamed hmethM hstM hkP hkPi hy (a := b) (cell := cellB) hcell
    (fun z h => by rw [h] at hobj; cases hobj) hselP hmethM habM hkP hkPi (g := g) hg (argsL := argsL) (rest := rest) (hlen _ hsigM) hstack hdg
  rcases hK m meth c ⟨T.setVm vm₁, locs, cells, slots⟩ { g with stack := rest } (.invokevirtual index) mk (Value.ref b :: argsL).toArray X₁ hg hsize hdg hW (X₁.named hnamed) (hpre vm₁ X₁.warmed) with ⟨v, B, X', hpost, hsteps⟩ | ⟨q, B, X', hpost, hsteps⟩
  · exact Or.inl ⟨v, vm₁, B, X₁.warmed, X', hpost, fun target h => hstep₁ _ fun acts => by rw [doInvoke_state]; exact hsteps.trans h⟩
  · exact Or.inr ⟨q, vm₁, B, X₁.warmed, X', hpost, hstep₁ _ fun acts => by rw [doInvoke_state]; exact hsteps⟩
theorem vx_callS (X : Stand p l e R s m args below meth c T locs cells slots) (hexec : p.tables.exec = Jvm.exec) {own : String} {index : Nat} {y : MethodName} {bytes : ByteArray} {maxL : Nat} {ret : Option FieldType}
    (hown : s.vm.findClass own = some m.cls) (hlink : (Cond.methodLink own index y).before args s = true) (hstat : (Cond.static y).before args s = true) (hinit : (Cond.initialized y.cls).before args s = true)
    (hcode : (Cond.code y bytes maxL ret).before args s = true) (hy : y.cls ≠ "java/lang/invoke/MethodHandle" ∧ y.cls ≠ "java/lang/invoke/VarHandle")
    {W9 : Nat} {Pre : Pt → Array Value → Prop} {Post : Pt → Array Value → Option Value → Pt → Prop} {PostX : Pt → Array Value → Addr → Pt → Prop} (hK : vx_Back l R p e below s args y 3 W9 Pre Post PostX)
    {g : JFrame} (hg : g.method = m) (hsize : g.locals.size = c.maxLocals) {argsL rest : List Value} (hlen : ∀ sig, parseMethodDescriptor y.desc = some sig → argsL.length = sig.parameters.length)
    (hstack : g.stack = argsL.reverse ++ rest) (hW : 2 * g.monitorRoom + (rest.map fun v => v.category).sum ≤ W9) (hdg : decode c.code g.pc = .ok (.invokestatic index, 3))
    (hpre : ∀ vm₁, s.WarmedH vm₁ → Pre ⟨T.setVm vm₁, locs, cells, slots⟩ argsL.toArray) :
    (∃ (v : Option Value) (vm₁ : Vm) (B : Pt), s.WarmedH vm₁ ∧ Stand p l e R s m args below meth c B.U B.locs B.cells B.slots ∧ Post ⟨T.setVm vm₁, locs, cells, slots⟩ argsL.toArray v B ∧
      ∀ target, Steps p.tables e below (B.U.setTop { g with pc := g.pc + 3, stack := v.toList ++ rest }) target → Steps p.tables e below (T.setTop g) target) ∨
    (∃ (q : Addr) (vm₁ : Vm) (B : Pt), s.WarmedH vm₁ ∧ Stand p l e R s m args below meth c B.U B.locs B.cells B.slots ∧ PostX ⟨T.setVm vm₁, locs, cells, slots⟩ argsL.toArray q B ∧
      Steps p.tables e below (T.setTop g) ((B.U.setTop { g with stack := rest }).pushFrame (.throwing q))) := by
  obtain ⟨mk, hnamed⟩ := Cond.code_named hcode
  obtain ⟨methM, cM, hmethM, -, -, -, -, -, -, hsigM⟩ := Cond.code_spec hnamed hcode
  have hstatic : methM.isStatic = true := Cond.static_spec hnamed hmethM hstat
  obtain ⟨kP, hkP, -⟩ := className_of_methodNamed hnamed
  have hinitP : kP.init = .initialized := Cond.initialized_spec (findClass_of_methodNamed hnamed) hkP hinit
  obtain ⟨vm₁, X₁, hstep₁⟩ := X.invokestatic hexec hown hlink hnamed hmethM hstatic hkP hinitP hy (g := g) hg (argsL := argsL) (rest := rest) (hlen _ hsigM) hstack hdg
  rcases hK m meth c ⟨T.setVm vm₁, locs, cells, slots⟩ { g with stack := rest } (.invokestatic index) mk argsL.toArray X₁ hg hsize hdg hW (X₁.named hnamed) (hpre vm₁ X₁.warmed) with ⟨v, B, X', hpost, hsteps⟩ | ⟨q, B, X', hpost, hsteps⟩
  · exact Or.inl ⟨v, vm₁, B, X₁.warmed, X', hpost, fun target h => hstep₁ _ fun acts => by rw [doInvoke_state]; exact hsteps.trans h⟩
  · exact Or.inr ⟨q, vm₁, B, X₁.warmed, X', hpost, hstep₁ _ fun acts => by rw [doInvoke_state]; exact hsteps⟩
end Calls
theorem vx_cls {s : State} {T : State} {vm₁ : Vm} {E : String} {k : ClassId} (hW : s.WarmedH vm₁) (h : (T.setVm vm₁).vm.findClass E = some k) : s.vm.findClass E = some k := by
  have h1 : vm₁.findClass E = some k := h
  rw [hW.alike.findClass] at h1
  exact h1
/-- the method's frame g, with q thrown over it -/
def vx_W (p : Program) (l : Launch) (e : Env) (R : Room) (s : State) (m : MethodId) (args : Array Value) (below : List Frame) (meth : Method) (c : Code) (H : Heap) (locs : List Loc) (cells slots : Nat) (Q : State → Prop) (g : JFrame) (q : Addr) : Prop :=
  ∀ T : State, T.heap = H → Stand p l e R s m args below meth c T locs cells slots → ∃ t, Steps p.tables e below ((T.setTop g).pushFrame (.throwing q)) t ∧ Q t
def vx_Run (p : Program) (l : Launch) (e : Env) (R : Room) (s : State) (m : MethodId) (args : Array Value) (below : List Frame) (meth : Method) (c : Code) (H : Heap) (locs : List Loc) (cells slots mc ms : Nat) (g : JFrame) (rest : List Value) (Qa : State → Outcome → State → Prop) (XC : String → State → State → Prop) (free : Addr → Prop) : Prop :=
  ∀ T : State, T.heap = H → Stand p l e R s m args below meth c T locs cells slots →
    (∃ (v : Option Value) (st₀ t T' : State) (L : List Loc), st₀.heap = H ∧ Stand p l e R s m args below meth c T' (locs ++ L) (cells + mc) (slots + ms) ∧ (∀ q ∈ L, free q.base) ∧ T'.heap = t.heap ∧ T'.vm = t.vm ∧ Qa st₀ (.returned v) t ∧
      Goes p e below T g T' { g with pc := g.pc + 3, stack := v.toList ++ rest }) ∨
    (∃ (q : Addr) (st₀ t T' : State) (L : List Loc) (E : String) (ce : Cell), st₀.heap = H ∧ Stand p l e R s m args below meth c T' (locs ++ L) (cells + mc) (slots + ms) ∧ (∀ z ∈ L, free z.base) ∧ T'.heap = t.heap ∧ T'.vm = t.vm ∧ XC E st₀ t ∧ t.heap[q]? = some ce ∧ ce.vm = .none ∧ s.vm.findClass E = some ce.cls ∧
      Steps p.tables e below (T.setTop g) ((T'.setTop { g with stack := rest }).pushFrame (.throwing q)))
def vx_X {S : Type} (px : S → Prop) (B : String → S → State → Prop) (A : Nat → Prop) : String → State → State → Prop := fun E st t => ∃ u : S, px u ∧ B E u t ∧ va_F A st t
section Runs
variable {p : Program} {l : Launch} {e : Env} {R : Room} {s : State} {m : MethodId} {args : Array Value} {below : List Frame} {meth : Method} {c : Code} {H : Heap} {locs : List Loc} {cells slots : Nat}
variable {y : MethodName} {bytes cc : ByteArray} {maxL nL mc ms n index : Nat} {ret : Option FieldType} {ws : List Cond} {rm : Room} {Pc : Array Value → State → Prop} {Qc : Array Value → State → Outcome → State → Prop} {XC : String → State → State → Prop} {free : Addr → Prop} {Ts : List Cond} {own C : String} {b : Addr} {As rest : List Value} {g : JFrame}
theorem vx_callBack (cb : CallB R s args own index y bytes maxL ret ws rm mc ms n) (hM : vx_Met l y ws rm Pc Qc XC mc ms free) (hbl : FrameBlind Pc) : vx_Back l R p e below s args y 3 8 (PreOf R mc ms Pc) (PostOf Qc mc ms free) (vx_Post XC mc ms free) := by
  obtain ⟨hrc, hrs, hfr, hlo, hws, hcw, -, hini, -⟩ := cb
  exact vx_back (bytes := bytes) (maxL := maxL) (ret := ret) hM hbl hrc hrs hfr hlo hws hcw (fun a' U hW => word_at hW (Or.inl (by first | rfl | simp [Cond.onTables, Cond.keeps, Cond.steady])) hini)
theorem vx_runV (S : CallFix p m c cc nL s args Ts own) (hM : vx_Met l y ws rm Pc Qc XC mc ms free) (cw : CallW R s args own C index y bytes maxL ret ws rm mc ms n) (hp : PreV s H C b Pc As)
    (hg : g.method = m) (hn : As.length = n) (hsize : g.locals.size = nL) (hstack : g.stack = As.reverse ++ .ref b :: rest) (hW : 2 * g.monitorRoom + (rest.map fun v => v.category).sum ≤ 8) (hdg : decode cc g.pc = .ok (.invokevirtual index, 3)) (hf : cells + mc ≤ R.cells ∧ slots + ms ≤ R.slots) :
    vx_Run p l e R s m args below meth c H locs cells slots mc ms g rest (Qc (Value.ref b :: As).toArray) XC free := by
  have hK : vx_Back l R p e below s args y 3 8 (PreOf R mc ms Pc) (PostOf Qc mc ms free) (vx_Post XC mc ms free) := vx_callBack cw.1 hM hp.1
  obtain ⟨⟨-, -, -, -, -, -, hcode, -, hy, hlen, hl⟩, hin, hse⟩ := cw
  obtain ⟨hx, hb, hml, ho, -⟩ := S
  obtain ⟨-, ⟨cellB, hcB, hoB, hclB⟩, hPc⟩ := hp
  intro T hT X
  rcases vx_callV X hx (C := C) (bytes := bytes) (maxL := maxL) (ret := ret) ho hl hin hse hcode hy hK (by rw [hT]; exact hcB) hoB hclB hg (hsize.trans hml.symm) (argsL := As) (rest := rest) (fun sig h => hn.trans (hlen sig h)) hstack hW (by rw [hb]; exact hdg)
    (fun vm₁ hW₁ => ⟨hf.1, hf.2, hPc (T.setVm vm₁) hT hW₁⟩) with ⟨v, vm₁, ⟨U', l2, c2, s2⟩, hW₁, X', ⟨g', mk, t, L, e1, e2, hq, h1, hL, h2, h3⟩, st⟩ | ⟨q, vm₁, ⟨U', l2, c2, s2⟩, hW₁, X', ⟨g', mk, t, L, E, ce, e1, e2, hq, hce, hcv, hcl, h1, hL, h2, h3⟩, st⟩
  · dsimp only [Pt.U, Pt.locs, Pt.cells, Pt.slots] at X' e1 e2 h1 h2 h3 st
    subst h1; subst h2; subst h3
    exact Or.inl ⟨v, (T.setVm vm₁).calling g' mk (Value.ref b :: As).toArray, t, U', L, hT, X', hL, e1, e2, hq, st⟩
  · dsimp only [Pt.U, Pt.locs, Pt.cells, Pt.slots] at X' e1 e2 h1 h2 h3 st hcl
    subst h1; subst h2; subst h3
    exact Or.inr ⟨q, (T.setVm vm₁).calling g' mk (Value.ref b :: As).toArray, t, U', L, E, ce, hT, X', hL, e1, e2, hq, hce, hcv, vx_cls hW₁ hcl, st⟩
theorem vx_runS (S : CallFix p m c cc nL s args Ts own) (hM : vx_Met l y ws rm Pc Qc XC mc ms free) (cw : CallB R s args own index y bytes maxL ret ws rm mc ms n ∧ (Cond.static y).before args s = true) (hp : PreS s H Pc As)
    (hg : g.method = m) (hn : As.length = n) (hsize : g.locals.size = nL) (hstack : g.stack = As.reverse ++ rest) (hW : 2 * g.monitorRoom + (rest.map fun v => v.category).sum ≤ 8) (hdg : decode cc g.pc = .ok (.invokestatic index, 3)) (hf : cells + mc ≤ R.cells ∧ slots + ms ≤ R.slots) :
    vx_Run p l e R s m args below meth c H locs cells slots mc ms g rest (Qc As.toArray) XC free := by
  have hK : vx_Back l R p e below s args y 3 8 (PreOf R mc ms Pc) (PostOf Qc mc ms free) (vx_Post XC mc ms free) := vx_callBack cw.1 hM hp.1
  obtain ⟨⟨-, -, -, -, -, -, hcode, hini, hy, hlen, hl⟩, hstt⟩ := cw
  obtain ⟨hx, hb, hml, ho, -⟩ := S
  intro T hT X
  rcases vx_callS X hx (bytes := bytes) (maxL := maxL) (ret := ret) ho hl hstt hini hcode hy hK hg (hsize.trans hml.symm) (argsL := As) (rest := rest) (fun sig h => hn.trans (hlen sig h)) hstack hW (by rw [hb]; exact hdg)
    (fun vm₁ hW₁ => ⟨hf.1, hf.2, hp.2 (T.setVm vm₁) hT hW₁⟩) with ⟨v, vm₁, ⟨U', l2, c2, s2⟩, hW₁, X', ⟨g', mk, t, L, e1, e2, hq, h1, hL, h2, h3⟩, st⟩ | ⟨q, vm₁, ⟨U', l2, c2, s2⟩, hW₁, X', ⟨g', mk, t, L, E, ce, e1, e2, hq, hce, hcv, hcl, h1, hL, h2, h3⟩, st⟩
  · dsimp only [Pt.U, Pt.locs, Pt.cells, Pt.slots] at X' e1 e2 h1 h2 h3 st
    subst h1; subst h2; subst h3
    exact Or.inl ⟨v, (T.setVm vm₁).calling g' mk As.toArray, t, U', L, hT, X', hL, e1, e2, hq, st⟩
  · dsimp only [Pt.U, Pt.locs, Pt.cells, Pt.slots] at X' e1 e2 h1 h2 h3 st hcl
    subst h1; subst h2; subst h3
    exact Or.inr ⟨q, (T.setVm vm₁).calling g' mk As.toArray, t, U', L, E, ce, hT, X', hL, e1, e2, hq, hce, hcv, vx_cls hW₁ hcl, st⟩
end Runs
section Rows
variable {p : Program} {l : Launch} {e : Env} {R : Room} {s : State} {m : MethodId} {args : Array Value} {below : List Frame} {meth : Method} {c : Code} {H : Heap} {locs : List Loc} {cells slots : Nat} {Q : State → Prop}
variable {mc ms : Nat} {free : Addr → Prop} {A0 A1 : Nat → Prop} {H0 : Heap} {a : Array Value} {pc : Nat} {ls : Array Slot} {st0 rest : List Value}
theorem vx_keep {st₀ t T' : State} {L : List Loc} (h0 : st₀.heap = H) (e1 : T'.heap = t.heap) (hS : va_S A0 H0 H locs) (hA : ∀ q, q < H.size → A1 q → A0 q) (hf : ∀ q, free q → A0 q) (hL : ∀ q ∈ L, free q.base) (hF : va_F A1 st₀ t) :
    H.size ≤ T'.heap.size ∧ (∀ q : Nat, q < H.size → ¬ A1 q → T'.heap[q]? = H[q]?) ∧ va_S A0 H0 T'.heap (locs ++ L) := by
  obtain ⟨hz, hk⟩ := hF
  rw [h0] at hz hk
  exact ⟨by rw [e1]; exact hz, fun q h1 h2 => by rw [e1]; exact hk q h1 h2,
    ⟨Nat.le_trans hS.1 (by rw [e1]; exact hz), fun q h1 h2 => by rw [e1, hk q (Nat.lt_of_lt_of_le h1 hS.1) (fun z => h2 (hA q (Nat.lt_of_lt_of_le h1 hS.1) z))]; exact hS.2.1 q h1 h2, fun q hq => by
      rcases List.mem_append.mp hq with h | h
      · exact hS.2.2 q h
      · exact hf _ (hL q h)⟩⟩
theorem vx_calli {S SX : Type} {post : Int32 → S → Prop} {px : SX → Prop} {B : S → State → Prop} {BX : String → SX → State → Prop} {AX : Nat → Prop} (hr : vx_Run p l e R s m args below meth c H locs cells slots mc ms (F0 m pc ls st0) rest (va_Qi post B A1 a) (vx_X px BX AX) free) (hS : va_S A0 H0 H locs) (hA : ∀ q, q < H.size → A1 q → A0 q) (hf : ∀ q, free q → A0 q) (hAX : ∀ q, q < H.size → AX q → A0 q)
    (kx : ∀ (E : String) (ce : Cell) (q9 : Addr) (u : SX) (t : State) (H1 : Heap) (locs1 : List Loc), t.heap = H1 → s.vm.Alike t.vm → px u → BX E u t → H.size ≤ H1.size → (∀ q : Nat, q < H.size → ¬ AX q → H1[q]? = H[q]?) → va_S A0 H0 H1 locs1 → H1[q9]? = some ce → ce.vm = .none → s.vm.findClass E = some ce.cls → vx_W p l e R s m args below meth c H1 locs1 (cells + mc) (slots + ms) Q (F0 m pc ls rest) q9)
    (kk : ∀ (r : Int32) (u : S) (t : State) (H1 : Heap) (locs1 : List Loc), t.heap = H1 → s.vm.Alike t.vm → post r u → B u t → H.size ≤ H1.size → (∀ q : Nat, q < H.size → ¬ A1 q → H1[q]? = H[q]?) → va_S A0 H0 H1 locs1 → W p l e R s m args below meth c H1 locs1 (cells + mc) (slots + ms) Q (F0 m (pc + 3) ls (.int r :: rest))) : W p l e R s m args below meth c H locs cells slots Q (F0 m pc ls st0) := by
  intro T hT X
  rcases hr T hT X with ⟨v, st₀, t, T', L, h0, X', hL, e1, e2, ⟨⟨r, u, hv, hp, hb⟩, hF⟩, st⟩ | ⟨q, st₀, t, T', L, E, ce, h0, X', hL, e1, e2, ⟨u, hp, hb, hF⟩, hce, hcv, hcl, st⟩
  · cases hv
    obtain ⟨k1, k2, k3⟩ := vx_keep h0 e1 hS hA hf hL hF
    obtain ⟨t2, a1, b1⟩ := kk r u t T'.heap (locs ++ L) e1.symm (by rw [← e2]; exact X'.warmed.alike) hp hb k1 k2 k3 T' rfl X'
    exact ⟨t2, st t2 a1, b1⟩
  · obtain ⟨k1, k2, k3⟩ := vx_keep h0 e1 hS hAX hf hL hF
    obtain ⟨t2, a1, b1⟩ := kx E ce q u t T'.heap (locs ++ L) e1.symm (by rw [← e2]; exact X'.warmed.alike) hp hb k1 k2 k3 (by rw [e1]; exact hce) hcv hcl T' rfl X'
    exact ⟨t2, st.trans a1, b1⟩
theorem vx_calll {S SX : Type} {post : Int64 → S → Prop} {px : SX → Prop} {B : S → State → Prop} {BX : String → SX → State → Prop} {AX : Nat → Prop} (hr : vx_Run p l e R s m args below meth c H locs cells slots mc ms (F0 m pc ls st0) rest (va_Ql post B A1 a) (vx_X px BX AX) free) (hS : va_S A0 H0 H locs) (hA : ∀ q, q < H.size → A1 q → A0 q) (hf : ∀ q, free q → A0 q) (hAX : ∀ q, q < H.size → AX q → A0 q)
    (kx : ∀ (E : String) (ce : Cell) (q9 : Addr) (u : SX) (t : State) (H1 : Heap) (locs1 : List Loc), t.heap = H1 → s.vm.Alike t.vm → px u → BX E u t → H.size ≤ H1.size → (∀ q : Nat, q < H.size → ¬ AX q → H1[q]? = H[q]?) → va_S A0 H0 H1 locs1 → H1[q9]? = some ce → ce.vm = .none → s.vm.findClass E = some ce.cls → vx_W p l e R s m args below meth c H1 locs1 (cells + mc) (slots + ms) Q (F0 m pc ls rest) q9)
    (kk : ∀ (r : Int64) (u : S) (t : State) (H1 : Heap) (locs1 : List Loc), t.heap = H1 → s.vm.Alike t.vm → post r u → B u t → H.size ≤ H1.size → (∀ q : Nat, q < H.size → ¬ A1 q → H1[q]? = H[q]?) → va_S A0 H0 H1 locs1 → W p l e R s m args below meth c H1 locs1 (cells + mc) (slots + ms) Q (F0 m (pc + 3) ls (.long r :: rest))) : W p l e R s m args below meth c H locs cells slots Q (F0 m pc ls st0) := by
  intro T hT X
  rcases hr T hT X with ⟨v, st₀, t, T', L, h0, X', hL, e1, e2, ⟨⟨r, u, hv, hp, hb⟩, hF⟩, st⟩ | ⟨q, st₀, t, T', L, E, ce, h0, X', hL, e1, e2, ⟨u, hp, hb, hF⟩, hce, hcv, hcl, st⟩
  · cases hv
    obtain ⟨k1, k2, k3⟩ := vx_keep h0 e1 hS hA hf hL hF
    obtain ⟨t2, a1, b1⟩ := kk r u t T'.heap (locs ++ L) e1.symm (by rw [← e2]; exact X'.warmed.alike) hp hb k1 k2 k3 T' rfl X'
    exact ⟨t2, st t2 a1, b1⟩
  · obtain ⟨k1, k2, k3⟩ := vx_keep h0 e1 hS hAX hf hL hF
    obtain ⟨t2, a1, b1⟩ := kx E ce q u t T'.heap (locs ++ L) e1.symm (by rw [← e2]; exact X'.warmed.alike) hp hb k1 k2 k3 (by rw [e1]; exact hce) hcv hcl T' rfl X'
    exact ⟨t2, st.trans a1, b1⟩
theorem vx_callf {S SX : Type} {post : UInt32 → S → Prop} {px : SX → Prop} {B : S → State → Prop} {BX : String → SX → State → Prop} {AX : Nat → Prop} (hr : vx_Run p l e R s m args below meth c H locs cells slots mc ms (F0 m pc ls st0) rest (va_Qf post B A1 a) (vx_X px BX AX) free) (hS : va_S A0 H0 H locs) (hA : ∀ q, q < H.size → A1 q → A0 q) (hf : ∀ q, free q → A0 q) (hAX : ∀ q, q < H.size → AX q → A0 q)
    (kx : ∀ (E : String) (ce : Cell) (q9 : Addr) (u : SX) (t : State) (H1 : Heap) (locs1 : List Loc), t.heap = H1 → s.vm.Alike t.vm → px u → BX E u t → H.size ≤ H1.size → (∀ q : Nat, q < H.size → ¬ AX q → H1[q]? = H[q]?) → va_S A0 H0 H1 locs1 → H1[q9]? = some ce → ce.vm = .none → s.vm.findClass E = some ce.cls → vx_W p l e R s m args below meth c H1 locs1 (cells + mc) (slots + ms) Q (F0 m pc ls rest) q9)
    (kk : ∀ (r : UInt32) (u : S) (t : State) (H1 : Heap) (locs1 : List Loc), t.heap = H1 → s.vm.Alike t.vm → post r u → B u t → H.size ≤ H1.size → (∀ q : Nat, q < H.size → ¬ A1 q → H1[q]? = H[q]?) → va_S A0 H0 H1 locs1 → W p l e R s m args below meth c H1 locs1 (cells + mc) (slots + ms) Q (F0 m (pc + 3) ls (.float r :: rest))) : W p l e R s m args below meth c H locs cells slots Q (F0 m pc ls st0) := by
  intro T hT X
  rcases hr T hT X with ⟨v, st₀, t, T', L, h0, X', hL, e1, e2, ⟨⟨r, u, hv, hp, hb⟩, hF⟩, st⟩ | ⟨q, st₀, t, T', L, E, ce, h0, X', hL, e1, e2, ⟨u, hp, hb, hF⟩, hce, hcv, hcl, st⟩
  · cases hv
    obtain ⟨k1, k2, k3⟩ := vx_keep h0 e1 hS hA hf hL hF
    obtain ⟨t2, a1, b1⟩ := kk r u t T'.heap (locs ++ L) e1.symm (by rw [← e2]; exact X'.warmed.alike) hp hb k1 k2 k3 T' rfl X'
    exact ⟨t2, st t2 a1, b1⟩
  · obtain ⟨k1, k2, k3⟩ := vx_keep h0 e1 hS hAX hf hL hF
    obtain ⟨t2, a1, b1⟩ := kx E ce q u t T'.heap (locs ++ L) e1.symm (by rw [← e2]; exact X'.warmed.alike) hp hb k1 k2 k3 (by rw [e1]; exact hce) hcv hcl T' rfl X'
    exact ⟨t2, st.trans a1, b1⟩
theorem vx_calld {S SX : Type} {post : UInt64 → S → Prop} {px : SX → Prop} {B : S → State → Prop} {BX : String → SX → State → Prop} {AX : Nat → Prop} (hr : vx_Run p l e R s m args below meth c H locs cells slots mc ms (F0 m pc ls st0) rest (va_Qd post B A1 a) (vx_X px BX AX) free) (hS : va_S A0 H0 H locs) (hA : ∀ q, q < H.size → A1 q → A0 q) (hf : ∀ q, free q → A0 q) (hAX : ∀ q, q < H.size → AX q → A0 q)
    (kx : ∀ (E : String) (ce : Cell) (q9 : Addr) (u : SX) (t : State) (H1 : Heap) (locs1 : List Loc), t.heap = H1 → s.vm.Alike t.vm → px u → BX E u t → H.size ≤ H1.size → (∀ q : Nat, q < H.size → ¬ AX q → H1[q]? = H[q]?) → va_S A0 H0 H1 locs1 → H1[q9]? = some ce → ce.vm = .none → s.vm.findClass E = some ce.cls → vx_W p l e R s m args below meth c H1 locs1 (cells + mc) (slots + ms) Q (F0 m pc ls rest) q9)
    (kk : ∀ (r : UInt64) (u : S) (t : State) (H1 : Heap) (locs1 : List Loc), t.heap = H1 → s.vm.Alike t.vm → post r u → B u t → H.size ≤ H1.size → (∀ q : Nat, q < H.size → ¬ A1 q → H1[q]? = H[q]?) → va_S A0 H0 H1 locs1 → W p l e R s m args below meth c H1 locs1 (cells + mc) (slots + ms) Q (F0 m (pc + 3) ls (.double r :: rest))) : W p l e R s m args below meth c H locs cells slots Q (F0 m pc ls st0) := by
  intro T hT X
  rcases hr T hT X with ⟨v, st₀, t, T', L, h0, X', hL, e1, e2, ⟨⟨r, u, hv, hp, hb⟩, hF⟩, st⟩ | ⟨q, st₀, t, T', L, E, ce, h0, X', hL, e1, e2, ⟨u, hp, hb, hF⟩, hce, hcv, hcl, st⟩
  · cases hv
    obtain ⟨k1, k2, k3⟩ := vx_keep h0 e1 hS hA hf hL hF
    obtain ⟨t2, a1, b1⟩ := kk r u t T'.heap (locs ++ L) e1.symm (by rw [← e2]; exact X'.warmed.alike) hp hb k1 k2 k3 T' rfl X'
    exact ⟨t2, st t2 a1, b1⟩
  · obtain ⟨k1, k2, k3⟩ := vx_keep h0 e1 hS hAX hf hL hF
    obtain ⟨t2, a1, b1⟩ := kx E ce q u t T'.heap (locs ++ L) e1.symm (by rw [← e2]; exact X'.warmed.alike) hp hb k1 k2 k3 (by rw [e1]; exact hce) hcv hcl T' rfl X'
    exact ⟨t2, st.trans a1, b1⟩
theorem vx_callv {S SX : Type} {post : S → Prop} {px : SX → Prop} {B : S → State → Prop} {BX : String → SX → State → Prop} {AX : Nat → Prop} (hr : vx_Run p l e R s m args below meth c H locs cells slots mc ms (F0 m pc ls st0) rest (va_Qv post B A1 a) (vx_X px BX AX) free) (hS : va_S A0 H0 H locs) (hA : ∀ q, q < H.size → A1 q → A0 q) (hf : ∀ q, free q → A0 q) (hAX : ∀ q, q < H.size → AX q → A0 q)
    (kx : ∀ (E : String) (ce : Cell) (q9 : Addr) (u : SX) (t : State) (H1 : Heap) (locs1 : List Loc), t.heap = H1 → s.vm.Alike t.vm → px u → BX E u t → H.size ≤ H1.size → (∀ q : Nat, q < H.size → ¬ AX q → H1[q]? = H[q]?) → va_S A0 H0 H1 locs1 → H1[q9]? = some ce → ce.vm = .none → s.vm.findClass E = some ce.cls → vx_W p l e R s m args below meth c H1 locs1 (cells + mc) (slots + ms) Q (F0 m pc ls rest) q9)
    (kk : ∀ (u : S) (t : State) (H1 : Heap) (locs1 : List Loc), t.heap = H1 → s.vm.Alike t.vm → post u → B u t → H.size ≤ H1.size → (∀ q : Nat, q < H.size → ¬ A1 q → H1[q]? = H[q]?) → va_S A0 H0 H1 locs1 → W p l e R s m args below meth c H1 locs1 (cells + mc) (slots + ms) Q (F0 m (pc + 3) ls (rest))) : W p l e R s m args below meth c H locs cells slots Q (F0 m pc ls st0) := by
  intro T hT X
  rcases hr T hT X with ⟨v, st₀, t, T', L, h0, X', hL, e1, e2, ⟨⟨u, hv, hp, hb⟩, hF⟩, st⟩ | ⟨q, st₀, t, T', L, E, ce, h0, X', hL, e1, e2, ⟨u, hp, hb, hF⟩, hce, hcv, hcl, st⟩
  · cases hv
    obtain ⟨k1, k2, k3⟩ := vx_keep h0 e1 hS hA hf hL hF
    obtain ⟨t2, a1, b1⟩ := kk u t T'.heap (locs ++ L) e1.symm (by rw [← e2]; exact X'.warmed.alike) hp hb k1 k2 k3 T' rfl X'
    exact ⟨t2, st t2 a1, b1⟩
  · obtain ⟨k1, k2, k3⟩ := vx_keep h0 e1 hS hAX hf hL hF
    obtain ⟨t2, a1, b1⟩ := kx E ce q u t T'.heap (locs ++ L) e1.symm (by rw [← e2]; exact X'.warmed.alike) hp hb k1 k2 k3 (by rw [e1]; exact hce) hcv hcl T' rfl X'
    exact ⟨t2, st.trans a1, b1⟩
/-- caught by the row x of this method's table; the rows ahead don't take it -/
theorem vx_catch {own name : String} {E : String} {ce : Cell} {q : Addr} (hown : s.vm.findClass own = some m.cls) (pre : List ExceptionTableEntry) (x : ExceptionTableEntry) (suf : List ExceptionTableEntry) (hsplit : c.exceptionTable.toList = pre ++ x :: suf)
    (hpass : ∀ z ∈ pre, covers z pc = false ∨ (z.catchType ≠ 0 ∧ ∃ nm : String, (Cond.classLink own z.catchType nm).before args s = true ∧ va_Nc E nm s)) (hx : covers x pc = true) (h0 : x.catchType ≠ 0)
    (hlink : (Cond.classLink own x.catchType name).before args s = true) (hcast : (Cond.castable E name).before args s = true) (hcell : H[q]? = some ce) (hv : ce.vm = .none) (hcl : s.vm.findClass E = some ce.cls)
    (kk : W p l e R s m args below meth c H locs cells slots Q (F0 m x.handlerPc ls [.ref q])) : vx_W p l e R s m args below meth c H locs cells slots Q (F0 m pc ls rest) q := by
  intro T hT X
  have hpl : e.platform.magicAccessors = ({} : Platform).magicAccessors := by rw [X.admits.platform]
  obtain ⟨c3, c4, hc3, hc4, hasg⟩ := Cond.castable_spec hcast
  cases Option.some.inj (hc3.symm.trans hcl)
  obtain ⟨c5, hc5, hcl5⟩ := Cond.classLink_spec hown hlink e.platform hpl
  cases Option.some.inj (hc4.symm.trans hc5)
  obtain ⟨vm', X', st⟩ := X.thenCaughtThrough q (g := F0 m pc ls rest) rfl (Steps.refl _) (by rw [hT]; exact hcell) (by rw [hv]; rfl) (by obtain ⟨k9, h9, -⟩ := Vm.findClass_spec hcl; exact ⟨k9, h9⟩) pre x suf hsplit
    (fun z hz => by
      rcases hpass z hz with h | ⟨hz0, nm, hl1, hn1⟩
      · exact Or.inl h
      · obtain ⟨c6, hc6, hcl6⟩ := Cond.classLink_spec hown hl1 e.platform hpl
        obtain ⟨a8, b8, h1, h2, h3⟩ := hn1
        cases Option.some.inj (h1.symm.trans hcl)
        cases Option.some.inj (h2.symm.trans hc6)
        exact Or.inr ⟨hz0, _, hcl6, h3⟩) hx (Or.inr ⟨h0, c4, hcl5, hasg⟩)
  obtain ⟨t, a1, b1⟩ := kk (T.setVm vm') hT X'
  exact ⟨t, st.trans a1, b1⟩
end Rows
section Ends
variable {p : Program} {l : Launch} {e : Env} {R : Room} {s : State} {m : MethodId} {args : Array Value} {below : List Frame} {meth : Method} {c : Code} {H : Heap} {locs : List Loc} {cells slots : Nat} {Q : State → Prop}
variable {mc ms : Nat} {free : Addr → Prop} {A0 A1 : Nat → Prop} {H0 : Heap} {a : Array Value} {ls : Array Slot} {st0 rest : List Value}
variable {Qc : Array Value → State → Outcome → State → Prop} {XC : String → State → State → Prop}
/-- what a body that may throw owes at its end -/
def vx_MQ (below : List Frame) (Qc : Array Value → State → Outcome → State → Prop) (XC : String → State → State → Prop) (a : Array Value) (s : State) (mc ms : Nat) (free : Addr → Prop) : State → Prop := fun t =>
  ∃ o, t.status = .running ∧ Ended t below o ∧ vx_Q Qc XC mc ms free a s o t
theorem vx_ret {g : JFrame} {mc ms : Nat} (k : W p l e R s m args below meth c H locs cells slots (MQ below Qc args s mc ms free) g) : W p l e R s m args below meth c H locs cells slots (vx_MQ below Qc XC args s mc ms free) g := by
  intro T hT X
  obtain ⟨t, a1, o, b1, b2, b3, b4⟩ := k T hT X
  exact ⟨t, a1, o, b1, b2, Or.inl ⟨b3, b4⟩⟩
/-- not caught here: it goes on to the caller -/
theorem vx_widen {g : JFrame} {q : Addr} {k n : Nat} (h1 : cells ≤ k) (h2 : slots ≤ n) (kk : vx_W p l e R s m args below meth c H locs k n Q g q) : vx_W p l e R s m args below meth c H locs cells slots Q g q := fun T hT X => kk T hT (stand_widen X h1 h2)
theorem vx_out {pc : Nat} {E : String} {ce : Cell} {q : Addr} {mc ms : Nat} (hout : ∀ x ∈ c.exceptionTable.toList, covers x pc = false) (hlocks : meth.locks = false) (hcell : H[q]? = some ce) (hv : ce.vm = .none) (hcl : s.vm.findClass E = some ce.cls)
    (hx : ∀ t : State, t.heap = H → s.vm.Alike t.vm → XC E s t) (hf : ∀ z ∈ locs, free z.base) (hc : cells ≤ mc) (hs : slots ≤ ms) :
    vx_W p l e R s m args below meth c H locs cells slots (vx_MQ below Qc XC args s mc ms free) (F0 m pc ls rest) q := by
  intro T hT X
  obtain ⟨st1, hrun, hend, hW, hsm⟩ := X.leaveThrown q (g := F0 m pc ls rest) rfl rfl rfl hout hlocks
  have hcell9 : (T.setFrames (.throwing q :: below)).heap[q]? = some ce := by
    show T.heap[q]? = some ce
    rw [hT]; exact hcell
  exact ⟨_, st1, .threw q, hrun, hend, Or.inr ⟨q, rfl, E, ce, locs, hx _ hT hW.alike, hcell9, hv, hcl, hW, hsm.mono hc hs, hf⟩⟩
theorem vx_frame {U : State} {k n : Nat} (h : s.sameButNew ({ U with vm := s.vm } : State) locs k n) : s.heap.size ≤ U.heap.size ∧ ∀ q : Nat, q < s.heap.size → (∀ z ∈ locs, z.base ≠ q) → U.heap[q]? = s.heap[q]? := by
  obtain ⟨-, h2, -, -, -, h6⟩ := h
  refine ⟨h2, fun q hq hz => ?_⟩
  obtain ⟨c9, e1, e2, e3, e4⟩ := h6 q _ (Array.getElem?_eq_getElem hq)
  have hs : c9.slots = (s.heap[q]).slots := Array.ext_getElem? fun i => e4 i fun hm => hz _ hm rfl
  have h9 : c9 = s.heap[q] := by
    rw [hs] at e2
    exact e2
  have e5 : U.heap[q]? = some c9 := e1
  rw [e5, h9, Array.getElem?_eq_getElem hq]
/-- the words of a throw but the four that speak of the heap -/
def vx_no (w : Cond) : Bool := decide (w ≠ .isRef (.static Bundle.tN "UNASSIGNED_STACK" Bundle.steD)) && decide (w ≠ .isRef (.static Bundle.tN "SUPPRESSED_SENTINEL" Bundle.listD)) && decide (w ≠ .laysStatic Bundle.tN "UNASSIGNED_STACK" Bundle.steD) && decide (w ≠ .laysStatic Bundle.tN "SUPPRESSED_SENTINEL" Bundle.listD)
def vx_at0 (own : String) (ic : Nat) (X : String) (names : List String) : List Cond := (Bundle.ownAtoms0 own ic X names).filter vx_no
def vx_atS (own : String) (ic : Nat) (X : String) (names : List String) : List Cond := (Bundle.ownAtoms own ic X names).filter vx_no
/-- a word that the tables alone decide, or a good one -/
def vx_ot (w : Cond) : Bool := w.onTables || goodWord w
theorem vx_ot_at {args a' : Array Value} {s U : State} {w : Cond} (hW : s.WarmedH U.vm) (hvm : s.vm = U.vm) (hg : vx_ot w = true) (h : w.before args s = true) : w.before a' U = true := by
  simp only [vx_ot, Bool.or_eq_true] at hg
  rcases hg with hg | hg
  · exact va_tabs hg hvm h
  · exact word_at hW (good_of_word hg) h
/-- a list's words: the good ones out of the method's own list, the others by premises of their own -/
theorem vx_hat {args : Array Value} {s : State} {L B : List Cond} (h1 : ∀ w ∈ L.filter goodWord, w.before args s = true) (h2 : ∀ w ∈ L.filter (fun w => !goodWord w), w ∈ B) (h3 : ∀ w ∈ B, w.before args s = true) : ∀ w ∈ L, w.before args s = true := by
  intro w hw
  by_cases g : goodWord w = true
  · exact h1 w (List.mem_filter.mpr ⟨hw, g⟩)
  · refine h3 w (h2 w (List.mem_filter.mpr ⟨hw, ?_⟩))
    show (!goodWord w) = true
    cases hgw : goodWord w
    · rfl
    · exact absurd hgw g
theorem vx_c {args : Array Value} {s : State} {w : Cond} {B : List Cond} (h : w.before args s = true) (t : ∀ w ∈ B, w.before args s = true) : ∀ w' ∈ w :: B, w'.before args s = true := fun w' h' => (List.mem_cons.mp h').elim (fun e => by rw [e]; exact h) (t w')
theorem vx_n {args : Array Value} {s : State} : ∀ w ∈ ([] : List Cond), w.before args s = true := fun _ h => nomatch h
theorem vx_own {args : Array Value} {s : State} {L : List Cond} (h1 : ∀ w ∈ L.filter vx_no, w.before args s = true)
    (hU : (Cond.isRef (.static Bundle.tN "UNASSIGNED_STACK" Bundle.steD)).before args s = true) (hN : (Cond.isRef (.static Bundle.tN "SUPPRESSED_SENTINEL" Bundle.listD)).before args s = true)
    (lU : (Cond.laysStatic Bundle.tN "UNASSIGNED_STACK" Bundle.steD).before args s = true) (lN : (Cond.laysStatic Bundle.tN "SUPPRESSED_SENTINEL" Bundle.listD).before args s = true) : ∀ w ∈ L, w.before args s = true := by
  intro w hw
  by_cases e1 : w = .isRef (.static Bundle.tN "UNASSIGNED_STACK" Bundle.steD)
  · rw [e1]; exact hU
  · by_cases e2 : w = .isRef (.static Bundle.tN "SUPPRESSED_SENTINEL" Bundle.listD)
    · rw [e2]; exact hN
    · by_cases e3 : w = .laysStatic Bundle.tN "UNASSIGNED_STACK" Bundle.steD
      · rw [e3]; exact lU
      · by_cases e4 : w = .laysStatic Bundle.tN "SUPPRESSED_SENTINEL" Bundle.listD
        · rw [e4]; exact lN
        · exact h1 w (List.mem_filter.mpr ⟨hw, by unfold vx_no; rw [decide_eq_true e1, decide_eq_true e2, decide_eq_true e3, decide_eq_true e4]; rfl⟩)
/-- where a static field lies, its class's statics cell in H -/
def vx_L (C n d : String) (A : Nat → Prop) (U : State) (H : Heap) : Prop := ∃ (c : ClassId) (k : Class) (i : Nat) (f : Field) (a : Nat) (cell : Cell), U.vm.findClass C = some c ∧ U.fieldFound? C n d = some (c, k, i, f) ∧ f.isStatic = true ∧ k.statics = some a ∧ H[a]? = some cell ∧ cell.vm.isStatics = true ∧ cell.cls = c ∧ f.slot < cell.slots.size ∧ k.staticTypes[f.slot]? = some f.type ∧ ¬ A a
theorem vx_L.moved {C n d : String} {A : Nat → Prop} {u U : State} {H : Heap} (hvm : u.vm.Alike U.vm) (h : vx_L C n d A u H) : vx_L C n d A U H := by
  obtain ⟨c, k, i, f, a, cell, h1, h2, h3, h4, h5, h6, h7, h8, h9, h10⟩ := h
  obtain ⟨k', hi', he⟩ := State.fieldFound?_setVm hvm h2
  exact ⟨c, k', i, f, a, cell, by rw [hvm.findClass]; exact h1, hi', h3, by rw [he]; exact h4, h5, h6, h7, h8, by rw [he]; exact h9, h10⟩
theorem vx_L.kept {C n d : String} {A : Nat → Prop} {U : State} {H H1 : Heap} (h : vx_L C n d A U H) (hq : ∀ a : Nat, a < H.size → ¬ A a → H1[a]? = H[a]?) : vx_L C n d A U H1 := by
  obtain ⟨c, k, i, f, a, cell, h1, h2, h3, h4, h5, h6, h7, h8, h9, h10⟩ := h
  exact ⟨c, k, i, f, a, cell, h1, h2, h3, h4, by rw [hq a (Array.getElem?_eq_some_iff.mp h5).1 h10]; exact h5, h6, h7, h8, h9, h10⟩
theorem vx_L.narrow {C n d : String} {A B : Nat → Prop} {U : State} {H : Heap} (h : vx_L C n d A U H) (hAB : ∀ q, B q → A q) : vx_L C n d B U H := by
  obtain ⟨c, k, i, f, a, cell, h1, h2, h3, h4, h5, h6, h7, h8, h9, h10⟩ := h
  exact ⟨c, k, i, f, a, cell, h1, h2, h3, h4, h5, h6, h7, h8, h9, fun z => h10 (hAB _ z)⟩
theorem vx_L.word {C n d : String} {A : Nat → Prop} {s : State} {args : Array Value} (h : vx_L C n d A s s.heap) : (Cond.laysStatic C n d).before args s = true := by
  obtain ⟨c, k, i, f, a, cell, h1, h2, h3, h4, h5, h6, h7, h8, h9, -⟩ := h
  show (Cond.laysStatic C n d).holds args s none s [] = true
  exact Cond.laysStatic_of h1 h2 h3 h4 h5 h6 h7 h8 h9
/-- .. and what it holds: null or some reference -/
def vx_Zq (C n d : String) (A : Nat → Prop) (U : State) (H : Heap) : Prop := va_Zq C n d A U H ∧ vx_L C n d A U H
theorem vx_Zq.moved {C n d : String} {A : Nat → Prop} {u U : State} {H : Heap} (hvm : u.vm.Alike U.vm) (h : vx_Zq C n d A u H) : vx_Zq C n d A U H := ⟨va_Zq.moved hvm h.1, vx_L.moved hvm h.2⟩
theorem vx_Zq.kept {C n d : String} {A : Nat → Prop} {U : State} {H H1 : Heap} (h : vx_Zq C n d A U H) (hq : ∀ a : Nat, a < H.size → ¬ A a → H1[a]? = H[a]?) : vx_Zq C n d A U H1 := ⟨va_Zq.kept h.1 hq, vx_L.kept h.2 hq⟩
theorem vx_Zq.narrow {C n d : String} {A B : Nat → Prop} {U : State} {H : Heap} (h : vx_Zq C n d A U H) (hAB : ∀ q, B q → A q) : vx_Zq C n d B U H := ⟨va_Zq.narrow h.1 hAB, vx_L.narrow h.2 hAB⟩
theorem vx_Zqof {args : Array Value} {s : State} {C n d : String} {A : Nat → Prop} (hl : (Cond.laysStatic C n d).before args s = true) (hini : (Cond.initialized C).before args s = true) (h : (Cond.isRef (.static C n d)).before args s = true) (hA : ∀ a : Nat, a < s.heap.size → ¬ A a) : vx_Zq C n d A s s.heap := by
  refine ⟨va_Zqof hl hini h hA, ?_⟩
  obtain ⟨c, k, i, f, a, cell, h1, h2, h3, h4, h5, h6, h7, h8, h9⟩ := Cond.laysStatic_spec hl
  exact ⟨c, k, i, f, a, cell, h1, h2, h3, h4, h5, h6, h7, h8, h9, hA a (Array.getElem?_eq_some_iff.mp h5).1⟩
theorem vx_isRef {C n d : String} {v : Value} {A : Nat → Prop} {s : State} {args : Array Value} (h : va_Z C n d v A s s.heap) (hv : v.isRef = true) : (Cond.isRef (.static C n d)).before args s = true := by
  obtain ⟨cf, kf, fi, f, a, cell, h1, h2, h3, h4, h5, h6, h7, -⟩ := h
  have he : (Term.static C n d).eval args s none [] s = some v := by
    simp [Term.eval, State.fieldNamed?, h1, h2, h4, h5, h6, h7]
  simp only [Cond.before, Cond.holds, Cond.value, he]
  cases v <;> simp_all [Value.isRef]
theorem vx_isRefq {C n d : String} {A : Nat → Prop} {s : State} {args : Array Value} (h : va_Zq C n d A s s.heap) : (Cond.isRef (.static C n d)).before args s = true := by
  rcases h with h | ⟨t, h⟩
  · exact vx_isRef h rfl
  · exact vx_isRef h rfl
/-- the same frame, seen from here: as if the method were called anew in this heap -/
theorem vx_rebase {T : State} (X : Stand p l e R s m args below meth c T locs cells slots) {R' : Room} (hf : R'.frames ≤ R.frames) (hl : R'.locals ≤ R.locals) (hc : cells + R'.cells ≤ R.cells) (hs : slots + R'.slots ≤ R.slots) :
    Stand p l e R' ((T.setVm s.vm).setFrames (.invoking m args :: below)) m args below meth c T [] 0 0 := by
  have htop : (T.setVm s.vm).topJava?.isSome := X.here.top
  have hF : ((T.setVm s.vm).setFrames (.invoking m args :: below)).frames = .invoking m args :: below := State.frames_setFrames _ (State.cur_lt_of_top htop)
  obtain ⟨g₀, hg0⟩ := Option.isSome_iff_exists.mp htop
  obtain ⟨r, hr⟩ := State.topJava?_eq_some.mp hg0
  have hl9 : e.platform.stackLimits (T.setVm s.vm).me = e.platform.stackLimits s.me := X.limits
  have hb9 : (T.setVm s.vm).me.stackBytes = s.me.stackBytes := X.bytes
  refine ⟨X.admits, X.cas, X.clock, hF, ?_, X.hears, X.method, X.code, X.here, X.tail, X.warmed, ?_, ?_, ?_⟩
  · have h := X.room
    have hU : ((T.setVm s.vm).setFrames (.invoking m args :: below)).localsInUse = s.localsInUse := by
      rw [State.localsInUse_invoking hF (meth := meth) (c := c) X.method X.code, State.localsInUse_invoking X.frames X.method X.code]
    simp only [State.hasRoom, Bool.and_eq_true, decide_eq_true_eq] at h ⊢
    obtain ⟨⟨⟨⟨h1, h2, h3, h4, h5, h6⟩, h7⟩, h8⟩, h9⟩ := h
    rw [X.frames, List.length_cons] at h2 h3
    have q1 := X.heapSize
    have q2 := X.used
    simp only [hF, hU, List.length_cons, State.stackLimits_setFrames, State.stackBytes_setFrames, hl9, hb9]
    refine ⟨⟨⟨⟨by omega, by omega, by omega, by omega, by omega, h6⟩, ?_⟩, ?_⟩, X.book⟩
    · show T.heap.size + R'.cells ≤ e.platform.maxCells
      omega
    · show T.slotsUsed + R'.slots ≤ e.platform.maxSlots
      omega
  · rw [State.stackLimits_setFrames]; rfl
  · rw [State.stackBytes_setFrames]; rfl
  · refine ⟨?_, Nat.le_refl _, Nat.le_refl _, ?_, ?_, fun a c9 h9 => ⟨c9, h9, rfl, rfl, fun _ _ => rfl⟩⟩
    · obtain ⟨t, ht, -⟩ := State.frames_cons hr
      show T.setVm s.vm = { ((T.setVm s.vm).setFrames (.invoking m args :: below)).setFrames (T.setVm s.vm).frames with heap := T.heap, slotsUsed := T.slotsUsed }
      rw [State.setFrames_setFrames, State.setFrames_self ht]
      rfl
    · show T.slotsUsed = T.slotsUsed + ((T.heap.toList.drop T.heap.size).map (·.slots.size)).sum
      rw [List.drop_eq_nil_of_le (Nat.le_of_eq Array.length_toList)]
      rfl
    · show ((T.heap.toList.drop T.heap.size).map (·.slots.size)).sum ≤ 0
      rw [List.drop_eq_nil_of_le (Nat.le_of_eq Array.length_toList)]
      exact Nat.le_refl _
/-- 'throw new E()': new; dup; invokespecial; athrow -/
theorem vx_throw0 {cc : ByteArray} {pc : Nat} (hexec : p.tables.exec = Jvm.exec) (hb : c.code = cc) (hl : l.stackTraces = false) {own cls : String} {names : List String} {ik ic mc ms : Nat} {A : Nat → Prop}
    (hown : s.vm.findClass own = some m.cls) (hcls : Bundle.fit cls = true) (hnames : ∀ n ∈ names, Bundle.fit n = true)
    (hk : (Cond.classLink own ik cls).before args s = true) (hini : (Cond.initialized cls).before args s = true) (hat : ∀ w ∈ vx_at0 own ic cls names, w.before args s = true)
    (hgood : ∀ w ∈ Cond.classLink own ik cls :: Cond.initialized cls :: vx_at0 own ic cls names, vx_ot w = true)
    (hU : vx_Zq Bundle.tN "UNASSIGNED_STACK" Bundle.steD A s s.heap) (hN : vx_Zq Bundle.tN "SUPPRESSED_SENTINEL" Bundle.listD A s s.heap) (hS : va_S A s.heap H locs) (hsize : ls.size = c.maxLocals)
    (d0 : decode cc pc = .ok (.new ik, 3)) (d3 : decode cc (pc + 3) = .ok (.dup, 1)) (d4 : decode cc (pc + 4) = .ok (.invokespecial ic, 3)) (d7 : decode cc (pc + 7) = .ok (.athrow, 1))
    (hout : ∀ x ∈ c.exceptionTable.toList, covers x (pc + 7) = false)
    (hRframes : names.length + 3 < R.frames) (hRlocals : (rest.map fun v => v.category).sum + (13 * (names.length + 1) + 42) ≤ R.locals) (hRcells : cells + 1 ≤ R.cells) (hRslots : slots + 6 ≤ R.slots) (hlocks : meth.locks = false)
    (hx : ∀ t : State, s.vm.Alike t.vm → H.size ≤ t.heap.size → (∀ q : Nat, q < H.size → t.heap[q]? = H[q]?) → XC cls s t)
    (hf : ∀ z ∈ locs, free z.base) (hc : cells + 1 ≤ mc) (hs : slots + 6 ≤ ms) :
    W p l e R s m args below meth c H locs cells slots (vx_MQ below Qc XC args s mc ms free) (F0 m pc ls rest) := by
  intro T hT X
  have htr : e.platform.stackTraces = false := (show e.platform.stackTraces = l.stackTraces by rw [X.admits.platform]).trans hl
  have Y := vx_rebase X (R' := { frames := R.frames, locals := R.locals, cells := 1, slots := 6 }) (Nat.le_refl _) (Nat.le_refl _) hRcells hRslots
  obtain ⟨s', hA⟩ : ∃ z, z = (T.setVm s.vm).setFrames (.invoking m args :: below) := ⟨_, rfl⟩
  rw [← hA] at Y
  have hvm : s'.vm = s.vm := by rw [hA]; rfl
  have hhp : s'.heap = H := by rw [hA]; exact hT
  have hW0 : s.WarmedH s'.vm := by rw [hvm]; exact State.WarmedH.refl s
  have hat' : ∀ w ∈ vx_at0 own ic cls names, w.before args s' = true := fun w hw => vx_ot_at hW0 hvm.symm (hgood w (List.mem_cons_of_mem _ (List.mem_cons_of_mem _ hw))) (hat w hw)
  have hk' : (Cond.classLink own ik cls).before args s' = true := vx_ot_at hW0 hvm.symm (hgood _ List.mem_cons_self) hk
  have hini' : (Cond.initialized cls).before args s' = true := vx_ot_at hW0 hvm.symm (hgood _ (List.mem_cons_of_mem _ List.mem_cons_self)) hini
  have hU' : vx_Zq Bundle.tN "UNASSIGNED_STACK" Bundle.steD A s' s'.heap := by rw [hhp]; exact vx_Zq.moved hW0.alike (hU.kept hS.2.1)
  have hN' : vx_Zq Bundle.tN "SUPPRESSED_SENTINEL" Bundle.listD A s' s'.heap := by rw [hhp]; exact vx_Zq.moved hW0.alike (hN.kept hS.2.1)
  have h : ∀ w ∈ Bundle.ownAtoms0 own ic cls names, w.before args s' = true := vx_own hat' (vx_isRefq hU'.1) (vx_isRefq hN'.1) hU'.2.word hN'.2.word
  have hown' : s'.vm.findClass own = some m.cls := by rw [hvm]; exact hown
  have hins : (Cond.instantiable cls 6).before args s' = true := h _ (by simp [Bundle.ownAtoms0])
  obtain ⟨vm₁, cX, kX, hfX, hkX, -, -, X₁, st1⟩ := Y.newCold hexec (own := own) (C := cls) (index := ik) (n := 6) hown' hk' hins hini'
    (g := F0 m pc ls rest) rfl (by rw [hb]; exact d0) (Nat.le_refl _) (Nat.le_refl _)
  generalize hT1 : (T.setVm vm₁).pushCell { cls := cX, slots := kX.instanceTypes.map defaultValue, vm := .none } = T1 at X₁ st1
  have hcat : (Value.ref T.heap.size).category = 1 := rfl
  have hcellA : T1.heap[T.heap.size]? = some (freshCell cX kX) := by rw [← hT1]; exact State.heap_pushCell_size _ _
  have d3' : decode c.code (pc + 3) = .ok (.dup, 1) := by rw [hb]; exact d3
  obtain ⟨U, hsteps, hrun, hend, hW, hsame, ce, hce, hO⟩ := X₁.ctorThrow0 hexec htr (own := own) (cls := cls) (names := names) (ic := ic) hown' hcls hnames h (fun x hx => nomatch hx) hfX hkX hcellA (by rw [hhp, hT]; exact Nat.le_refl _)
    (g := { method := m, pc := pc + 4, locals := ls, stack := .ref T.heap.size :: .ref T.heap.size :: rest, locked := none }) rfl hsize rfl rfl (rest := rest) rfl
    (by rw [hb]; exact d4) (by rw [hb]; exact d7) hout hRframes (by simp only [List.map_cons, List.sum_cons, hcat]; omega) hlocks
  obtain ⟨f1, f2⟩ := vx_frame hsame
  rw [hhp] at f1 f2
  have hWs : s.WarmedH U.vm := State.WarmedH.trans hW0 hW
  have hcl : s.vm.findClass cls = some ce.cls := by
    have h9 := hO.cls
    rw [hvm] at h9
    exact h9
  have hall : s.sameButNew ({ U with vm := s.vm } : State) locs mc ms := by
    subst hA
    obtain ⟨e1, e2⟩ := hsame
    rw [State.setFrames_setFrames] at e1
    have h2 : (T.setVm s.vm).sameButNew ({ U with vm := s.vm } : State) [] (0 + 1) (0 + 6) := ⟨e1, e2⟩
    have h3 := X.same.trans h2
    rw [List.append_nil] at h3
    exact h3.mono hc hs
  refine ⟨U, ?_, .threw T.heap.size, hrun, hend, Or.inr ⟨T.heap.size, rfl, cls, ce, locs, hx U hWs.alike f1 (fun q hq => f2 q hq (fun z hz => nomatch hz)), hce, hO.vm, hcl, hWs, hall, hf⟩⟩
  refine st1 _ ?_
  show Steps p.tables e below (T1.setTop { method := m, pc := pc + 3, locals := ls, stack := .ref T.heap.size :: rest, locked := none }) _
  jvm_step X₁.here [X₁.here.top, hexec, d3', Value.category]
  exact hsteps
/-- 'throw new E("text")': new; dup; ldc; invokespecial; athrow -/
theorem vx_throwS {cc : ByteArray} {pc : Nat} (hexec : p.tables.exec = Jvm.exec) (hb : c.code = cc) (hl : l.stackTraces = false) {own cls text : String} {names : List String} {ik is ic mc ms sa : Nat} {A : Nat → Prop}
    (hown : s.vm.findClass own = some m.cls) (hcls : Bundle.fit cls = true) (hnames : ∀ n ∈ names, Bundle.fit n = true)
    (hk : (Cond.classLink own ik cls).before args s = true) (hini : (Cond.initialized cls).before args s = true) (hstr : vk_R own is text sa s) (hat : ∀ w ∈ vx_atS own ic cls names, w.before args s = true)
    (hgood : ∀ w ∈ Cond.classLink own ik cls :: Cond.initialized cls :: vx_atS own ic cls names, vx_ot w = true)
    (hU : vx_Zq Bundle.tN "UNASSIGNED_STACK" Bundle.steD A s s.heap) (hN : vx_Zq Bundle.tN "SUPPRESSED_SENTINEL" Bundle.listD A s s.heap) (hS : va_S A s.heap H locs) (hsize : ls.size = c.maxLocals)
    (d0 : decode cc pc = .ok (.new ik, 3)) (d3 : decode cc (pc + 3) = .ok (.dup, 1)) (d4 : decode cc (pc + 4) = .ok (.ldc is, 2)) (d6 : decode cc (pc + 6) = .ok (.invokespecial ic, 3)) (d9 : decode cc (pc + 9) = .ok (.athrow, 1))
    (hout : ∀ x ∈ c.exceptionTable.toList, covers x (pc + 9) = false)
    (hRframes : names.length + 3 < R.frames) (hRlocals : (rest.map fun v => v.category).sum + (13 * (names.length + 1) + 43) ≤ R.locals) (hRcells : cells + 1 ≤ R.cells) (hRslots : slots + 6 ≤ R.slots) (hlocks : meth.locks = false)
    (hx : ∀ t : State, s.vm.Alike t.vm → H.size ≤ t.heap.size → (∀ q : Nat, q < H.size → t.heap[q]? = H[q]?) → XC cls s t)
    (hf : ∀ z ∈ locs, free z.base) (hc : cells + 1 ≤ mc) (hs : slots + 6 ≤ ms) :
    W p l e R s m args below meth c H locs cells slots (vx_MQ below Qc XC args s mc ms free) (F0 m pc ls rest) := by
  intro T hT X
  have htr : e.platform.stackTraces = false := (show e.platform.stackTraces = l.stackTraces by rw [X.admits.platform]).trans hl
  have Y := vx_rebase X (R' := { frames := R.frames, locals := R.locals, cells := 1, slots := 6 }) (Nat.le_refl _) (Nat.le_refl _) hRcells hRslots
  obtain ⟨s', hA⟩ : ∃ z, z = (T.setVm s.vm).setFrames (.invoking m args :: below) := ⟨_, rfl⟩
  rw [← hA] at Y
  have hvm : s'.vm = s.vm := by rw [hA]; rfl
  have hhp : s'.heap = H := by rw [hA]; exact hT
  have hW0 : s.WarmedH s'.vm := by rw [hvm]; exact State.WarmedH.refl s
  have hat' : ∀ w ∈ vx_atS own ic cls names, w.before args s' = true := fun w hw => vx_ot_at hW0 hvm.symm (hgood w (List.mem_cons_of_mem _ (List.mem_cons_of_mem _ hw))) (hat w hw)
  have hk' : (Cond.classLink own ik cls).before args s' = true := vx_ot_at hW0 hvm.symm (hgood _ List.mem_cons_self) hk
  have hini' : (Cond.initialized cls).before args s' = true := vx_ot_at hW0 hvm.symm (hgood _ (List.mem_cons_of_mem _ List.mem_cons_self)) hini
  have hU' : vx_Zq Bundle.tN "UNASSIGNED_STACK" Bundle.steD A s' s'.heap := by rw [hhp]; exact vx_Zq.moved hW0.alike (hU.kept hS.2.1)
  have hN' : vx_Zq Bundle.tN "SUPPRESSED_SENTINEL" Bundle.listD A s' s'.heap := by rw [hhp]; exact vx_Zq.moved hW0.alike (hN.kept hS.2.1)
  have h : ∀ w ∈ Bundle.ownAtoms own ic cls names, w.before args s' = true := vx_own hat' (vx_isRefq hU'.1) (vx_isRefq hN'.1) hU'.2.word hN'.2.word
  have hown' : s'.vm.findClass own = some m.cls := by rw [hvm]; exact hown
  have hins : (Cond.instantiable cls 6).before args s' = true := h _ (by simp [Bundle.ownAtoms])
  obtain ⟨vm₁, cX, kX, hfX, hkX, -, -, X₁, st1⟩ := Y.newCold hexec (own := own) (C := cls) (index := ik) (n := 6) hown' hk' hins hini'
    (g := F0 m pc ls rest) rfl (by rw [hb]; exact d0) (Nat.le_refl _) (Nat.le_refl _)
  generalize hT1 : (T.setVm vm₁).pushCell { cls := cX, slots := kX.instanceTypes.map defaultValue, vm := .none } = T1 at X₁ st1
  have hcat : (Value.ref T.heap.size).category = 1 := rfl
  have hcellA : T1.heap[T.heap.size]? = some (freshCell cX kX) := by rw [← hT1]; exact State.heap_pushCell_size _ _
  have d3' : decode c.code (pc + 3) = .ok (.dup, 1) := by rw [hb]; exact d3
  have d4' : decode c.code (pc + 4) = .ok (.ldc is, 2) := by rw [hb]; exact d4
  have hstr' : vk_R own is text sa s' := vk_R.warm hW0 hstr
  obtain ⟨U, hsteps, hrun, hend, hW, hsame, ce, hce, hO⟩ := X₁.ctorThrowS hexec htr (own := own) (cls := cls) (names := names) (ic := ic) hown' hcls hnames h (fun x hx => nomatch hx) hfX hkX hcellA (by rw [hhp, hT]; exact Nat.le_refl _) (msg := .ref sa) rfl
    (g := { method := m, pc := pc + 6, locals := ls, stack := .ref sa :: .ref T.heap.size :: .ref T.heap.size :: rest, locked := none }) rfl hsize rfl rfl (rest := rest) rfl
    (by rw [hb]; exact d6) (by rw [hb]; exact d9) hout hRframes (by simp only [List.map_cons, List.sum_cons, hcat]; omega) hlocks
  obtain ⟨f1, f2⟩ := vx_frame hsame
  rw [hhp] at f1 f2
  have hWs : s.WarmedH U.vm := State.WarmedH.trans hW0 hW
  have hcl : s.vm.findClass cls = some ce.cls := by
    have h9 := hO.cls
    rw [hvm] at h9
    exact h9
  have hall : s.sameButNew ({ U with vm := s.vm } : State) locs mc ms := by
    subst hA
    obtain ⟨e1, e2⟩ := hsame
    rw [State.setFrames_setFrames] at e1
    have h2 : (T.setVm s.vm).sameButNew ({ U with vm := s.vm } : State) [] (0 + 1) (0 + 6) := ⟨e1, e2⟩
    have h3 := X.same.trans h2
    rw [List.append_nil] at h3
    exact h3.mono hc hs
  refine ⟨U, ?_, .threw T.heap.size, hrun, hend, Or.inr ⟨T.heap.size, rfl, cls, ce, locs, hx U hWs.alike f1 (fun q hq => f2 q hq (fun z hz => nomatch hz)), hce, hO.vm, hcl, hWs, hall, hf⟩⟩
  refine st1 _ ?_
  show Steps p.tables e below (T1.setTop { method := m, pc := pc + 3, locals := ls, stack := .ref T.heap.size :: rest, locked := none }) _
  jvm_step X₁.here [X₁.here.top, hexec, d3', Value.category]
  exact X₁.ldcString hexec (own := own) (text := text) (index := is) (a := sa) hown' hstr'.1 hstr'.2
    (g := { method := m, pc := pc + 4, locals := ls, stack := .ref T.heap.size :: .ref T.heap.size :: rest, locked := none }) rfl d4' _ hsteps
/-- 'throw new E("text")', the text by a wide index -/
theorem vx_throwSW {cc : ByteArray} {pc : Nat} (hexec : p.tables.exec = Jvm.exec) (hb : c.code = cc) (hl : l.stackTraces = false) {own cls text : String} {names : List String} {ik is ic mc ms sa : Nat} {A : Nat → Prop}
    (hown : s.vm.findClass own = some m.cls) (hcls : Bundle.fit cls = true) (hnames : ∀ n ∈ names, Bundle.fit n = true)
    (hk : (Cond.classLink own ik cls).before args s = true) (hini : (Cond.initialized cls).before args s = true) (hstr : vk_R own is text sa s) (hat : ∀ w ∈ vx_atS own ic cls names, w.before args s = true)
    (hgood : ∀ w ∈ Cond.classLink own ik cls :: Cond.initialized cls :: vx_atS own ic cls names, vx_ot w = true)
    (hU : vx_Zq Bundle.tN "UNASSIGNED_STACK" Bundle.steD A s s.heap) (hN : vx_Zq Bundle.tN "SUPPRESSED_SENTINEL" Bundle.listD A s s.heap) (hS : va_S A s.heap H locs) (hsize : ls.size = c.maxLocals)
    (d0 : decode cc pc = .ok (.new ik, 3)) (d3 : decode cc (pc + 3) = .ok (.dup, 1)) (d4 : decode cc (pc + 4) = .ok (.ldc_w is, 3)) (d7 : decode cc (pc + 7) = .ok (.invokespecial ic, 3)) (d10 : decode cc (pc + 10) = .ok (.athrow, 1))
    (hout : ∀ x ∈ c.exceptionTable.toList, covers x (pc + 10) = false)
    (hRframes : names.length + 3 < R.frames) (hRlocals : (rest.map fun v => v.category).sum + (13 * (names.length + 1) + 43) ≤ R.locals) (hRcells : cells + 1 ≤ R.cells) (hRslots : slots + 6 ≤ R.slots) (hlocks : meth.locks = false)
    (hx : ∀ t : State, s.vm.Alike t.vm → H.size ≤ t.heap.size → (∀ q : Nat, q < H.size → t.heap[q]? = H[q]?) → XC cls s t)
    (hf : ∀ z ∈ locs, free z.base) (hc : cells + 1 ≤ mc) (hs : slots + 6 ≤ ms) :
    W p l e R s m args below meth c H locs cells slots (vx_MQ below Qc XC args s mc ms free) (F0 m pc ls rest) := by
  intro T hT X
  have htr : e.platform.stackTraces = false := (show e.platform.stackTraces = l.stackTraces by rw [X.admits.platform]).trans hl
  have Y := vx_rebase X (R' := { frames := R.frames, locals := R.locals, cells := 1, slots := 6 }) (Nat.le_refl _) (Nat.le_refl _) hRcells hRslots
  obtain ⟨s', hA⟩ : ∃ z, z = (T.setVm s.vm).setFrames (.invoking m args :: below) := ⟨_, rfl⟩
  rw [← hA] at Y
  have hvm : s'.vm = s.vm := by rw [hA]; rfl
  have hhp : s'.heap = H := by rw [hA]; exact hT
  have hW0 : s.WarmedH s'.vm := by rw [hvm]; exact State.WarmedH.refl s
  have hat' : ∀ w ∈ vx_atS own ic cls names, w.before args s' = true := fun w hw => vx_ot_at hW0 hvm.symm (hgood w (List.mem_cons_of_mem _ (List.mem_cons_of_mem _ hw))) (hat w hw)
  have hk' : (Cond.classLink own ik cls).before args s' = true := vx_ot_at hW0 hvm.symm (hgood _ List.mem_cons_self) hk
  have hini' : (Cond.initialized cls).before args s' = true := vx_ot_at hW0 hvm.symm (hgood _ (List.mem_cons_of_mem _ List.mem_cons_self)) hini
  have hU' : vx_Zq Bundle.tN "UNASSIGNED_STACK" Bundle.steD A s' s'.heap := by rw [hhp]; exact vx_Zq.moved hW0.alike (hU.kept hS.2.1)
  have hN' : vx_Zq Bundle.tN "SUPPRESSED_SENTINEL" Bundle.listD A s' s'.heap := by rw [hhp]; exact vx_Zq.moved hW0.alike (hN.kept hS.2.1)
  have h : ∀ w ∈ Bundle.ownAtoms own ic cls names, w.before args s' = true := vx_own hat' (vx_isRefq hU'.1) (vx_isRefq hN'.1) hU'.2.word hN'.2.word
  have hown' : s'.vm.findClass own = some m.cls := by rw [hvm]; exact hown
  have hins : (Cond.instantiable cls 6).before args s' = true := h _ (by simp [Bundle.ownAtoms])
  obtain ⟨vm₁, cX, kX, hfX, hkX, -, -, X₁, st1⟩ := Y.newCold hexec (own := own) (C := cls) (index := ik) (n := 6) hown' hk' hins hini'
    (g := F0 m pc ls rest) rfl (by rw [hb]; exact d0) (Nat.le_refl _) (Nat.le_refl _)
  generalize hT1 : (T.setVm vm₁).pushCell { cls := cX, slots := kX.instanceTypes.map defaultValue, vm := .none } = T1 at X₁ st1
  have hcat : (Value.ref T.heap.size).category = 1 := rfl
  have hcellA : T1.heap[T.heap.size]? = some (freshCell cX kX) := by rw [← hT1]; exact State.heap_pushCell_size _ _
  have d3' : decode c.code (pc + 3) = .ok (.dup, 1) := by rw [hb]; exact d3
  have d4' : decode c.code (pc + 4) = .ok (.ldc_w is, 3) := by rw [hb]; exact d4
  have hstr' : vk_R own is text sa s' := vk_R.warm hW0 hstr
  obtain ⟨U, hsteps, hrun, hend, hW, hsame, ce, hce, hO⟩ := X₁.ctorThrowS hexec htr (own := own) (cls := cls) (names := names) (ic := ic) hown' hcls hnames h (fun x hx => nomatch hx) hfX hkX hcellA (by rw [hhp, hT]; exact Nat.le_refl _) (msg := .ref sa) rfl
    (g := { method := m, pc := pc + 7, locals := ls, stack := .ref sa :: .ref T.heap.size :: .ref T.heap.size :: rest, locked := none }) rfl hsize rfl rfl (rest := rest) rfl
    (by rw [hb]; exact d7) (by rw [hb]; exact d10) hout hRframes (by simp only [List.map_cons, List.sum_cons, hcat]; omega) hlocks
  obtain ⟨f1, f2⟩ := vx_frame hsame
  rw [hhp] at f1 f2
  have hWs : s.WarmedH U.vm := State.WarmedH.trans hW0 hW
  have hcl : s.vm.findClass cls = some ce.cls := by
    have h9 := hO.cls
    rw [hvm] at h9
    exact h9
  have hall : s.sameButNew ({ U with vm := s.vm } : State) locs mc ms := by
    subst hA
    obtain ⟨e1, e2⟩ := hsame
    rw [State.setFrames_setFrames] at e1
    have h2 : (T.setVm s.vm).sameButNew ({ U with vm := s.vm } : State) [] (0 + 1) (0 + 6) := ⟨e1, e2⟩
    have h3 := X.same.trans h2
    rw [List.append_nil] at h3
    exact h3.mono hc hs
  refine ⟨U, ?_, .threw T.heap.size, hrun, hend, Or.inr ⟨T.heap.size, rfl, cls, ce, locs, hx U hWs.alike f1 (fun q hq => f2 q hq (fun z hz => nomatch hz)), hce, hO.vm, hcl, hWs, hall, hf⟩⟩
  refine st1 _ ?_
  show Steps p.tables e below (T1.setTop { method := m, pc := pc + 3, locals := ls, stack := .ref T.heap.size :: rest, locked := none }) _
  jvm_step X₁.here [X₁.here.top, hexec, d3', Value.category]
  exact X₁.ldcStringW hexec (own := own) (text := text) (index := is) (a := sa) hown' hstr'.1 hstr'.2
    (g := { method := m, pc := pc + 4, locals := ls, stack := .ref T.heap.size :: .ref T.heap.size :: rest, locked := none }) rfl d4' _ hsteps
end Ends
section Bodies
variable {l : Launch}
theorem vx_ofW {y : MethodName} {ws ws' : List Cond} {rm : Room} {Pc : Array Value → State → Prop} {Qc : Array Value → State → Outcome → State → Prop} {XC : String → State → State → Prop} {mc ms : Nat} {free : Addr → Prop} {cc : ByteArray} {maxL : Nat} {ret : Option FieldType}
    (hy : plainName y.cls = true) (hw : ws = Cond.code y cc maxL ret :: ws')
    (body : ∀ p e s m args below meth c s₁, BodyLoose p l y (headSpec ws rm) cc maxL ret e s m args below meth c s₁ → c.maxLocals = maxL → (∀ x ∈ c.exceptionTable.toList, False) → Pc args s →
      W p l e (headSpec ws rm).room s m args below meth c s.heap [] 0 0 (vx_MQ below Qc XC args s mc ms free) (entryFrame m args maxL)) : vx_Met l y ws rm Pc Qc XC mc ms free := by
  refine MetFree.of_bodyS (code := cc) (maxLocals := maxL) (ret := ret) hy ?_ ?_
  · intro args s m h hn
    obtain ⟨meth, c, h1, h2, h3, h4, h5, h6, -, -⟩ := Cond.code_spec hn (atoms_spec (ws := ws) h _ (by rw [hw]; exact List.mem_cons_self))
    exact ⟨meth, c, h1, h2, h3, h4, h5, h6⟩
  · intro p e s m args below meth c s₁ B hml hP _
    have hh0 : s₁.heap = s.heap := by rw [B.state]; rfl
    have ht : ∀ x ∈ c.exceptionTable.toList, False := by
      obtain ⟨meth9, c9, h1, h2, -, -, -, -, h7, -⟩ := Cond.code_spec B.named (atoms_spec (ws := ws) B.pre _ (by rw [hw]; exact List.mem_cons_self))
      cases Option.some.inj (h1.symm.trans B.method)
      cases Option.some.inj (h2.symm.trans (Stand.of_body B).code)
      intro x hx
      rw [Array.isEmpty_iff.mp h7] at hx
      cases hx
    obtain ⟨t, a1, o, b1, b2, b3⟩ := body p e s m args below meth c s₁ B hml ht hP s₁ hh0 (Stand.of_body B)
    exact ⟨t, o, a1, b1, b2, b3⟩
/-- the table of a body with handlers -/
theorem vx_table {p : Program} {x y : MethodName} {S : Spec} {cc bytes : ByteArray} {maxL maxL' : Nat} {ret ret' : Option FieldType} {e : Env} {s s₁ : State} {m : MethodId} {args : Array Value} {below : List Frame} {meth : Method} {c : Code} {hh : List (Nat × Nat × Nat × Nat)}
    (B : BodyLoose p l y S cc maxL ret e s m args below meth c s₁) (h : (Cond.codeWith y bytes maxL' ret' hh).before args s = true) : c.exceptionTable.toList = tableOf hh := by
  obtain ⟨m9, meth9, c9, hn9, h1, h2, -, -, h6, -⟩ := Cond.codeWith_spec h
  cases Option.some.inj (hn9.symm.trans B.named)
  cases Option.some.inj (h1.symm.trans B.method)
  cases Option.some.inj (h2.symm.trans (Stand.of_body B).code)
  rw [← h6, table_eq]
end Bodies
end VXA
/-! ===== END ===== -/
/-! ===== BEGIN a static call of a method with an exception table ===== -/
section VXS
variable {p : Program} {l : Launch} {e : Env} {R : Room} {s : State} {m : MethodId} {args : Array Value} {below : List Frame} {meth : Method} {c : Code} {T : State} {H : Heap} {locs : List Loc} {cells slots : Nat}
abbrev vx_CSW (R : Room) (s : State) (args : Array Value) (own : String) (index : Nat) (y : MethodName) (bytes : ByteArray) (maxL : Nat) (ret : Option FieldType) (hh : List (Nat × Nat × Nat × Nat)) (ws : List Cond) (rm : Room) (mc ms n : Nat) : Prop :=
  (rm.cells = mc ∧ rm.slots = ms ∧ rm.frames + 1 ≤ R.frames ∧ 8 + (maxL + 11) + rm.locals ≤ R.locals ∧ (∀ w ∈ ws, ∀ (a' : Array Value) (U : State), s.WarmedH U.vm → w.before a' U = true) ∧ Cond.codeWith y bytes maxL ret hh ∈ ws) ∧
  (Cond.codeWith y bytes maxL ret hh).before args s = true ∧ (Cond.initialized y.cls).before args s = true ∧ (y.cls ≠ "java/lang/invoke/MethodHandle" ∧ y.cls ≠ "java/lang/invoke/VarHandle") ∧
  (∀ sig, parseMethodDescriptor y.desc = some sig → n = sig.parameters.length) ∧ (Cond.methodLink own index y).before args s = true ∧ (Cond.static y).before args s = true
theorem vx_cwSW {own : String} {index maxL mc ms : Nat} {y : MethodName} {bytes : ByteArray} {ret : Option FieldType} {hh : List (Nat × Nat × Nat × Nat)} {Ts ws ws' : List Cond} {rm : Room} (n : Nat) (ht : ∀ w ∈ Ts, w.before args s = true) (hT : GoodIn Ts (va_wsS own index y ws)) (hw : ws = Cond.codeWith y bytes maxL ret hh :: ws') (hrc : rm.cells = mc) (hrs : rm.slots = ms)
    (hd : y.cls ≠ "java/lang/invoke/MethodHandle" ∧ y.cls ≠ "java/lang/invoke/VarHandle" ∧ (parseMethodDescriptor y.desc).map (fun d => d.parameters.length) = some n) (hR : rm.frames + 1 ≤ R.frames ∧ 8 + (maxL + 11) + rm.locals ≤ R.locals) :
    vx_CSW R s args own index y bytes maxL ret hh ws rm mc ms n := by
  have ok : ∀ w ∈ va_wsS own index y ws, w.before args s = true := fun w h => ht w (hT w h).1
  have hG : GoodIn Ts ws := fun w h => hT w (by unfold va_wsS; exact List.mem_append_right _ h)
  have hc : Cond.codeWith y bytes maxL ret hh ∈ ws := by rw [hw]; exact List.mem_cons_self
  refine ⟨⟨hrc, hrs, hR.1, hR.2, pay_in ht hG, hc⟩, ht _ (hG _ hc).1, ok _ (by simp [va_wsS]), ⟨hd.1, hd.2.1⟩, fun sig h => ?_, ok _ (by simp [va_wsS]), ok _ (by simp [va_wsS])⟩
  have h2 := hd.2.2
  rw [h] at h2
  exact (Option.some.inj h2).symm
theorem vx_callSW (X : Stand p l e R s m args below meth c T locs cells slots) (hexec : p.tables.exec = Jvm.exec) {own : String} {index : Nat} {y : MethodName} {bytes : ByteArray} {maxL : Nat} {ret : Option FieldType} {hh : List (Nat × Nat × Nat × Nat)}
    (hown : s.vm.findClass own = some m.cls) (hlink : (Cond.methodLink own index y).before args s = true) (hstat : (Cond.static y).before args s = true) (hinit : (Cond.initialized y.cls).before args s = true)
    (hcode : (Cond.codeWith y bytes maxL ret hh).before args s = true) (hy : y.cls ≠ "java/lang/invoke/MethodHandle" ∧ y.cls ≠ "java/lang/invoke/VarHandle")
    {W9 : Nat} {Pre : Pt → Array Value → Prop} {Post : Pt → Array Value → Option Value → Pt → Prop} (hK : Back l R p e below s args y 3 W9 Pre Post)
    {g : JFrame} (hg : g.method = m) (hsize : g.locals.size = c.maxLocals) {argsL rest : List Value} (hlen : ∀ sig, parseMethodDescriptor y.desc = some sig → argsL.length = sig.parameters.length)
    (hstack : g.stack = argsL.reverse ++ rest) (hW : 2 * g.monitorRoom + (rest.map fun v => v.category).sum ≤ W9) (hdg : decode c.code g.pc = .ok (.invokestatic index, 3))
    (hpre : ∀ vm₁, s.WarmedH vm₁ → Pre ⟨T.setVm vm₁, locs, cells, slots⟩ argsL.toArray) :
    ∃ (v : Option Value) (vm₁ : Vm) (B : Pt), s.WarmedH vm₁ ∧ Stand p l e R s m args below meth c B.U B.locs B.cells B.slots ∧ Post ⟨T.setVm vm₁, locs, cells, slots⟩ argsL.toArray v B ∧
      ∀ target, Steps p.tables e below (B.U.setTop { g with pc := g.pc + 3, stack := v.toList ++ rest }) target → Steps p.tables e below (T.setTop g) target := by
  obtain ⟨mk, methM, cM, hnamed, hmethM, -, -, -, -, -, -, hsigM⟩ := Cond.codeWith_spec hcode
  have hstatic : methM.isStatic = true := Cond.static_spec hnamed hmethM hstat
  obtain ⟨kP, hkP, -⟩ := className_of_methodNamed hnamed
  have hinitP : kP.init = .initialized := Cond.initialized_spec (findClass_of_methodNamed hnamed) hkP hinit
  obtain ⟨vm₁, X₁, hstep₁⟩ := X.invokestatic hexec hown hlink hnamed hmethM hstatic hkP hinitP hy (g := g) hg (argsL := argsL) (rest := rest) (hlen _ hsigM) hstack hdg
  obtain ⟨v, B, X', hpost, hsteps⟩ := hK m meth c ⟨T.setVm vm₁, locs, cells, slots⟩ { g with stack := rest } (.invokestatic index) mk argsL.toArray X₁ hg hsize hdg hW (X₁.named hnamed) (hpre vm₁ X₁.warmed)
  exact ⟨v, vm₁, B, X₁.warmed, X', hpost, fun target h => hstep₁ _ fun acts => by rw [doInvoke_state]; exact hsteps.trans h⟩
theorem vx_runSW {y : MethodName} {bytes cc : ByteArray} {maxL nL mc ms n index : Nat} {ret : Option FieldType} {hh : List (Nat × Nat × Nat × Nat)} {ws : List Cond} {rm : Room} {Pc : Array Value → State → Prop} {Qc : Array Value → State → Outcome → State → Prop} {free : Addr → Prop} {Ts : List Cond} {own : String} {As rest : List Value} {g : JFrame}
    (S : CallFix p m c cc nL s args Ts own) (hM : Met l y ws rm Pc Qc mc ms free) (cw : vx_CSW R s args own index y bytes maxL ret hh ws rm mc ms n) (hp : PreS s H Pc As)
    (hg : g.method = m) (hn : As.length = n) (hsize : g.locals.size = nL) (hstack : g.stack = As.reverse ++ rest) (hW : 2 * g.monitorRoom + (rest.map fun v => v.category).sum ≤ 8) (hdg : decode cc g.pc = .ok (.invokestatic index, 3)) (hf : cells + mc ≤ R.cells ∧ slots + ms ≤ R.slots) :
    va_Run p l e R s m args below meth c H locs cells slots mc ms g rest (Qc As.toArray) (free) := by
  obtain ⟨⟨hrc, hrs, hfr, hlo, hws, hcw⟩, hcode, hini, hy, hlen, hl, hstt⟩ := cw
  have hK : Back l R p e below s args y 3 8 (PreOf R mc ms Pc) (PostOf Qc mc ms free) := va_backW (hh := hh) (bytes := bytes) (maxL := maxL) (ret := ret) hM hp.1 hrc hrs hfr hlo hws hcw (fun a' U hW => word_at hW (Or.inl (by first | rfl | simp [Cond.onTables, Cond.keeps, Cond.steady])) hini)
  obtain ⟨hx, hb, hml, ho, -⟩ := S
  intro T hT X
  obtain ⟨v, vm₁, ⟨U', l2, c2, s2⟩, hW₁, X', ⟨g', mk, t, L, e1, e2, hq, h1, hL, h2, h3⟩, st⟩ := vx_callSW X hx (hh := hh) (bytes := bytes) (maxL := maxL) (ret := ret) ho hl hstt hini hcode hy hK hg (hsize.trans hml.symm) (argsL := As) (rest := rest) (fun sig h => hn.trans (hlen sig h)) hstack hW (by rw [hb]; exact hdg)
    (fun vm₁ hW₁ => ⟨hf.1, hf.2, hp.2 (T.setVm vm₁) hT hW₁⟩)
  dsimp only [Pt.U, Pt.locs, Pt.cells, Pt.slots] at X' e1 e2 h1 h2 h3 st
  subst h1; subst h2; subst h3
  exact ⟨v, (T.setVm vm₁).calling g' mk As.toArray, t, U', L, hT, X', hL, e1, e2, hq, st⟩
/-- not caught here, past rows that name other classes: it goes on to the caller -/
theorem vx_outP {p : Program} {l : Launch} {e : Env} {R : Room} {s : State} {m : MethodId} {args : Array Value} {below : List Frame} {meth : Method} {c : Code} {H : Heap} {locs : List Loc} {cells slots : Nat} {free : Addr → Prop} {ls : Array Slot} {rest : List Value} {Qc : Array Value → State → Outcome → State → Prop} {XC : String → State → State → Prop}
    {pc : Nat} {own E : String} {ce : Cell} {q : Addr} {mc ms : Nat} (hown : s.vm.findClass own = some m.cls) (hlocks : meth.locks = false)
    (hpass : ∀ z ∈ c.exceptionTable.toList, covers z pc = false ∨ (z.catchType ≠ 0 ∧ ∃ nm : String, (Cond.classLink own z.catchType nm).before args s = true ∧ va_Nc E nm s)) (hcell : H[q]? = some ce) (hv : ce.vm = .none) (hcl : s.vm.findClass E = some ce.cls)
    (hx : ∀ t : State, t.heap = H → s.vm.Alike t.vm → XC E s t) (hf : ∀ z ∈ locs, free z.base) (hc : cells ≤ mc) (hs : slots ≤ ms) :
    vx_W p l e R s m args below meth c H locs cells slots (vx_MQ below Qc XC args s mc ms free) (F0 m pc ls rest) q := by
  intro T hT X
  have hpl : e.platform.magicAccessors = ({} : Platform).magicAccessors := by rw [X.admits.platform]
  obtain ⟨vm', hW', X', st⟩ := X.outThrough hlocks q (g := F0 m pc ls rest) rfl rfl rfl (cell := ce) (by rw [hT]; exact hcell) (by rw [hv]; rfl)
    (by obtain ⟨k9, h9, -⟩ := Vm.findClass_spec hcl; exact ⟨k9, h9⟩) (fun z hz => by
      rcases hpass z hz with h | ⟨hz0, nm, hl1, hn1⟩
      · exact Or.inl h
      · obtain ⟨c6, hc6, hcl6⟩ := Cond.classLink_spec hown hl1 e.platform hpl
        obtain ⟨a8, b8, h1, h2, h3⟩ := hn1
        cases Option.some.inj (h1.symm.trans hcl)
        cases Option.some.inj (h2.symm.trans hc6)
        exact Or.inr ⟨hz0, _, hcl6, h3⟩)
  obtain ⟨g₀, hfr⟩ := X'.frames_eq
  have hcell9 : ((T.setVm vm').setFrames (.throwing q :: below)).heap[q]? = some ce := by
    show T.heap[q]? = some ce
    rw [hT]; exact hcell
  have hend : Ended ((T.setVm vm').setFrames (.throwing q :: below)) below (.threw q) := State.frames_setFrames _ (State.cur_lt_of_frames hfr)
  refine ⟨(T.setVm vm').setFrames (.throwing q :: below), ?_, .threw q, X'.here.running, hend, Or.inr ⟨q, rfl, E, ce, locs, hx _ hT (X'.ends _).1.alike, hcell9, hv, hcl, (X'.ends _).1, (X'.ends _).2.mono hc hs, hf⟩⟩
  rw [X.pushThrowing_eq]
  exact st
/-- a thing of a world lies in the heap -/
theorem vx_lt {D : va_G} {cl : List vw_C} {ws : va_W} {H1 : Heap} (h : va_P D cl ws H1) {k : Nat} {q : Nat × va_E} (hk : ws[k]? = some q) : q.1 < H1.size := (h k q hk).lt
end VXS
/-! ===== END ===== -/
/-! ===== BEGIN methods with a table of their own: called by a name, returning or throwing ===== -/
section VXH
/-! vx_backW, vx_callVX, vx_callSX, vx_callVW, vx_runVW, vx_runVX, vx_runSX, vx_ofWH follow the same proofs as their sisters above (Free/Laws.lean, Shelf42/LK1.lean); vx_outP calls Shelf42/NT130.lean (outThrough). -/
section
variable {l : Launch} {R : Room} {p : Program} {e : Env} {below : List Frame} {s : State} {sargs : Array Value} {y : MethodName} {len W9 : Nat}
theorem vx_backW {ws : List Cond} {rm : Room} {Pc : Array Value → State → Prop} {Qc : Array Value → State → Outcome → State → Prop} {XC : String → State → State → Prop} {mc ms : Nat} {free : Addr → Prop} {bytes : ByteArray} {maxL : Nat} {ret : Option FieldType} {hh : List (Nat × Nat × Nat × Nat)}
    (hM : vx_Met l y ws rm Pc Qc XC mc ms free) (hblind : FrameBlind Pc) (hrc : rm.cells = mc) (hrs : rm.slots = ms)
    (hframes : rm.frames + 1 ≤ R.frames) (hlocals : W9 + (maxL + 11) + rm.locals ≤ R.locals)
    (hws : ∀ w ∈ ws, ∀ a' U, s.WarmedH U.vm → w.before a' U = true) (hcode : Cond.codeWith y bytes maxL ret hh ∈ ws) (hinit : ∀ a' U, s.WarmedH U.vm → (Cond.initialized y.cls).before a' U = true) :
    vx_Back l R p e below s sargs y len W9 (PreOf R mc ms Pc) (PostOf Qc mc ms free) (vx_Post XC mc ms free) := by
  intro m meth c A g ig mk a X hg hsize hdg hW hn hp
  have h1 : (headSpec ws rm).pre.before a A.U = true := atoms_intro fun w hw => hws w hw _ _ X.warmed
  have h2 : (Cond.codeWith y bytes maxL ret hh).before a A.U = true := hws _ hcode _ _ X.warmed
  have h3 : (Cond.initialized y.cls).before a A.U = true := hinit _ _ X.warmed
  have h4 : A.cells + (headSpec ws rm).room.cells ≤ R.cells := by rw [show (headSpec ws rm).room.cells = mc from hrc]; exact hp.1
  have h5 : A.slots + (headSpec ws rm).room.slots ≤ R.slots := by rw [show (headSpec ws rm).room.slots = ms from hrs]; exact hp.2.1
  have hPc : Pc a (A.U.calling g mk a) := hblind _ _ _ _ hp.2.2
  obtain ⟨U, Ls, c0, s0⟩ := A
  dsimp only [Pt.U, Pt.locs, Pt.cells, Pt.slots] at h1 h2 h3 h4 h5 X hn hPc ⊢
  obtain ⟨m9, methY, cY, hn9, hmY, hcY, -, hlY, -⟩ := Cond.codeWith_spec h2
  cases Option.some.inj (hn9.symm.trans hn)
  obtain ⟨kY, hkY, -⟩ := className_of_methodNamed hn
  have hinitY : kY.init = .initialized := Cond.initialized_spec (findClass_of_methodNamed hn) hkY h3
  have h : At U g.method c below := by rw [hg]; exact X.here
  have hlocals9 : W9 + (maxL + 11) + (headSpec ws rm).room.locals ≤ R.locals := hlocals
  have happ : (headSpec ws rm).appliesLoose y e.platform (U.calling g mk a) = true :=
    Spec.appliesLoose_calling (g := g) h hdg hn hkY hinitY
      (X.room_calling (g := g) (R' := (headSpec ws rm).room) hsize hmY hcY hframes (by rw [hlY]; omega) h4 h5) h1
  obtain ⟨mid, hmid⟩ := h.above
  have hfr : (U.setTop g).frames = (.java g :: mid) ++ below := by rw [State.frames_setTop' g h.top, hmid]; rfl
  obtain ⟨o, s₂, hsteps, -, hend, hq⟩ := Steps.callFree hM p X.admits X.cas X.clock (acts := []) hfr happ hPc trivial
  have hq' : vx_Q Qc XC mc ms free a (U.calling g mk a) o s₂ := hq
  rw [State.frames_setTop' g h.top] at hend
  obtain ⟨g₀, hg0⟩ := Option.isSome_iff_exists.mp h.top
  obtain ⟨r, hr⟩ := State.topJava?_eq_some.mp hg0
  have hr' : (({ U with heap := s₂.heap, slotsUsed := s₂.slotsUsed } : State).setVm s₂.vm).frames = .java g₀ :: r := hr
  rcases hq' with ⟨hqc, L, hfe, hL⟩ | ⟨q, rfl, E, ce, L, hx, hce, hcv, hcl, hW₂, hsm, hL⟩
  · obtain ⟨⟨v, rfl⟩, hW₂, e2, q2, q3, q4, q5, q6⟩ := id hfe
    have e3 : s₂ = ({ (U.calling g mk a).setFrames s₂.frames with heap := s₂.heap, slotsUsed := s₂.slotsUsed } : State).setVm s₂.vm := by
      have : s₂ = ({ s₂ with vm := (U.calling g mk a).vm } : State).setVm s₂.vm := rfl
      rw [e2] at this
      exact this
    obtain ⟨c₂, i₂, len₂, hc₂, hd₂, hf₂⟩ := hend
    have hW' : U.WarmedH s₂.vm := hW₂
    have hcc : c₂ = c := by
      have h1 : s₂.code? g.method = U.code? g.method := by
        rw [State.code?_eq, State.code?_eq, hW'.alike.method?]
      exact Option.some.inj (hc₂.symm.trans (h1.trans h.code))
    subst hcc
    have hlen : len₂ = len := by rw [hdg] at hd₂; cases hd₂; rfl
    subst hlen
    have hs₂ : s₂ = (({ U with heap := s₂.heap, slotsUsed := s₂.slotsUsed } : State).setVm s₂.vm).setTop { g with pc := g.pc + len₂, stack := v.toList ++ g.stack } := by
      refine e3.trans ?_
      rw [hf₂, State.calling_eq h.top, State.setFrames_setFrames, State.setTop_of_frames _ hr', hr]
      rfl
    have hsame : U.sameButNew ({ U with heap := s₂.heap, slotsUsed := s₂.slotsUsed } : State) L mc ms := by
      refine ⟨?_, q2, q3, q4, q5, q6⟩
      obtain ⟨t, ht, -⟩ := State.frames_cons hr
      show ({ U with heap := s₂.heap, slotsUsed := s₂.slotsUsed } : State) = { U.setFrames U.frames with heap := s₂.heap, slotsUsed := s₂.slotsUsed }
      rw [State.setFrames_self ht]
    subst hg
    refine Or.inl ⟨v, ⟨(({ U with heap := s₂.heap, slotsUsed := s₂.slotsUsed } : State).setVm s₂.vm), Ls ++ L, c0 + mc, s0 + ms⟩,
      ⟨X.admits, X.cas, X.clock, X.frames, X.room, X.hears, X.method, X.code, (X.here.setHeapUsed s₂.heap s₂.slotsUsed).setVm hW'.alike, X.tail, State.WarmedH.trans X.warmed hW', X.limits, X.bytes, X.same.trans (hsame.setVm s.vm)⟩,
      ⟨g, mk, s₂, L, rfl, rfl, hqc, rfl, hL, rfl, rfl⟩, ?_⟩
    show Steps p.tables e below _ ((({ U with heap := s₂.heap, slotsUsed := s₂.slotsUsed } : State).setVm s₂.vm).setTop { g with pc := g.pc + len₂, stack := v.toList ++ g.stack })
    rw [← hs₂]
    exact hsteps
  · obtain ⟨e2, q2, q3, q4, q5, q6⟩ := id hsm
    have e3 : s₂ = ({ (U.calling g mk a).setFrames s₂.frames with heap := s₂.heap, slotsUsed := s₂.slotsUsed } : State).setVm s₂.vm := by
      have : s₂ = ({ s₂ with vm := (U.calling g mk a).vm } : State).setVm s₂.vm := rfl
      rw [e2] at this
      exact this
    have hf₂ : s₂.frames = .throwing q :: .java g :: U.frames.tail := hend
    have hW' : U.WarmedH s₂.vm := hW₂
    have hs₂ : s₂ = ((({ U with heap := s₂.heap, slotsUsed := s₂.slotsUsed } : State).setVm s₂.vm).setTop g).pushFrame (.throwing q) := by
      refine e3.trans ?_
      rw [hf₂, State.calling_eq h.top, State.setFrames_setFrames, State.pushFrame, State.frames_setTop _ hr', State.setTop_of_frames _ hr', State.setFrames_setFrames, hr]
      rfl
    have hsame : U.sameButNew ({ U with heap := s₂.heap, slotsUsed := s₂.slotsUsed } : State) L mc ms := by
      refine ⟨?_, q2, q3, q4, q5, q6⟩
      obtain ⟨t, ht, -⟩ := State.frames_cons hr
      show ({ U with heap := s₂.heap, slotsUsed := s₂.slotsUsed } : State) = { U.setFrames U.frames with heap := s₂.heap, slotsUsed := s₂.slotsUsed }
      rw [State.setFrames_self ht]
    subst hg
    refine Or.inr ⟨q, ⟨(({ U with heap := s₂.heap, slotsUsed := s₂.slotsUsed } : State).setVm s₂.vm), Ls ++ L, c0 + mc, s0 + ms⟩,
      ⟨X.admits, X.cas, X.clock, X.frames, X.room, X.hears, X.method, X.code, (X.here.setHeapUsed s₂.heap s₂.slotsUsed).setVm hW'.alike, X.tail, State.WarmedH.trans X.warmed hW', X.limits, X.bytes, X.same.trans (hsame.setVm s.vm)⟩,
      ⟨g, mk, s₂, L, E, ce, rfl, rfl, hx, hce, hcv, hcl, rfl, hL, rfl, rfl⟩, ?_⟩
    show Steps p.tables e below _ (((({ U with heap := s₂.heap, slotsUsed := s₂.slotsUsed } : State).setVm s₂.vm).setTop g).pushFrame (.throwing q))
    rw [← hs₂]
    exact hsteps
end
variable {p : Program} {l : Launch} {e : Env} {R : Room} {s : State} {m : MethodId} {args : Array Value} {below : List Frame} {meth : Method} {c : Code} {T : State} {H : Heap} {locs : List Loc} {cells slots : Nat}
theorem vx_callVX (X : Stand p l e R s m args below meth c T locs cells slots) (hexec : p.tables.exec = Jvm.exec) {own C : String} {index : Nat} {y : MethodName} {bytes : ByteArray} {maxL : Nat} {ret : Option FieldType} {hh : List (Nat × Nat × Nat × Nat)}
    (hown : s.vm.findClass own = some m.cls) (hlink : (Cond.methodLink own index y).before args s = true) (hinst : (Cond.instanceMethod y).before args s = true) (hsel : (Cond.selects C y y).before args s = true)
    (hcode : (Cond.codeWith y bytes maxL ret hh).before args s = true) (hy : y.cls ≠ "java/lang/invoke/MethodHandle" ∧ y.cls ≠ "java/lang/invoke/VarHandle")
    {W9 : Nat} {Pre : Pt → Array Value → Prop} {Post : Pt → Array Value → Option Value → Pt → Prop} {PostX : Pt → Array Value → Addr → Pt → Prop} (hK : vx_Back l R p e below s args y 3 W9 Pre Post PostX)
    {b : Addr} {cellB : Cell} (hcell : T.heap[b]? = some cellB) (hobj : cellB.vm.isStatics = false) (hcls : s.vm.findClass C = some cellB.cls)
    {g : JFrame} (hg : g.method = m) (hsize : g.locals.size = c.maxLocals) {argsL rest : List Value} (hlen : ∀ sig, parseMethodDescriptor y.desc = some sig → argsL.length = sig.parameters.length)
    (hstack : g.stack = argsL.reverse ++ .ref b :: rest) (hW : 2 * g.monitorRoom + (rest.map fun v => v.category).sum ≤ W9) (hdg : decode c.code g.pc = .ok (.invokevirtual index, 3))
    (hpre : ∀ vm₁, s.WarmedH vm₁ → Pre ⟨T.setVm vm₁, locs, cells, slots⟩ (Value.ref b :: argsL).toArray) :
    (∃ (v : Option Value) (vm₁ : Vm) (B : Pt), s.WarmedH vm₁ ∧ Stand p l e R s m args below meth c B.U B.locs B.cells B.slots ∧ Post ⟨T.setVm vm₁, locs, cells, slots⟩ (Value.ref b :: argsL).toArray v B ∧
      ∀ target, Steps p.tables e below (B.U.setTop { g with pc := g.pc + 3, stack := v.toList ++ rest }) target → Steps p.tables e below (T.setTop g) target) ∨
    (∃ (q : Addr) (vm₁ : Vm) (B : Pt), s.WarmedH vm₁ ∧ Stand p l e R s m args below meth c B.U B.locs B.cells B.slots ∧ PostX ⟨T.setVm vm₁, locs, cells, slots⟩ (Value.ref b :: argsL).toArray q B ∧
      Steps p.tables e below (T.setTop g) ((B.U.setTop { g with stack := rest }).pushFrame (.throwing q))) := by
  obtain ⟨mk, methM, hnamed, hmethM, hstM, habM⟩ := Cond.instanceMethod_spec hinst
  obtain ⟨m8, methM', cM, hn8, hmethM', -, -, -, -, -, -, hsigM⟩ := Cond.codeWith_spec hcode
  cases Option.some.inj (hn8.symm.trans hnamed)
  cases hmethM.symm.trans hmethM'
  obtain ⟨c2, r2, m2, q1, q2, q3, q4, kP, hkP, hkPi⟩ := Cond.selects_spec hsel
  cases hcls.symm.trans q1
  cases (State.methodFound?_of_named hnamed hy).symm.trans q2
  cases hnamed.symm.trans q3
  have hselP : selectMethod e.platform s.vm cellB.cls mk = .method mk := by rw [Launch.admits_selectMethod X.admits]; exact q4
  obtain ⟨vm₁, X₁, hstep₁⟩ := X.invokevirtual hexec hown hlink hnamed hmethM hstM hkP hkPi hy (a := b) (cell := cellB) hcell
    (fun z h => by rw [h] at hobj; cases hobj) hselP hmethM habM hkP hkPi (g := g) hg (argsL := argsL) (rest := rest) (hlen _ hsigM) hstack hdg
  rcases hK m meth c ⟨T.setVm vm₁, locs, cells, slots⟩ { g with stack := rest } (.invokevirtual index) mk (Value.ref b :: argsL).toArray X₁ hg hsize hdg hW (X₁.named hnamed) (hpre vm₁ X₁.warmed) with ⟨v, B, X', hpost, hsteps⟩ | ⟨q, B, X', hpost, hsteps⟩
  · exact Or.inl ⟨v, vm₁, B, X₁.warmed, X', hpost, fun target h => hstep₁ _ fun acts => by rw [doInvoke_state]; exact hsteps.trans h⟩
  · exact Or.inr ⟨q, vm₁, B, X₁.warmed, X', hpost, hstep₁ _ fun acts => by rw [doInvoke_state]; exact hsteps⟩
theorem vx_callSX (X : Stand p l e R s m args below meth c T locs cells slots) (hexec : p.tables.exec = Jvm.exec) {own : String} {index : Nat} {y : MethodName} {bytes : ByteArray} {maxL : Nat} {ret : Option FieldType} {hh : List (Nat × Nat × Nat × Nat)}
    (hown : s.vm.findClass own = some m.cls) (hlink : (Cond.methodLink own index y).before args s = true) (hstat : (Cond.static y).before args s = true) (hinit : (Cond.initialized y.cls).before args s = true)
    (hcode : (Cond.codeWith y bytes maxL ret hh).before args s = true) (hy : y.cls ≠ "java/lang/invoke/MethodHandle" ∧ y.cls ≠ "java/lang/invoke/VarHandle")
    {W9 : Nat} {Pre : Pt → Array Value → Prop} {Post : Pt → Array Value → Option Value → Pt → Prop} {PostX : Pt → Array Value → Addr → Pt → Prop} (hK : vx_Back l R p e below s args y 3 W9 Pre Post PostX)
    {g : JFrame} (hg : g.method = m) (hsize : g.locals.size = c.maxLocals) {argsL rest : List Value} (hlen : ∀ sig, parseMethodDescriptor y.desc = some sig → argsL.length = sig.parameters.length)
    (hstack : g.stack = argsL.reverse ++ rest) (hW : 2 * g.monitorRoom + (rest.map fun v => v.category).sum ≤ W9) (hdg : decode c.code g.pc = .ok (.invokestatic index, 3))
    (hpre : ∀ vm₁, s.WarmedH vm₁ → Pre ⟨T.setVm vm₁, locs, cells, slots⟩ argsL.toArray) :
    (∃ (v : Option Value) (vm₁ : Vm) (B : Pt), s.WarmedH vm₁ ∧ Stand p l e R s m args below meth c B.U B.locs B.cells B.slots ∧ Post ⟨T.setVm vm₁, locs, cells, slots⟩ argsL.toArray v B ∧
      ∀ target, Steps p.tables e below (B.U.setTop { g with pc := g.pc + 3, stack := v.toList ++ rest }) target → Steps p.tables e below (T.setTop g) target) ∨
    (∃ (q : Addr) (vm₁ : Vm) (B : Pt), s.WarmedH vm₁ ∧ Stand p l e R s m args below meth c B.U B.locs B.cells B.slots ∧ PostX ⟨T.setVm vm₁, locs, cells, slots⟩ argsL.toArray q B ∧
      Steps p.tables e below (T.setTop g) ((B.U.setTop { g with stack := rest }).pushFrame (.throwing q))) := by
  obtain ⟨mk, methM, cM, hnamed, hmethM, -, -, -, -, -, -, hsigM⟩ := Cond.codeWith_spec hcode
  have hstatic : methM.isStatic = true := Cond.static_spec hnamed hmethM hstat
  obtain ⟨kP, hkP, -⟩ := className_of_methodNamed hnamed
  have hinitP : kP.init = .initialized := Cond.initialized_spec (findClass_of_methodNamed hnamed) hkP hinit
  obtain ⟨vm₁, X₁, hstep₁⟩ := X.invokestatic hexec hown hlink hnamed hmethM hstatic hkP hinitP hy (g := g) hg (argsL := argsL) (rest := rest) (hlen _ hsigM) hstack hdg
  rcases hK m meth c ⟨T.setVm vm₁, locs, cells, slots⟩ { g with stack := rest } (.invokestatic index) mk argsL.toArray X₁ hg hsize hdg hW (X₁.named hnamed) (hpre vm₁ X₁.warmed) with ⟨v, B, X', hpost, hsteps⟩ | ⟨q, B, X', hpost, hsteps⟩
  · exact Or.inl ⟨v, vm₁, B, X₁.warmed, X', hpost, fun target h => hstep₁ _ fun acts => by rw [doInvoke_state]; exact hsteps.trans h⟩
  · exact Or.inr ⟨q, vm₁, B, X₁.warmed, X', hpost, hstep₁ _ fun acts => by rw [doInvoke_state]; exact hsteps⟩
theorem vx_callVW (X : Stand p l e R s m args below meth c T locs cells slots) (hexec : p.tables.exec = Jvm.exec) {own C : String} {index : Nat} {y : MethodName} {bytes : ByteArray} {maxL : Nat} {ret : Option FieldType} {hh : List (Nat × Nat × Nat × Nat)}
    (hown : s.vm.findClass own = some m.cls) (hlink : (Cond.methodLink own index y).before args s = true) (hinst : (Cond.instanceMethod y).before args s = true) (hsel : (Cond.selects C y y).before args s = true)
    (hcode : (Cond.codeWith y bytes maxL ret hh).before args s = true) (hy : y.cls ≠ "java/lang/invoke/MethodHandle" ∧ y.cls ≠ "java/lang/invoke/VarHandle")
    {W9 : Nat} {Pre : Pt → Array Value → Prop} {Post : Pt → Array Value → Option Value → Pt → Prop} (hK : Back l R p e below s args y 3 W9 Pre Post)
    {b : Addr} {cellB : Cell} (hcell : T.heap[b]? = some cellB) (hobj : cellB.vm.isStatics = false) (hcls : s.vm.findClass C = some cellB.cls)
    {g : JFrame} (hg : g.method = m) (hsize : g.locals.size = c.maxLocals) {argsL rest : List Value} (hlen : ∀ sig, parseMethodDescriptor y.desc = some sig → argsL.length = sig.parameters.length)
    (hstack : g.stack = argsL.reverse ++ .ref b :: rest) (hW : 2 * g.monitorRoom + (rest.map fun v => v.category).sum ≤ W9) (hdg : decode c.code g.pc = .ok (.invokevirtual index, 3))
    (hpre : ∀ vm₁, s.WarmedH vm₁ → Pre ⟨T.setVm vm₁, locs, cells, slots⟩ (Value.ref b :: argsL).toArray) :
    ∃ (v : Option Value) (vm₁ : Vm) (B : Pt), s.WarmedH vm₁ ∧ Stand p l e R s m args below meth c B.U B.locs B.cells B.slots ∧ Post ⟨T.setVm vm₁, locs, cells, slots⟩ (Value.ref b :: argsL).toArray v B ∧
      ∀ target, Steps p.tables e below (B.U.setTop { g with pc := g.pc + 3, stack := v.toList ++ rest }) target → Steps p.tables e below (T.setTop g) target := by
  obtain ⟨mk, methM, hnamed, hmethM, hstM, habM⟩ := Cond.instanceMethod_spec hinst
  obtain ⟨m8, methM', cM, hn8, hmethM', -, -, -, -, -, -, hsigM⟩ := Cond.codeWith_spec hcode
  cases Option.some.inj (hn8.symm.trans hnamed)
  cases hmethM.symm.trans hmethM'
  obtain ⟨c2, r2, m2, q1, q2, q3, q4, kP, hkP, hkPi⟩ := Cond.selects_spec hsel
  cases hcls.symm.trans q1
  cases (State.methodFound?_of_named hnamed hy).symm.trans q2
  cases hnamed.symm.trans q3
  have hselP : selectMethod e.platform s.vm cellB.cls mk = .method mk := by rw [Launch.admits_selectMethod X.admits]; exact q4
  obtain ⟨vm₁, X₁, hstep₁⟩ := X.invokevirtual hexec hown hlink hnamed hmethM hstM hkP hkPi hy (a := b) (cell := cellB) hcell
    (fun z h => by rw [h] at hobj; cases hobj) hselP hmethM habM hkP hkPi (g := g) hg (argsL := argsL) (rest := rest) (hlen _ hsigM) hstack hdg
  obtain ⟨v, B, X', hpost, hsteps⟩ := hK m meth c ⟨T.setVm vm₁, locs, cells, slots⟩ { g with stack := rest } (.invokevirtual index) mk (Value.ref b :: argsL).toArray X₁ hg hsize hdg hW (X₁.named hnamed) (hpre vm₁ X₁.warmed)
  exact ⟨v, vm₁, B, X₁.warmed, X', hpost, fun target h => hstep₁ _ fun acts => by rw [doInvoke_state]; exact hsteps.trans h⟩
abbrev vx_CVW (R : Room) (s : State) (args : Array Value) (own C : String) (index : Nat) (y : MethodName) (bytes : ByteArray) (maxL : Nat) (ret : Option FieldType) (hh : List (Nat × Nat × Nat × Nat)) (ws : List Cond) (rm : Room) (mc ms n : Nat) : Prop :=
  (rm.cells = mc ∧ rm.slots = ms ∧ rm.frames + 1 ≤ R.frames ∧ 8 + (maxL + 11) + rm.locals ≤ R.locals ∧ (∀ w ∈ ws, ∀ (a' : Array Value) (U : State), s.WarmedH U.vm → w.before a' U = true) ∧ Cond.codeWith y bytes maxL ret hh ∈ ws) ∧
  (Cond.codeWith y bytes maxL ret hh).before args s = true ∧ (Cond.initialized y.cls).before args s = true ∧ (y.cls ≠ "java/lang/invoke/MethodHandle" ∧ y.cls ≠ "java/lang/invoke/VarHandle") ∧
  (∀ sig, parseMethodDescriptor y.desc = some sig → n = sig.parameters.length) ∧ (Cond.methodLink own index y).before args s = true ∧ (Cond.instanceMethod y).before args s = true ∧ (Cond.selects C y y).before args s = true
theorem vx_cwVW {own C : String} {index maxL mc ms : Nat} {y : MethodName} {bytes : ByteArray} {ret : Option FieldType} {hh : List (Nat × Nat × Nat × Nat)} {Ts ws ws' : List Cond} {rm : Room} (n : Nat) (ht : ∀ w ∈ Ts, w.before args s = true) (hT : GoodIn Ts (wsV own index C y ws)) (hw : ws = Cond.codeWith y bytes maxL ret hh :: ws') (hrc : rm.cells = mc) (hrs : rm.slots = ms)
    (hd : y.cls = C ∧ y.cls ≠ "java/lang/invoke/MethodHandle" ∧ y.cls ≠ "java/lang/invoke/VarHandle" ∧ (parseMethodDescriptor y.desc).map (fun d => d.parameters.length) = some n) (hR : rm.frames + 1 ≤ R.frames ∧ 8 + (maxL + 11) + rm.locals ≤ R.locals) :
    vx_CVW R s args own C index y bytes maxL ret hh ws rm mc ms n := by
  obtain ⟨hC, hd⟩ := hd
  subst hC
  have ok : ∀ w ∈ wsV own index y.cls y ws, w.before args s = true := fun w h => ht w (hT w h).1
  have hG : GoodIn Ts ws := fun w h => hT w (by unfold wsV; exact List.mem_append_right _ h)
  have hc : Cond.codeWith y bytes maxL ret hh ∈ ws := by rw [hw]; exact List.mem_cons_self
  refine ⟨⟨hrc, hrs, hR.1, hR.2, pay_in ht hG, hc⟩, ht _ (hG _ hc).1, ok _ (by simp [wsV]), ⟨hd.1, hd.2.1⟩, fun sig h => ?_, ok _ (by simp [wsV]), ok _ (by simp [wsV]), ok _ (by simp [wsV])⟩
  have h2 := hd.2.2
  rw [h] at h2
  exact (Option.some.inj h2).symm
theorem vx_runVW {y : MethodName} {bytes cc : ByteArray} {maxL nL mc ms n index : Nat} {ret : Option FieldType} {hh : List (Nat × Nat × Nat × Nat)} {ws : List Cond} {rm : Room} {Pc : Array Value → State → Prop} {Qc : Array Value → State → Outcome → State → Prop} {free : Addr → Prop} {Ts : List Cond} {own C : String} {b : Addr} {As rest : List Value} {g : JFrame}
    (S : CallFix p m c cc nL s args Ts own) (hM : Met l y ws rm Pc Qc mc ms free) (cw : vx_CVW R s args own C index y bytes maxL ret hh ws rm mc ms n) (hp : PreV s H C b Pc As)
    (hg : g.method = m) (hn : As.length = n) (hsize : g.locals.size = nL) (hstack : g.stack = As.reverse ++ .ref b :: rest) (hW : 2 * g.monitorRoom + (rest.map fun v => v.category).sum ≤ 8) (hdg : decode cc g.pc = .ok (.invokevirtual index, 3)) (hf : cells + mc ≤ R.cells ∧ slots + ms ≤ R.slots) :
    va_Run p l e R s m args below meth c H locs cells slots mc ms g rest (Qc (Value.ref b :: As).toArray) free := by
  obtain ⟨⟨hrc, hrs, hfr, hlo, hws, hcw⟩, hcode, hini, hy, hlen, hl, hin, hse⟩ := cw
  have hK : Back l R p e below s args y 3 8 (PreOf R mc ms Pc) (PostOf Qc mc ms free) := va_backW (hh := hh) (bytes := bytes) (maxL := maxL) (ret := ret) hM hp.1 hrc hrs hfr hlo hws hcw (fun a' U hW => word_at hW (Or.inl (by first | rfl | simp [Cond.onTables, Cond.keeps, Cond.steady])) hini)
  obtain ⟨hx, hb, hml, ho, -⟩ := S
  obtain ⟨-, ⟨cellB, hcB, hoB, hclB⟩, hPc⟩ := hp
  intro T hT X
  obtain ⟨v, vm₁, ⟨U', l2, c2, s2⟩, hW₁, X', ⟨g', mk, t, L, e1, e2, hq, h1, hL, h2, h3⟩, st⟩ := vx_callVW X hx (C := C) (hh := hh) (bytes := bytes) (maxL := maxL) (ret := ret) ho hl hin hse hcode hy hK (by rw [hT]; exact hcB) hoB hclB hg (hsize.trans hml.symm) (argsL := As) (rest := rest) (fun sig h => hn.trans (hlen sig h)) hstack hW (by rw [hb]; exact hdg)
    (fun vm₁ hW₁ => ⟨hf.1, hf.2, hPc (T.setVm vm₁) hT hW₁⟩)
  dsimp only [Pt.U, Pt.locs, Pt.cells, Pt.slots] at X' e1 e2 h1 h2 h3 st
  subst h1; subst h2; subst h3
  exact ⟨v, (T.setVm vm₁).calling g' mk (Value.ref b :: As).toArray, t, U', L, hT, X', hL, e1, e2, hq, st⟩
section
variable {y : MethodName} {bytes cc : ByteArray} {maxL nL mc ms n index : Nat} {ret : Option FieldType} {ws : List Cond} {rm : Room} {Pc : Array Value → State → Prop} {Qc : Array Value → State → Outcome → State → Prop} {XC : String → State → State → Prop} {free : Addr → Prop} {Ts : List Cond} {own C : String} {b : Addr} {As rest : List Value} {g : JFrame}
theorem vx_runVX {hh : List (Nat × Nat × Nat × Nat)} (S : CallFix p m c cc nL s args Ts own) (hM : vx_Met l y ws rm Pc Qc XC mc ms free) (cw : vx_CVW R s args own C index y bytes maxL ret hh ws rm mc ms n) (hp : PreV s H C b Pc As)
    (hg : g.method = m) (hn : As.length = n) (hsize : g.locals.size = nL) (hstack : g.stack = As.reverse ++ .ref b :: rest) (hW : 2 * g.monitorRoom + (rest.map fun v => v.category).sum ≤ 8) (hdg : decode cc g.pc = .ok (.invokevirtual index, 3)) (hf : cells + mc ≤ R.cells ∧ slots + ms ≤ R.slots) :
    vx_Run p l e R s m args below meth c H locs cells slots mc ms g rest (Qc (Value.ref b :: As).toArray) XC free := by
  obtain ⟨⟨hrc, hrs, hfr, hlo, hws, hcw⟩, hcode, hini, hy, hlen, hl, hin, hse⟩ := cw
  have hK : vx_Back l R p e below s args y 3 8 (PreOf R mc ms Pc) (PostOf Qc mc ms free) (vx_Post XC mc ms free) := vx_backW (hh := hh) (bytes := bytes) (maxL := maxL) (ret := ret) hM hp.1 hrc hrs hfr hlo hws hcw (fun a' U hW => word_at hW (Or.inl (by first | rfl | simp [Cond.onTables, Cond.keeps, Cond.steady])) hini)
  obtain ⟨hx, hb, hml, ho, -⟩ := S
  obtain ⟨-, ⟨cellB, hcB, hoB, hclB⟩, hPc⟩ := hp
  intro T hT X
  rcases vx_callVX X hx (C := C) (hh := hh) (bytes := bytes) (maxL := maxL) (ret := ret) ho hl hin hse hcode hy hK (by rw [hT]; exact hcB) hoB hclB hg (hsize.trans hml.symm) (argsL := As) (rest := rest) (fun sig h => hn.trans (hlen sig h)) hstack hW (by rw [hb]; exact hdg)
    (fun vm₁ hW₁ => ⟨hf.1, hf.2, hPc (T.setVm vm₁) hT hW₁⟩) with ⟨v, vm₁, ⟨U', l2, c2, s2⟩, hW₁, X', ⟨g', mk, t, L, e1, e2, hq, h1, hL, h2, h3⟩, st⟩ | ⟨q, vm₁, ⟨U', l2, c2, s2⟩, hW₁, X', ⟨g', mk, t, L, E, ce, e1, e2, hq, hce, hcv, hcl, h1, hL, h2, h3⟩, st⟩
  · dsimp only [Pt.U, Pt.locs, Pt.cells, Pt.slots] at X' e1 e2 h1 h2 h3 st
    subst h1; subst h2; subst h3
    exact Or.inl ⟨v, (T.setVm vm₁).calling g' mk (Value.ref b :: As).toArray, t, U', L, hT, X', hL, e1, e2, hq, st⟩
  · dsimp only [Pt.U, Pt.locs, Pt.cells, Pt.slots] at X' e1 e2 h1 h2 h3 st hcl
    subst h1; subst h2; subst h3
    exact Or.inr ⟨q, (T.setVm vm₁).calling g' mk (Value.ref b :: As).toArray, t, U', L, E, ce, hT, X', hL, e1, e2, hq, hce, hcv, vx_cls hW₁ hcl, st⟩
theorem vx_runSX {hh : List (Nat × Nat × Nat × Nat)} (S : CallFix p m c cc nL s args Ts own) (hM : vx_Met l y ws rm Pc Qc XC mc ms free) (cw : vx_CSW R s args own index y bytes maxL ret hh ws rm mc ms n) (hp : PreS s H Pc As)
    (hg : g.method = m) (hn : As.length = n) (hsize : g.locals.size = nL) (hstack : g.stack = As.reverse ++ rest) (hW : 2 * g.monitorRoom + (rest.map fun v => v.category).sum ≤ 8) (hdg : decode cc g.pc = .ok (.invokestatic index, 3)) (hf : cells + mc ≤ R.cells ∧ slots + ms ≤ R.slots) :
    vx_Run p l e R s m args below meth c H locs cells slots mc ms g rest (Qc As.toArray) XC free := by
  obtain ⟨⟨hrc, hrs, hfr, hlo, hws, hcw⟩, hcode, hini, hy, hlen, hl, hstt⟩ := cw
  have hK : vx_Back l R p e below s args y 3 8 (PreOf R mc ms Pc) (PostOf Qc mc ms free) (vx_Post XC mc ms free) := vx_backW (hh := hh) (bytes := bytes) (maxL := maxL) (ret := ret) hM hp.1 hrc hrs hfr hlo hws hcw (fun a' U hW => word_at hW (Or.inl (by first | rfl | simp [Cond.onTables, Cond.keeps, Cond.steady])) hini)
  obtain ⟨hx, hb, hml, ho, -⟩ := S
  intro T hT X
  rcases vx_callSX X hx (hh := hh) (bytes := bytes) (maxL := maxL) (ret := ret) ho hl hstt hini hcode hy hK hg (hsize.trans hml.symm) (argsL := As) (rest := rest) (fun sig h => hn.trans (hlen sig h)) hstack hW (by rw [hb]; exact hdg)
    (fun vm₁ hW₁ => ⟨hf.1, hf.2, hp.2 (T.setVm vm₁) hT hW₁⟩) with ⟨v, vm₁, ⟨U', l2, c2, s2⟩, hW₁, X', ⟨g', mk, t, L, e1, e2, hq, h1, hL, h2, h3⟩, st⟩ | ⟨q, vm₁, ⟨U', l2, c2, s2⟩, hW₁, X', ⟨g', mk, t, L, E, ce, e1, e2, hq, hce, hcv, hcl, h1, hL, h2, h3⟩, st⟩
  · dsimp only [Pt.U, Pt.locs, Pt.cells, Pt.slots] at X' e1 e2 h1 h2 h3 st
    subst h1; subst h2; subst h3
    exact Or.inl ⟨v, (T.setVm vm₁).calling g' mk As.toArray, t, U', L, hT, X', hL, e1, e2, hq, st⟩
  · dsimp only [Pt.U, Pt.locs, Pt.cells, Pt.slots] at X' e1 e2 h1 h2 h3 st hcl
    subst h1; subst h2; subst h3
    exact Or.inr ⟨q, (T.setVm vm₁).calling g' mk As.toArray, t, U', L, E, ce, hT, X', hL, e1, e2, hq, hce, hcv, vx_cls hW₁ hcl, st⟩
end
end VXH
theorem vx_ofWH {l : Launch} {y : MethodName} {ws ws' : List Cond} {rm : Room} {Pc : Array Value → State → Prop} {Qc : Array Value → State → Outcome → State → Prop} {XC : String → State → State → Prop} {mc ms : Nat} {free : Addr → Prop} {cc : ByteArray} {maxL : Nat} {ret : Option FieldType} {hh : List (Nat × Nat × Nat × Nat)}
    (hy : plainName y.cls = true) (hw : ws = Cond.codeWith y cc maxL ret hh :: ws')
    (body : ∀ p e s m args below meth c s₁, BodyLoose p l y (headSpec ws rm) cc maxL ret e s m args below meth c s₁ → c.maxLocals = maxL → Pc args s →
      W p l e (headSpec ws rm).room s m args below meth c s.heap [] 0 0 (vx_MQ below Qc XC args s mc ms free) (entryFrame m args maxL)) : vx_Met l y ws rm Pc Qc XC mc ms free := by
  refine MetFree.of_bodyS (code := cc) (maxLocals := maxL) (ret := ret) hy ?_ ?_
  · intro args s m h hn
    obtain ⟨m9, meth, c, hn9, h1, h2, h3, h4, -, h5, h6, -⟩ := Cond.codeWith_spec (atoms_spec (ws := ws) h _ (by rw [hw]; exact List.mem_cons_self))
    cases hn.symm.trans hn9
    exact ⟨meth, c, h1, h2, h3, h4, h5, h6⟩
  · intro p e s m args below meth c s₁ B hml hP _
    have hh0 : s₁.heap = s.heap := by rw [B.state]; rfl
    obtain ⟨t, a1, o, b1, b2, b3⟩ := body p e s m args below meth c s₁ B hml hP s₁ hh0 (Stand.of_body B)
    exact ⟨t, o, a1, b1, b2, b3⟩
/-! ===== END ===== -/
end
section
/-! ===== BEGIN printed: names, fields, word lists, decode rows ===== -/
def RX0 : String := "MonotonePostings$Cache"
def TX0 : u_T := fun k => match k with
  | 0 => ("MonotonePostings$Cache", "keys", "[I", true)
  | 1 => ("MonotonePostings$Cache", "count", "I", false)
  | _ => ("MonotonePostings$Cache", "capacity", "I", false)
def tyX0 : Nat → FieldType := fun k => match k with
  | 0 => .array .int
  | 1 => .int
  | _ => .int
abbrev wsX00 : List Cond := u_ws RX0 TX0 3
theorem nmX0 : ∀ a, a < 3 → ∀ b, b < 3 → a ≠ b → (TX0 a).2.1 ≠ (TX0 b).2.1 := by decide +kernel
theorem tyX0_ok : ∀ k, k < 3 → parseFieldDescriptor (TX0 k).2.2.1 = some (tyX0 k) := by decide +kernel
abbrev cX0_init : ByteArray := prog_2_method_1_code
def yX0_init : MethodName := ⟨RX0, "<init>", "()V"⟩
abbrev cX0_copyFrom : ByteArray := prog_2_method_2_code
def yX0_copyFrom : MethodName := ⟨RX0, "copyFrom", "(LMonotonePostings$Cache;)V"⟩
abbrev cX0_use : ByteArray := prog_2_method_3_code
def yX0_use : MethodName := ⟨RX0, "use", "(I)Z"⟩
abbrev cX0_dropList : ByteArray := prog_2_method_4_code
def yX0_dropList : MethodName := ⟨RX0, "dropList", "(I)V"⟩
abbrev cX0_resize : ByteArray := prog_2_method_5_code
def yX0_resize : MethodName := ⟨RX0, "resize", "(I)V"⟩
abbrev cX0_dropBetween : ByteArray := prog_2_method_6_code
def yX0_dropBetween : MethodName := ⟨RX0, "dropBetween", "(II)I"⟩
abbrev cX0_shrinkTo : ByteArray := prog_2_method_7_code
def yX0_shrinkTo : MethodName := ⟨RX0, "shrinkTo", "(I)V"⟩
def RX1 : String := "MonotonePostings$CodeRow"
def TX1 : u_T := fun k => match k with
  | 0 => ("MonotonePostings$CodeRow", "bits", "[I", true)
  | _ => ("MonotonePostings$CodeRow", "length", "I", false)
def tyX1 : Nat → FieldType := fun k => match k with
  | 0 => .array .int
  | _ => .int
abbrev wsX10 : List Cond := u_ws RX1 TX1 2
theorem nmX1 : ∀ a, a < 2 → ∀ b, b < 2 → a ≠ b → (TX1 a).2.1 ≠ (TX1 b).2.1 := by decide +kernel
theorem tyX1_ok : ∀ k, k < 2 → parseFieldDescriptor (TX1 k).2.2.1 = some (tyX1 k) := by decide +kernel
abbrev cX1_init : ByteArray := prog_3_method_1_code
def yX1_init : MethodName := ⟨RX1, "<init>", "()V"⟩
abbrev cX1_bitAt : ByteArray := prog_3_method_2_code
def yX1_bitAt : MethodName := ⟨RX1, "bitAt", "(I)I"⟩
abbrev cX1_write : ByteArray := prog_3_method_3_code
def yX1_write : MethodName := ⟨RX1, "write", "(LMonotonePostings$Postings;)V"⟩
abbrev cX1_put : ByteArray := prog_3_method_4_code
def yX1_put : MethodName := ⟨RX1, "put", "(II)V"⟩
abbrev cX1_setBit : ByteArray := prog_3_method_5_code
def yX1_setBit : MethodName := ⟨RX1, "setBit", "(I)V"⟩
abbrev cX1_putHeader : ByteArray := prog_3_method_6_code
def yX1_putHeader : MethodName := ⟨RX1, "putHeader", "(LMonotonePostings$Postings;I)V"⟩
abbrev cX1_putBitmap : ByteArray := prog_3_method_7_code
def yX1_putBitmap : MethodName := ⟨RX1, "putBitmap", "(LMonotonePostings$Postings;II)V"⟩
abbrev cX1_putHighParts : ByteArray := prog_3_method_8_code
def yX1_putHighParts : MethodName := ⟨RX1, "putHighParts", "(LMonotonePostings$Postings;II)V"⟩
abbrev cX1_putLowParts : ByteArray := prog_3_method_9_code
def yX1_putLowParts : MethodName := ⟨RX1, "putLowParts", "(LMonotonePostings$Postings;II)V"⟩
def RX2 : String := "MonotonePostings$History"
def TX2 : u_T := fun k => match k with
  | 0 => ("MonotonePostings$History", "states", "[LMonotonePostings$State;", true)
  | 1 => ("MonotonePostings$History", "next", "I", false)
  | _ => ("MonotonePostings$History", "count", "I", false)
def tyX2 : Nat → FieldType := fun k => match k with
  | 0 => .array (.object "MonotonePostings$State")
  | 1 => .int
  | _ => .int
abbrev wsX20 : List Cond := u_ws RX2 TX2 3
theorem nmX2 : ∀ a, a < 3 → ∀ b, b < 3 → a ≠ b → (TX2 a).2.1 ≠ (TX2 b).2.1 := by decide +kernel
theorem tyX2_ok : ∀ k, k < 3 → parseFieldDescriptor (TX2 k).2.2.1 = some (tyX2 k) := by decide +kernel
abbrev cX2_init : ByteArray := prog_4_method_1_code
def yX2_init : MethodName := ⟨RX2, "<init>", "()V"⟩
abbrev cX2_save : ByteArray := prog_4_method_2_code
def yX2_save : MethodName := ⟨RX2, "save", "(LMonotonePostings$State;)V"⟩
abbrev cX2_restore : ByteArray := prog_4_method_3_code
def yX2_restore : MethodName := ⟨RX2, "restore", "(LMonotonePostings$State;)V"⟩
def RX3 : String := "MonotonePostings$Partitioner"
def TX3 : u_T := fun k => match k with
  | 0 => ("MonotonePostings$Partitioner", "weights", "[I", true)
  | _ => ("MonotonePostings$Partitioner", "ends", "[I", true)
def tyX3 : Nat → FieldType := fun k => match k with
  | 0 => .array .int
  | _ => .array .int
abbrev wsX30 : List Cond := u_ws RX3 TX3 2
theorem nmX3 : ∀ a, a < 2 → ∀ b, b < 2 → a ≠ b → (TX3 a).2.1 ≠ (TX3 b).2.1 := by decide +kernel
theorem tyX3_ok : ∀ k, k < 2 → parseFieldDescriptor (TX3 k).2.2.1 = some (tyX3 k) := by decide +kernel
abbrev cX3_init : ByteArray := prog_5_method_1_code
def yX3_init : MethodName := ⟨RX3, "<init>", "()V"⟩
abbrev cX3_divide : ByteArray := prog_5_method_2_code
def yX3_divide : MethodName := ⟨RX3, "divide", "(LMonotonePostings$Postings;)V"⟩
abbrev cX3_chooseEnd : ByteArray := prog_5_method_3_code
def yX3_chooseEnd : MethodName := ⟨RX3, "chooseEnd", "(LMonotonePostings$Postings;I)V"⟩
def RX4 : String := "MonotonePostings$Postings"
def TX4 : u_T := fun k => match k with
  | 0 => ("MonotonePostings$Postings", "documents", "[I", true)
  | 1 => ("MonotonePostings$Postings", "count", "I", false)
  | 2 => ("MonotonePostings$Postings", "facts", "[I", true)
  | _ => ("MonotonePostings$Postings", "parts", "I", false)
def tyX4 : Nat → FieldType := fun k => match k with
  | 0 => .array .int
  | 1 => .int
  | 2 => .array .int
  | _ => .int
abbrev wsX40 : List Cond := u_ws RX4 TX4 4
theorem nmX4 : ∀ a, a < 4 → ∀ b, b < 4 → a ≠ b → (TX4 a).2.1 ≠ (TX4 b).2.1 := by decide +kernel
theorem tyX4_ok : ∀ k, k < 4 → parseFieldDescriptor (TX4 k).2.2.1 = some (tyX4 k) := by decide +kernel
abbrev cX4_init : ByteArray := prog_6_method_1_code
def yX4_init : MethodName := ⟨RX4, "<init>", "()V"⟩
abbrev cX4_copyFrom : ByteArray := prog_6_method_2_code
def yX4_copyFrom : MethodName := ⟨RX4, "copyFrom", "(LMonotonePostings$Postings;)V"⟩
abbrev cX4_replace : ByteArray := prog_6_method_3_code
def yX4_replace : MethodName := ⟨RX4, "replace", "([II)V"⟩
abbrev cX4_push : ByteArray := prog_6_method_4_code
def yX4_push : MethodName := ⟨RX4, "push", "(I)V"⟩
abbrev cX4_documentAt : ByteArray := prog_6_method_5_code
def yX4_documentAt : MethodName := ⟨RX4, "documentAt", "(I)I"⟩
abbrev cX4_lastDocument : ByteArray := prog_6_method_6_code
def yX4_lastDocument : MethodName := ⟨RX4, "lastDocument", "()I"⟩
abbrev cX4_countBelow : ByteArray := prog_6_method_7_code
def yX4_countBelow : MethodName := ⟨RX4, "countBelow", "(I)I"⟩
abbrev cX4_widthBetween : ByteArray := prog_6_method_8_code
def yX4_widthBetween : MethodName := ⟨RX4, "widthBetween", "(II)I"⟩
abbrev cX4_sizeInParts : ByteArray := prog_6_method_9_code
def yX4_sizeInParts : MethodName := ⟨RX4, "sizeInParts", "(I)I"⟩
abbrev cX4_codeSize : ByteArray := prog_6_method_10_code
def yX4_codeSize : MethodName := ⟨RX4, "codeSize", "()I"⟩
abbrev cX4_factOf : ByteArray := prog_6_method_11_code
def yX4_factOf : MethodName := ⟨RX4, "factOf", "(II)I"⟩
abbrev cX4_widthOf : ByteArray := prog_6_method_12_code
def yX4_widthOf : MethodName := ⟨RX4, "widthOf", "(I)I"⟩
abbrev cX4_addPart : ByteArray := prog_6_method_13_code
def yX4_addPart : MethodName := ⟨RX4, "addPart", "(II)V"⟩
abbrev cX4_readsInside : ByteArray := prog_6_method_14_code
def yX4_readsInside : MethodName := ⟨RX4, "readsInside", "(III)I"⟩
def RX5 : String := "MonotonePostings$Shape"
def TX5 : u_T := fun k => match k with
  | _ => ("", "", "", false)
def tyX5 : Nat → FieldType := fun k => match k with
  | _ => .int
abbrev wsX50 : List Cond := u_ws RX5 TX5 0
theorem nmX5 : ∀ a, a < 0 → ∀ b, b < 0 → a ≠ b → (TX5 a).2.1 ≠ (TX5 b).2.1 := by decide +kernel
theorem tyX5_ok : ∀ k, k < 0 → parseFieldDescriptor (TX5 k).2.2.1 = some (tyX5 k) := by decide +kernel
abbrev cX5_lowBits : ByteArray := prog_7_method_2_code
def yX5_lowBits : MethodName := ⟨RX5, "lowBits", "(II)I"⟩
abbrev cX5_highLength : ByteArray := prog_7_method_3_code
def yX5_highLength : MethodName := ⟨RX5, "highLength", "(III)I"⟩
abbrev cX5_bestSize : ByteArray := prog_7_method_4_code
def yX5_bestSize : MethodName := ⟨RX5, "bestSize", "(II)I"⟩
abbrev cX5_bestKind : ByteArray := prog_7_method_5_code
def yX5_bestKind : MethodName := ⟨RX5, "bestKind", "(III)I"⟩
def RX6 : String := "MonotonePostings$State"
def TX6 : u_T := fun k => match k with
  | 0 => ("MonotonePostings$State", "lists", "[LMonotonePostings$Postings;", true)
  | 1 => ("MonotonePostings$State", "cache", "LMonotonePostings$Cache;", true)
  | 2 => ("MonotonePostings$State", "reads", "I", false)
  | _ => ("MonotonePostings$State", "hits", "I", false)
def tyX6 : Nat → FieldType := fun k => match k with
  | 0 => .array (.object "MonotonePostings$Postings")
  | 1 => .object "MonotonePostings$Cache"
  | 2 => .int
  | _ => .int
abbrev wsX60 : List Cond := u_ws RX6 TX6 4
theorem nmX6 : ∀ a, a < 4 → ∀ b, b < 4 → a ≠ b → (TX6 a).2.1 ≠ (TX6 b).2.1 := by decide +kernel
theorem tyX6_ok : ∀ k, k < 4 → parseFieldDescriptor (TX6 k).2.2.1 = some (tyX6 k) := by decide +kernel
abbrev cX6_init : ByteArray := prog_8_method_1_code
def yX6_init : MethodName := ⟨RX6, "<init>", "()V"⟩
abbrev cX6_copyFrom : ByteArray := prog_8_method_2_code
def yX6_copyFrom : MethodName := ⟨RX6, "copyFrom", "(LMonotonePostings$State;)V"⟩
abbrev cX6_query : ByteArray := prog_8_method_3_code
def yX6_query : MethodName := ⟨RX6, "query", "(II)I"⟩
abbrev cX6_queryInside : ByteArray := prog_8_method_4_code
def yX6_queryInside : MethodName := ⟨RX6, "queryInside", "(III)I"⟩
def RX7 : String := "MonotonePostings"
def TX7 : u_T := fun k => match k with
  | 0 => ("MonotonePostings", "now", "LMonotonePostings$State;", true)
  | 1 => ("MonotonePostings", "history", "LMonotonePostings$History;", true)
  | 2 => ("MonotonePostings", "partitioner", "LMonotonePostings$Partitioner;", true)
  | 3 => ("MonotonePostings", "code", "LMonotonePostings$CodeRow;", true)
  | 4 => ("MonotonePostings", "order", "[I", true)
  | _ => ("MonotonePostings", "result", "[I", true)
def tyX7 : Nat → FieldType := fun k => match k with
  | 0 => .object "MonotonePostings$State"
  | 1 => .object "MonotonePostings$History"
  | 2 => .object "MonotonePostings$Partitioner"
  | 3 => .object "MonotonePostings$CodeRow"
  | 4 => .array .int
  | _ => .array .int
abbrev wsX70 : List Cond := u_ws RX7 TX7 6
theorem nmX7 : ∀ a, a < 6 → ∀ b, b < 6 → a ≠ b → (TX7 a).2.1 ≠ (TX7 b).2.1 := by decide +kernel
theorem tyX7_ok : ∀ k, k < 6 → parseFieldDescriptor (TX7 k).2.2.1 = some (tyX7 k) := by decide +kernel
abbrev cX7_init : ByteArray := prog_1_method_1_code
def yX7_init : MethodName := ⟨RX7, "<init>", "()V"⟩
abbrev cX7_append : ByteArray := prog_1_method_2_code
def yX7_append : MethodName := ⟨RX7, "append", "(II)I"⟩
abbrev cX7_appendRange : ByteArray := prog_1_method_3_code
def yX7_appendRange : MethodName := ⟨RX7, "appendRange", "(IIII)I"⟩
abbrev cX7_clear : ByteArray := prog_1_method_4_code
def yX7_clear : MethodName := ⟨RX7, "clear", "(I)I"⟩
abbrev cX7_size : ByteArray := prog_1_method_5_code
def yX7_size : MethodName := ⟨RX7, "size", "(I)I"⟩
abbrev cX7_document : ByteArray := prog_1_method_6_code
def yX7_document : MethodName := ⟨RX7, "document", "(II)I"⟩
abbrev cX7_rank : ByteArray := prog_1_method_7_code
def yX7_rank : MethodName := ⟨RX7, "rank", "(II)I"⟩
abbrev cX7_partitions : ByteArray := prog_1_method_8_code
def yX7_partitions : MethodName := ⟨RX7, "partitions", "(I)I"⟩
abbrev cX7_partition : ByteArray := prog_1_method_9_code
def yX7_partition : MethodName := ⟨RX7, "partition", "(III)I"⟩
abbrev cX7_codeLength : ByteArray := prog_1_method_10_code
def yX7_codeLength : MethodName := ⟨RX7, "codeLength", "(I)I"⟩
abbrev cX7_codeBit : ByteArray := prog_1_method_11_code
def yX7_codeBit : MethodName := ⟨RX7, "codeBit", "(II)I"⟩
abbrev cX7_fixedLength : ByteArray := prog_1_method_12_code
def yX7_fixedLength : MethodName := ⟨RX7, "fixedLength", "(II)I"⟩
abbrev cX7_bitsPerDocument : ByteArray := prog_1_method_13_code
def yX7_bitsPerDocument : MethodName := ⟨RX7, "bitsPerDocument", "(I)D"⟩
abbrev cX7_nextAtLeast : ByteArray := prog_1_method_14_code
def yX7_nextAtLeast : MethodName := ⟨RX7, "nextAtLeast", "(II)I"⟩
abbrev cX7_countIntersection : ByteArray := prog_1_method_15_code
def yX7_countIntersection : MethodName := ⟨RX7, "countIntersection", "(I)I"⟩
abbrev cX7_intersect : ByteArray := prog_1_method_16_code
def yX7_intersect : MethodName := ⟨RX7, "intersect", "(II)I"⟩
abbrev cX7_unite : ByteArray := prog_1_method_17_code
def yX7_unite : MethodName := ⟨RX7, "unite", "(III)I"⟩
abbrev cX7_subtract : ByteArray := prog_1_method_18_code
def yX7_subtract : MethodName := ⟨RX7, "subtract", "(III)I"⟩
abbrev cX7_reads : ByteArray := prog_1_method_19_code
def yX7_reads : MethodName := ⟨RX7, "reads", "()I"⟩
abbrev cX7_hits : ByteArray := prog_1_method_20_code
def yX7_hits : MethodName := ⟨RX7, "hits", "()I"⟩
abbrev cX7_setCapacity : ByteArray := prog_1_method_21_code
def yX7_setCapacity : MethodName := ⟨RX7, "setCapacity", "(I)I"⟩
abbrev cX7_cached : ByteArray := prog_1_method_22_code
def yX7_cached : MethodName := ⟨RX7, "cached", "()I"⟩
abbrev cX7_cachedAt : ByteArray := prog_1_method_23_code
def yX7_cachedAt : MethodName := ⟨RX7, "cachedAt", "(I)I"⟩
abbrev cX7_undo : ByteArray := prog_1_method_24_code
def yX7_undo : MethodName := ⟨RX7, "undo", "()I"⟩
abbrev cX7_digest : ByteArray := prog_1_method_25_code
def yX7_digest : MethodName := ⟨RX7, "digest", "()J"⟩
abbrev cX7_requireList : ByteArray := prog_1_method_26_code
def yX7_requireList : MethodName := ⟨RX7, "requireList", "(I)V"⟩
abbrev cX7_requireIndex : ByteArray := prog_1_method_27_code
def yX7_requireIndex : MethodName := ⟨RX7, "requireIndex", "(II)V"⟩
abbrev cX7_requireBetween : ByteArray := prog_1_method_28_code
def yX7_requireBetween : MethodName := ⟨RX7, "requireBetween", "(III)V"⟩
abbrev cX7_requireRange : ByteArray := prog_1_method_29_code
def yX7_requireRange : MethodName := ⟨RX7, "requireRange", "(III)V"⟩
abbrev cX7_requireSet : ByteArray := prog_1_method_30_code
def yX7_requireSet : MethodName := ⟨RX7, "requireSet", "(I)V"⟩
abbrev cX7_listAt : ByteArray := prog_1_method_31_code
def yX7_listAt : MethodName := ⟨RX7, "listAt", "(I)LMonotonePostings$Postings;"⟩
abbrev cX7_recode : ByteArray := prog_1_method_32_code
def yX7_recode : MethodName := ⟨RX7, "recode", "(I)V"⟩
abbrev cX7_writeResult : ByteArray := prog_1_method_33_code
def yX7_writeResult : MethodName := ⟨RX7, "writeResult", "(II)I"⟩
abbrev cX7_mergeIntoResult : ByteArray := prog_1_method_34_code
def yX7_mergeIntoResult : MethodName := ⟨RX7, "mergeIntoResult", "(LMonotonePostings$Postings;LMonotonePostings$Postings;)I"⟩
abbrev cX7_differenceIntoResult : ByteArray := prog_1_method_35_code
def yX7_differenceIntoResult : MethodName := ⟨RX7, "differenceIntoResult", "(LMonotonePostings$Postings;LMonotonePostings$Postings;)I"⟩
abbrev cX7_findIntersection : ByteArray := prog_1_method_36_code
def yX7_findIntersection : MethodName := ⟨RX7, "findIntersection", "(I)I"⟩
abbrev cX7_askOthers : ByteArray := prog_1_method_37_code
def yX7_askOthers : MethodName := ⟨RX7, "askOthers", "(II)I"⟩
abbrev cX7_orderLists : ByteArray := prog_1_method_38_code
def yX7_orderLists : MethodName := ⟨RX7, "orderLists", "(I)I"⟩
abbrev cX7_mix : ByteArray := prog_1_method_39_code
def yX7_mix : MethodName := ⟨RX7, "mix", "(JI)J"⟩
abbrev cX7_mixRow : ByteArray := prog_1_method_40_code
def yX7_mixRow : MethodName := ⟨RX7, "mixRow", "(J[II)J"⟩
abbrev cX7_mixList : ByteArray := prog_1_method_41_code
def yX7_mixList : MethodName := ⟨RX7, "mixList", "(JLMonotonePostings$Postings;)J"⟩
def RX8 : String := "MonotonePostingsModel"
def TX8 : u_T := fun k => match k with
  | 0 => ("MonotonePostingsModel", "thrown", "I", false)
  | 1 => ("MonotonePostingsModel", "w", "[I", true)
  | 2 => ("MonotonePostingsModel", "past", "[I", true)
  | 3 => ("MonotonePostingsModel", "saved", "I", false)
  | 4 => ("MonotonePostingsModel", "begins", "[I", true)
  | 5 => ("MonotonePostingsModel", "many", "[I", true)
  | 6 => ("MonotonePostingsModel", "laid", "[Z", true)
  | 7 => ("MonotonePostingsModel", "cost", "[I", true)
  | 8 => ("MonotonePostingsModel", "count", "[I", true)
  | 9 => ("MonotonePostingsModel", "next", "[I", true)
  | 10 => ("MonotonePostingsModel", "found", "[I", true)
  | _ => ("MonotonePostingsModel", "order", "[I", true)
def tyX8 : Nat → FieldType := fun k => match k with
  | 0 => .int
  | 1 => .array .int
  | 2 => .array .int
  | 3 => .int
  | 4 => .array .int
  | 5 => .array .int
  | 6 => .array .boolean
  | 7 => .array .int
  | 8 => .array .int
  | 9 => .array .int
  | 10 => .array .int
  | _ => .array .int
abbrev wsX80 : List Cond := u_ws RX8 TX8 12
theorem nmX8 : ∀ a, a < 12 → ∀ b, b < 12 → a ≠ b → (TX8 a).2.1 ≠ (TX8 b).2.1 := by decide +kernel
theorem tyX8_ok : ∀ k, k < 12 → parseFieldDescriptor (TX8 k).2.2.1 = some (tyX8 k) := by decide +kernel
abbrev cX8_init : ByteArray := prog_10_method_1_code
def yX8_init : MethodName := ⟨RX8, "<init>", "()V"⟩
abbrev cX8_thrown : ByteArray := prog_10_method_2_code
def yX8_thrown : MethodName := ⟨RX8, "thrown", "()I"⟩
abbrev cX8_in : ByteArray := prog_10_method_3_code
def yX8_in : MethodName := ⟨RX8, "in", "(III)Z"⟩
abbrev cX8_fails : ByteArray := prog_10_method_4_code
def yX8_fails : MethodName := ⟨RX8, "fails", "(I)I"⟩
abbrev cX8_isList : ByteArray := prog_10_method_5_code
def yX8_isList : MethodName := ⟨RX8, "isList", "(I)Z"⟩
abbrev cX8_doc : ByteArray := prog_10_method_6_code
def yX8_doc : MethodName := ⟨RX8, "doc", "(II)I"⟩
abbrev cX8_save : ByteArray := prog_10_method_7_code
def yX8_save : MethodName := ⟨RX8, "save", "()V"⟩
abbrev cX8_drop : ByteArray := prog_10_method_8_code
def yX8_drop : MethodName := ⟨RX8, "drop", "(I)V"⟩
abbrev cX8_changes : ByteArray := prog_10_method_9_code
def yX8_changes : MethodName := ⟨RX8, "changes", "(I)V"⟩
abbrev cX8_add : ByteArray := prog_10_method_10_code
def yX8_add : MethodName := ⟨RX8, "add", "(II)V"⟩
abbrev cX8_isBehind : ByteArray := prog_10_method_11_code
def yX8_isBehind : MethodName := ⟨RX8, "isBehind", "(II)Z"⟩
abbrev cX8_append : ByteArray := prog_10_method_12_code
def yX8_append : MethodName := ⟨RX8, "append", "(II)I"⟩
abbrev cX8_appendRange : ByteArray := prog_10_method_13_code
def yX8_appendRange : MethodName := ⟨RX8, "appendRange", "(IIII)I"⟩
abbrev cX8_clear : ByteArray := prog_10_method_14_code
def yX8_clear : MethodName := ⟨RX8, "clear", "(I)I"⟩
abbrev cX8_size : ByteArray := prog_10_method_15_code
def yX8_size : MethodName := ⟨RX8, "size", "(I)I"⟩
abbrev cX8_document : ByteArray := prog_10_method_16_code
def yX8_document : MethodName := ⟨RX8, "document", "(II)I"⟩
abbrev cX8_rank : ByteArray := prog_10_method_17_code
def yX8_rank : MethodName := ⟨RX8, "rank", "(II)I"⟩
abbrev cX8_lowBits : ByteArray := prog_10_method_18_code
def yX8_lowBits : MethodName := ⟨RX8, "lowBits", "(II)I"⟩
abbrev cX8_sparse : ByteArray := prog_10_method_19_code
def yX8_sparse : MethodName := ⟨RX8, "sparse", "(II)I"⟩
abbrev cX8_kindOf : ByteArray := prog_10_method_20_code
def yX8_kindOf : MethodName := ⟨RX8, "kindOf", "(II)I"⟩
abbrev cX8_sizeOf : ByteArray := prog_10_method_21_code
def yX8_sizeOf : MethodName := ⟨RX8, "sizeOf", "(III)I"⟩
abbrev cX8_lay : ByteArray := prog_10_method_22_code
def yX8_lay : MethodName := ⟨RX8, "lay", "(I)V"⟩
abbrev cX8_beginOf : ByteArray := prog_10_method_23_code
def yX8_beginOf : MethodName := ⟨RX8, "beginOf", "(II)I"⟩
abbrev cX8_documentsIn : ByteArray := prog_10_method_24_code
def yX8_documentsIn : MethodName := ⟨RX8, "documentsIn", "(II)I"⟩
abbrev cX8_firstIn : ByteArray := prog_10_method_25_code
def yX8_firstIn : MethodName := ⟨RX8, "firstIn", "(II)I"⟩
abbrev cX8_lastIn : ByteArray := prog_10_method_26_code
def yX8_lastIn : MethodName := ⟨RX8, "lastIn", "(II)I"⟩
abbrev cX8_widthOf : ByteArray := prog_10_method_27_code
def yX8_widthOf : MethodName := ⟨RX8, "widthOf", "(II)I"⟩
abbrev cX8_kindIn : ByteArray := prog_10_method_28_code
def yX8_kindIn : MethodName := ⟨RX8, "kindIn", "(II)I"⟩
abbrev cX8_lowIn : ByteArray := prog_10_method_29_code
def yX8_lowIn : MethodName := ⟨RX8, "lowIn", "(II)I"⟩
abbrev cX8_partitions : ByteArray := prog_10_method_30_code
def yX8_partitions : MethodName := ⟨RX8, "partitions", "(I)I"⟩
abbrev cX8_property : ByteArray := prog_10_method_31_code
def yX8_property : MethodName := ⟨RX8, "property", "(III)I"⟩
abbrev cX8_partition : ByteArray := prog_10_method_32_code
def yX8_partition : MethodName := ⟨RX8, "partition", "(III)I"⟩
abbrev cX8_bitsOf : ByteArray := prog_10_method_33_code
def yX8_bitsOf : MethodName := ⟨RX8, "bitsOf", "(I)I"⟩
abbrev cX8_codeLength : ByteArray := prog_10_method_34_code
def yX8_codeLength : MethodName := ⟨RX8, "codeLength", "(I)I"⟩
abbrev cX8_headerBit : ByteArray := prog_10_method_35_code
def yX8_headerBit : MethodName := ⟨RX8, "headerBit", "(III)I"⟩
abbrev cX8_bodyBit : ByteArray := prog_10_method_36_code
def yX8_bodyBit : MethodName := ⟨RX8, "bodyBit", "(III)I"⟩
abbrev cX8_bitOf : ByteArray := prog_10_method_37_code
def yX8_bitOf : MethodName := ⟨RX8, "bitOf", "(II)I"⟩
abbrev cX8_codeBit : ByteArray := prog_10_method_38_code
def yX8_codeBit : MethodName := ⟨RX8, "codeBit", "(II)I"⟩
abbrev cX8_fixedLength : ByteArray := prog_10_method_39_code
def yX8_fixedLength : MethodName := ⟨RX8, "fixedLength", "(II)I"⟩
abbrev cX8_bitsPerDocument : ByteArray := prog_10_method_40_code
def yX8_bitsPerDocument : MethodName := ⟨RX8, "bitsPerDocument", "(I)D"⟩
abbrev cX8_readsFor : ByteArray := prog_10_method_41_code
def yX8_readsFor : MethodName := ⟨RX8, "readsFor", "(IIII)I"⟩
abbrev cX8_opens : ByteArray := prog_10_method_42_code
def yX8_opens : MethodName := ⟨RX8, "opens", "(III)I"⟩
abbrev cX8_asks : ByteArray := prog_10_method_43_code
def yX8_asks : MethodName := ⟨RX8, "asks", "(II)I"⟩
abbrev cX8_nextAtLeast : ByteArray := prog_10_method_44_code
def yX8_nextAtLeast : MethodName := ⟨RX8, "nextAtLeast", "(II)I"⟩
abbrev cX8_meets : ByteArray := prog_10_method_45_code
def yX8_meets : MethodName := ⟨RX8, "meets", "(I)I"⟩
abbrev cX8_isSet : ByteArray := prog_10_method_46_code
def yX8_isSet : MethodName := ⟨RX8, "isSet", "(I)Z"⟩
abbrev cX8_countIntersection : ByteArray := prog_10_method_47_code
def yX8_countIntersection : MethodName := ⟨RX8, "countIntersection", "(I)I"⟩
abbrev cX8_writes : ByteArray := prog_10_method_48_code
def yX8_writes : MethodName := ⟨RX8, "writes", "(II)I"⟩
abbrev cX8_intersect : ByteArray := prog_10_method_49_code
def yX8_intersect : MethodName := ⟨RX8, "intersect", "(II)I"⟩
abbrev cX8_has : ByteArray := prog_10_method_50_code
def yX8_has : MethodName := ⟨RX8, "has", "(II)Z"⟩
abbrev cX8_unite : ByteArray := prog_10_method_51_code
def yX8_unite : MethodName := ⟨RX8, "unite", "(III)I"⟩
abbrev cX8_subtract : ByteArray := prog_10_method_52_code
def yX8_subtract : MethodName := ⟨RX8, "subtract", "(III)I"⟩
abbrev cX8_reads : ByteArray := prog_10_method_53_code
def yX8_reads : MethodName := ⟨RX8, "reads", "()I"⟩
abbrev cX8_hits : ByteArray := prog_10_method_54_code
def yX8_hits : MethodName := ⟨RX8, "hits", "()I"⟩
abbrev cX8_setCapacity : ByteArray := prog_10_method_55_code
def yX8_setCapacity : MethodName := ⟨RX8, "setCapacity", "(I)I"⟩
abbrev cX8_cached : ByteArray := prog_10_method_56_code
def yX8_cached : MethodName := ⟨RX8, "cached", "()I"⟩
abbrev cX8_cachedAt : ByteArray := prog_10_method_57_code
def yX8_cachedAt : MethodName := ⟨RX8, "cachedAt", "(I)I"⟩
abbrev cX8_undo : ByteArray := prog_10_method_58_code
def yX8_undo : MethodName := ⟨RX8, "undo", "()I"⟩
abbrev cX8_mixed : ByteArray := prog_10_method_59_code
def yX8_mixed : MethodName := ⟨RX8, "mixed", "(JJ)J"⟩
abbrev cX8_digest : ByteArray := prog_10_method_60_code
def yX8_digest : MethodName := ⟨RX8, "digest", "()J"⟩
def RJ0 : String := "java/lang/String"
def TJ0 : u_T := fun k => match k with
  | _ => ("", "", "", false)
def tyJ0 : Nat → FieldType := fun k => match k with
  | _ => .int
abbrev wsJ00 : List Cond := u_ws RJ0 TJ0 0
theorem nmJ0 : ∀ a, a < 0 → ∀ b, b < 0 → a ≠ b → (TJ0 a).2.1 ≠ (TJ0 b).2.1 := by decide +kernel
theorem tyJ0_ok : ∀ k, k < 0 → parseFieldDescriptor (TJ0 k).2.2.1 = some (tyJ0 k) := by decide +kernel
def RJ10 : String := "java/lang/System"
def TJ10 : u_T := fun k => match k with
  | _ => ("", "", "", false)
def tyJ10 : Nat → FieldType := fun k => match k with
  | _ => .int
abbrev wsJ100 : List Cond := u_ws RJ10 TJ10 0
theorem nmJ10 : ∀ a, a < 0 → ∀ b, b < 0 → a ≠ b → (TJ10 a).2.1 ≠ (TJ10 b).2.1 := by decide +kernel
theorem tyJ10_ok : ∀ k, k < 0 → parseFieldDescriptor (TJ10 k).2.2.1 = some (tyJ10 k) := by decide +kernel
def RL : String := "MonotonePostingsLaw"
abbrev cL_append : ByteArray := method_3_code
def yL_append : MethodName := ⟨RL, "append", "(LMonotonePostings;II[J)I"⟩
abbrev cL_appendRange : ByteArray := method_4_code
def yL_appendRange : MethodName := ⟨RL, "appendRange", "(LMonotonePostings;IIII[J)I"⟩
abbrev cL_clear : ByteArray := method_5_code
def yL_clear : MethodName := ⟨RL, "clear", "(LMonotonePostings;I[J)I"⟩
abbrev cL_size : ByteArray := method_6_code
def yL_size : MethodName := ⟨RL, "size", "(LMonotonePostings;I[J)I"⟩
abbrev cL_document : ByteArray := method_7_code
def yL_document : MethodName := ⟨RL, "document", "(LMonotonePostings;II[J)I"⟩
abbrev cL_rank : ByteArray := method_8_code
def yL_rank : MethodName := ⟨RL, "rank", "(LMonotonePostings;II[J)I"⟩
abbrev cL_partitions : ByteArray := method_9_code
def yL_partitions : MethodName := ⟨RL, "partitions", "(LMonotonePostings;I[J)I"⟩
abbrev cL_partition : ByteArray := method_10_code
def yL_partition : MethodName := ⟨RL, "partition", "(LMonotonePostings;III[J)I"⟩
abbrev cL_codeLength : ByteArray := method_11_code
def yL_codeLength : MethodName := ⟨RL, "codeLength", "(LMonotonePostings;I[J)I"⟩
abbrev cL_codeBit : ByteArray := method_12_code
def yL_codeBit : MethodName := ⟨RL, "codeBit", "(LMonotonePostings;II[J)I"⟩
abbrev cL_fixedLength : ByteArray := method_13_code
def yL_fixedLength : MethodName := ⟨RL, "fixedLength", "(LMonotonePostings;II[J)I"⟩
abbrev cL_bitsPerDocument : ByteArray := method_14_code
def yL_bitsPerDocument : MethodName := ⟨RL, "bitsPerDocument", "(LMonotonePostings;I[D)I"⟩
abbrev cL_nextAtLeast : ByteArray := method_15_code
def yL_nextAtLeast : MethodName := ⟨RL, "nextAtLeast", "(LMonotonePostings;II[J)I"⟩
abbrev cL_countIntersection : ByteArray := method_16_code
def yL_countIntersection : MethodName := ⟨RL, "countIntersection", "(LMonotonePostings;I[J)I"⟩
abbrev cL_intersect : ByteArray := method_17_code
def yL_intersect : MethodName := ⟨RL, "intersect", "(LMonotonePostings;II[J)I"⟩
abbrev cL_unite : ByteArray := method_18_code
def yL_unite : MethodName := ⟨RL, "unite", "(LMonotonePostings;III[J)I"⟩
abbrev cL_subtract : ByteArray := method_19_code
def yL_subtract : MethodName := ⟨RL, "subtract", "(LMonotonePostings;III[J)I"⟩
abbrev cL_setCapacity : ByteArray := method_20_code
def yL_setCapacity : MethodName := ⟨RL, "setCapacity", "(LMonotonePostings;I[J)I"⟩
abbrev cL_cachedAt : ByteArray := method_21_code
def yL_cachedAt : MethodName := ⟨RL, "cachedAt", "(LMonotonePostings;I[J)I"⟩
abbrev cL_undo : ByteArray := method_22_code
def yL_undo : MethodName := ⟨RL, "undo", "(LMonotonePostings;[J)I"⟩
abbrev cL_law : ByteArray := code
def yL_law : MethodName := ⟨RL, "law", "([I)Z"⟩
theorem wsL_law_x0 : ∀ w ∈ (vx_atS RX7 66 "java/lang/IllegalArgumentException" ["java/lang/RuntimeException", "java/lang/Exception"]).filter goodWord, w ∈ lw_tbl := by decide +kernel
theorem wsL_law_x1 : ∀ w ∈ (vx_atS RX7 77 "java/lang/IllegalStateException" ["java/lang/RuntimeException", "java/lang/Exception"]).filter goodWord, w ∈ lw_tbl := by decide +kernel
theorem wsL_law_x2 : ∀ w ∈ (vx_atS RX7 197 "java/lang/IndexOutOfBoundsException" ["java/lang/RuntimeException", "java/lang/Exception"]).filter goodWord, w ∈ lw_tbl := by decide +kernel
/-- the tables' words that stay true while the machine warms up -/
def LT : List Cond := lw_tbl.filter goodWord
theorem LT_in : ∀ w ∈ LT, w ∈ lw_tbl := fun _ h => (List.mem_filter.mp h).1
theorem LT_good : ∀ w ∈ LT, goodWord w = true := fun _ h => (List.mem_filter.mp h).2
theorem LT_of (i : Nat) {w : Cond} (h : tables_1[i]? = some w) (g : goodWord w = true) : w ∈ LT := List.mem_filter.mpr ⟨List.mem_append_right _ (List.mem_of_getElem? h), g⟩
theorem LT_sel (i : Nat) {w : Cond} (h : (k2_sels lw_privs)[i]? = some w) (g : goodWord w = true) : w ∈ LT := List.mem_filter.mpr ⟨List.mem_append_left _ (List.mem_of_getElem? h), g⟩
abbrev vwCl : List vw_C := [(RX0, TX0, 3), (RX1, TX1, 2), (RX2, TX2, 3), (RX3, TX3, 2), (RX4, TX4, 4), (RX6, TX6, 4), (RX7, TX7, 6), (RX8, TX8, 12)]
end
section
theorem dX0_init_0 : decode cX0_init 0 = .ok (.aload_n 0, 1) := by decide +kernel
theorem dX0_init_1 : decode cX0_init 1 = .ok (.invokespecial 3, 3) := by decide +kernel
theorem dX0_init_4 : decode cX0_init 4 = .ok (.aload_n 0, 1) := by decide +kernel
theorem dX0_init_5 : decode cX0_init 5 = .ok (.bipush 8, 2) := by decide +kernel
theorem dX0_init_7 : decode cX0_init 7 = .ok (.newarray .int, 2) := by decide +kernel
theorem dX0_init_9 : decode cX0_init 9 = .ok (.putfield 9, 3) := by decide +kernel
theorem dX0_init_12 : decode cX0_init 12 = .ok (.aload_n 0, 1) := by decide +kernel
theorem dX0_init_13 : decode cX0_init 13 = .ok (.iconst 0, 1) := by decide +kernel
theorem dX0_init_14 : decode cX0_init 14 = .ok (.putfield 15, 3) := by decide +kernel
theorem dX0_init_17 : decode cX0_init 17 = .ok (.aload_n 0, 1) := by decide +kernel
theorem dX0_init_18 : decode cX0_init 18 = .ok (.iconst 4, 1) := by decide +kernel
theorem dX0_init_19 : decode cX0_init 19 = .ok (.putfield 19, 3) := by decide +kernel
theorem dX0_init_22 : decode cX0_init 22 = .ok (.return_, 1) := by decide +kernel
theorem dX0_copyFrom_0 : decode cX0_copyFrom 0 = .ok (.aload_n 0, 1) := by decide +kernel
theorem dX0_copyFrom_1 : decode cX0_copyFrom 1 = .ok (.aload_n 1, 1) := by decide +kernel
theorem dX0_copyFrom_2 : decode cX0_copyFrom 2 = .ok (.getfield 15, 3) := by decide +kernel
theorem dX0_copyFrom_5 : decode cX0_copyFrom 5 = .ok (.putfield 15, 3) := by decide +kernel
theorem dX0_copyFrom_8 : decode cX0_copyFrom 8 = .ok (.aload_n 0, 1) := by decide +kernel
theorem dX0_copyFrom_9 : decode cX0_copyFrom 9 = .ok (.aload_n 1, 1) := by decide +kernel
theorem dX0_copyFrom_10 : decode cX0_copyFrom 10 = .ok (.getfield 19, 3) := by decide +kernel
theorem dX0_copyFrom_13 : decode cX0_copyFrom 13 = .ok (.putfield 19, 3) := by decide +kernel
theorem dX0_copyFrom_16 : decode cX0_copyFrom 16 = .ok (.aload_n 1, 1) := by decide +kernel
theorem dX0_copyFrom_17 : decode cX0_copyFrom 17 = .ok (.getfield 9, 3) := by decide +kernel
theorem dX0_copyFrom_20 : decode cX0_copyFrom 20 = .ok (.iconst 0, 1) := by decide +kernel
theorem dX0_copyFrom_21 : decode cX0_copyFrom 21 = .ok (.aload_n 0, 1) := by decide +kernel
theorem dX0_copyFrom_22 : decode cX0_copyFrom 22 = .ok (.getfield 9, 3) := by decide +kernel
theorem dX0_copyFrom_25 : decode cX0_copyFrom 25 = .ok (.iconst 0, 1) := by decide +kernel
theorem dX0_copyFrom_26 : decode cX0_copyFrom 26 = .ok (.aload_n 0, 1) := by decide +kernel
theorem dX0_copyFrom_27 : decode cX0_copyFrom 27 = .ok (.getfield 15, 3) := by decide +kernel
theorem dX0_copyFrom_30 : decode cX0_copyFrom 30 = .ok (.invokestatic 22, 3) := by decide +kernel
theorem dX0_copyFrom_33 : decode cX0_copyFrom 33 = .ok (.return_, 1) := by decide +kernel
theorem dX0_use_0 : decode cX0_use 0 = .ok (.aload_n 0, 1) := by decide +kernel
theorem dX0_use_1 : decode cX0_use 1 = .ok (.iload_n 1, 1) := by decide +kernel
theorem dX0_use_2 : decode cX0_use 2 = .ok (.iload_n 1, 1) := by decide +kernel
theorem dX0_use_3 : decode cX0_use 3 = .ok (.invokevirtual 28, 3) := by decide +kernel
theorem dX0_use_6 : decode cX0_use 6 = .ok (.ifCond .le 7, 3) := by decide +kernel
theorem dX0_use_9 : decode cX0_use 9 = .ok (.iconst 1, 1) := by decide +kernel
theorem dX0_use_10 : decode cX0_use 10 = .ok (.goto 4, 3) := by decide +kernel
theorem dX0_use_13 : decode cX0_use 13 = .ok (.iconst 0, 1) := by decide +kernel
theorem dX0_use_14 : decode cX0_use 14 = .ok (.istore_n 2, 1) := by decide +kernel
theorem dX0_use_15 : decode cX0_use 15 = .ok (.aload_n 0, 1) := by decide +kernel
theorem dX0_use_16 : decode cX0_use 16 = .ok (.getfield 19, 3) := by decide +kernel
theorem dX0_use_19 : decode cX0_use 19 = .ok (.ifCond .le 33, 3) := by decide +kernel
theorem dX0_use_22 : decode cX0_use 22 = .ok (.aload_n 0, 1) := by decide +kernel
theorem dX0_use_23 : decode cX0_use 23 = .ok (.aload_n 0, 1) := by decide +kernel
theorem dX0_use_24 : decode cX0_use 24 = .ok (.getfield 19, 3) := by decide +kernel
theorem dX0_use_27 : decode cX0_use 27 = .ok (.iconst 1, 1) := by decide +kernel
theorem dX0_use_28 : decode cX0_use 28 = .ok (.isub, 1) := by decide +kernel
theorem dX0_use_29 : decode cX0_use 29 = .ok (.invokevirtual 32, 3) := by decide +kernel
theorem dX0_use_32 : decode cX0_use 32 = .ok (.aload_n 0, 1) := by decide +kernel
theorem dX0_use_33 : decode cX0_use 33 = .ok (.getfield 9, 3) := by decide +kernel
theorem dX0_use_36 : decode cX0_use 36 = .ok (.aload_n 0, 1) := by decide +kernel
theorem dX0_use_37 : decode cX0_use 37 = .ok (.getfield 15, 3) := by decide +kernel
theorem dX0_use_40 : decode cX0_use 40 = .ok (.iload_n 1, 1) := by decide +kernel
theorem dX0_use_41 : decode cX0_use 41 = .ok (.iastore, 1) := by decide +kernel
theorem dX0_use_42 : decode cX0_use 42 = .ok (.aload_n 0, 1) := by decide +kernel
theorem dX0_use_43 : decode cX0_use 43 = .ok (.dup, 1) := by decide +kernel
theorem dX0_use_44 : decode cX0_use 44 = .ok (.getfield 15, 3) := by decide +kernel
theorem dX0_use_47 : decode cX0_use 47 = .ok (.iconst 1, 1) := by decide +kernel
theorem dX0_use_48 : decode cX0_use 48 = .ok (.iadd, 1) := by decide +kernel
theorem dX0_use_49 : decode cX0_use 49 = .ok (.putfield 15, 3) := by decide +kernel
theorem dX0_use_52 : decode cX0_use 52 = .ok (.iload_n 2, 1) := by decide +kernel
theorem dX0_use_53 : decode cX0_use 53 = .ok (.ireturn, 1) := by decide +kernel
theorem dX0_dropList_0 : decode cX0_dropList 0 = .ok (.aload_n 0, 1) := by decide +kernel
theorem dX0_dropList_1 : decode cX0_dropList 1 = .ok (.bipush 100, 2) := by decide +kernel
theorem dX0_dropList_3 : decode cX0_dropList 3 = .ok (.iload_n 1, 1) := by decide +kernel
theorem dX0_dropList_4 : decode cX0_dropList 4 = .ok (.imul, 1) := by decide +kernel
theorem dX0_dropList_5 : decode cX0_dropList 5 = .ok (.bipush 100, 2) := by decide +kernel
theorem dX0_dropList_7 : decode cX0_dropList 7 = .ok (.iload_n 1, 1) := by decide +kernel
theorem dX0_dropList_8 : decode cX0_dropList 8 = .ok (.imul, 1) := by decide +kernel
theorem dX0_dropList_9 : decode cX0_dropList 9 = .ok (.bipush 100, 2) := by decide +kernel
theorem dX0_dropList_11 : decode cX0_dropList 11 = .ok (.iadd, 1) := by decide +kernel
theorem dX0_dropList_12 : decode cX0_dropList 12 = .ok (.iconst 1, 1) := by decide +kernel
theorem dX0_dropList_13 : decode cX0_dropList 13 = .ok (.isub, 1) := by decide +kernel
theorem dX0_dropList_14 : decode cX0_dropList 14 = .ok (.invokevirtual 28, 3) := by decide +kernel
theorem dX0_dropList_17 : decode cX0_dropList 17 = .ok (.pop, 1) := by decide +kernel
theorem dX0_dropList_18 : decode cX0_dropList 18 = .ok (.return_, 1) := by decide +kernel
theorem dX0_resize_0 : decode cX0_resize 0 = .ok (.aload_n 0, 1) := by decide +kernel
theorem dX0_resize_1 : decode cX0_resize 1 = .ok (.iload_n 1, 1) := by decide +kernel
theorem dX0_resize_2 : decode cX0_resize 2 = .ok (.invokevirtual 32, 3) := by decide +kernel
theorem dX0_resize_5 : decode cX0_resize 5 = .ok (.aload_n 0, 1) := by decide +kernel
theorem dX0_resize_6 : decode cX0_resize 6 = .ok (.iload_n 1, 1) := by decide +kernel
theorem dX0_resize_7 : decode cX0_resize 7 = .ok (.putfield 19, 3) := by decide +kernel
theorem dX0_resize_10 : decode cX0_resize 10 = .ok (.return_, 1) := by decide +kernel
theorem dX0_dropBetween_0 : decode cX0_dropBetween 0 = .ok (.aload_n 0, 1) := by decide +kernel
theorem dX0_dropBetween_1 : decode cX0_dropBetween 1 = .ok (.getfield 15, 3) := by decide +kernel
theorem dX0_dropBetween_4 : decode cX0_dropBetween 4 = .ok (.istore_n 3, 1) := by decide +kernel
theorem dX0_dropBetween_5 : decode cX0_dropBetween 5 = .ok (.iconst 0, 1) := by decide +kernel
theorem dX0_dropBetween_6 : decode cX0_dropBetween 6 = .ok (.istore 4, 2) := by decide +kernel
theorem dX0_dropBetween_8 : decode cX0_dropBetween 8 = .ok (.iconst 0, 1) := by decide +kernel
theorem dX0_dropBetween_9 : decode cX0_dropBetween 9 = .ok (.istore 5, 2) := by decide +kernel
theorem dX0_dropBetween_11 : decode cX0_dropBetween 11 = .ok (.iload 5, 2) := by decide +kernel
theorem dX0_dropBetween_13 : decode cX0_dropBetween 13 = .ok (.iload_n 3, 1) := by decide +kernel
theorem dX0_dropBetween_14 : decode cX0_dropBetween 14 = .ok (.if_icmp .ge 48, 3) := by decide +kernel
theorem dX0_dropBetween_17 : decode cX0_dropBetween 17 = .ok (.aload_n 0, 1) := by decide +kernel
theorem dX0_dropBetween_18 : decode cX0_dropBetween 18 = .ok (.getfield 9, 3) := by decide +kernel
theorem dX0_dropBetween_21 : decode cX0_dropBetween 21 = .ok (.iload 5, 2) := by decide +kernel
theorem dX0_dropBetween_23 : decode cX0_dropBetween 23 = .ok (.iaload, 1) := by decide +kernel
theorem dX0_dropBetween_24 : decode cX0_dropBetween 24 = .ok (.iload_n 1, 1) := by decide +kernel
theorem dX0_dropBetween_25 : decode cX0_dropBetween 25 = .ok (.if_icmp .lt 14, 3) := by decide +kernel
theorem dX0_dropBetween_28 : decode cX0_dropBetween 28 = .ok (.aload_n 0, 1) := by decide +kernel
theorem dX0_dropBetween_29 : decode cX0_dropBetween 29 = .ok (.getfield 9, 3) := by decide +kernel
theorem dX0_dropBetween_32 : decode cX0_dropBetween 32 = .ok (.iload 5, 2) := by decide +kernel
theorem dX0_dropBetween_34 : decode cX0_dropBetween 34 = .ok (.iaload, 1) := by decide +kernel
theorem dX0_dropBetween_35 : decode cX0_dropBetween 35 = .ok (.iload_n 2, 1) := by decide +kernel
theorem dX0_dropBetween_36 : decode cX0_dropBetween 36 = .ok (.if_icmp .le 20, 3) := by decide +kernel
theorem dX0_dropBetween_39 : decode cX0_dropBetween 39 = .ok (.aload_n 0, 1) := by decide +kernel
theorem dX0_dropBetween_40 : decode cX0_dropBetween 40 = .ok (.getfield 9, 3) := by decide +kernel
theorem dX0_dropBetween_43 : decode cX0_dropBetween 43 = .ok (.iload 4, 2) := by decide +kernel
theorem dX0_dropBetween_45 : decode cX0_dropBetween 45 = .ok (.aload_n 0, 1) := by decide +kernel
theorem dX0_dropBetween_46 : decode cX0_dropBetween 46 = .ok (.getfield 9, 3) := by decide +kernel
theorem dX0_dropBetween_49 : decode cX0_dropBetween 49 = .ok (.iload 5, 2) := by decide +kernel
theorem dX0_dropBetween_51 : decode cX0_dropBetween 51 = .ok (.iaload, 1) := by decide +kernel
theorem dX0_dropBetween_52 : decode cX0_dropBetween 52 = .ok (.iastore, 1) := by decide +kernel
theorem dX0_dropBetween_53 : decode cX0_dropBetween 53 = .ok (.iinc 4 1, 3) := by decide +kernel
theorem dX0_dropBetween_56 : decode cX0_dropBetween 56 = .ok (.iinc 5 1, 3) := by decide +kernel
theorem dX0_dropBetween_59 : decode cX0_dropBetween 59 = .ok (.goto (-48), 3) := by decide +kernel
theorem dX0_dropBetween_62 : decode cX0_dropBetween 62 = .ok (.aload_n 0, 1) := by decide +kernel
theorem dX0_dropBetween_63 : decode cX0_dropBetween 63 = .ok (.iload 4, 2) := by decide +kernel
theorem dX0_dropBetween_65 : decode cX0_dropBetween 65 = .ok (.putfield 15, 3) := by decide +kernel
theorem dX0_dropBetween_68 : decode cX0_dropBetween 68 = .ok (.iload_n 3, 1) := by decide +kernel
theorem dX0_dropBetween_69 : decode cX0_dropBetween 69 = .ok (.iload 4, 2) := by decide +kernel
theorem dX0_dropBetween_71 : decode cX0_dropBetween 71 = .ok (.isub, 1) := by decide +kernel
theorem dX0_dropBetween_72 : decode cX0_dropBetween 72 = .ok (.ireturn, 1) := by decide +kernel
theorem dX0_shrinkTo_0 : decode cX0_shrinkTo 0 = .ok (.aload_n 0, 1) := by decide +kernel
theorem dX0_shrinkTo_1 : decode cX0_shrinkTo 1 = .ok (.getfield 15, 3) := by decide +kernel
theorem dX0_shrinkTo_4 : decode cX0_shrinkTo 4 = .ok (.iload_n 1, 1) := by decide +kernel
theorem dX0_shrinkTo_5 : decode cX0_shrinkTo 5 = .ok (.isub, 1) := by decide +kernel
theorem dX0_shrinkTo_6 : decode cX0_shrinkTo 6 = .ok (.istore_n 2, 1) := by decide +kernel
theorem dX0_shrinkTo_7 : decode cX0_shrinkTo 7 = .ok (.iload_n 2, 1) := by decide +kernel
theorem dX0_shrinkTo_8 : decode cX0_shrinkTo 8 = .ok (.ifCond .le 22, 3) := by decide +kernel
theorem dX0_shrinkTo_11 : decode cX0_shrinkTo 11 = .ok (.aload_n 0, 1) := by decide +kernel
theorem dX0_shrinkTo_12 : decode cX0_shrinkTo 12 = .ok (.getfield 9, 3) := by decide +kernel
theorem dX0_shrinkTo_15 : decode cX0_shrinkTo 15 = .ok (.iload_n 2, 1) := by decide +kernel
theorem dX0_shrinkTo_16 : decode cX0_shrinkTo 16 = .ok (.aload_n 0, 1) := by decide +kernel
theorem dX0_shrinkTo_17 : decode cX0_shrinkTo 17 = .ok (.getfield 9, 3) := by decide +kernel
theorem dX0_shrinkTo_20 : decode cX0_shrinkTo 20 = .ok (.iconst 0, 1) := by decide +kernel
theorem dX0_shrinkTo_21 : decode cX0_shrinkTo 21 = .ok (.iload_n 1, 1) := by decide +kernel
theorem dX0_shrinkTo_22 : decode cX0_shrinkTo 22 = .ok (.invokestatic 22, 3) := by decide +kernel
theorem dX0_shrinkTo_25 : decode cX0_shrinkTo 25 = .ok (.aload_n 0, 1) := by decide +kernel
theorem dX0_shrinkTo_26 : decode cX0_shrinkTo 26 = .ok (.iload_n 1, 1) := by decide +kernel
theorem dX0_shrinkTo_27 : decode cX0_shrinkTo 27 = .ok (.putfield 15, 3) := by decide +kernel
theorem dX0_shrinkTo_30 : decode cX0_shrinkTo 30 = .ok (.return_, 1) := by decide +kernel
theorem dX1_init_0 : decode cX1_init 0 = .ok (.aload_n 0, 1) := by decide +kernel
theorem dX1_init_1 : decode cX1_init 1 = .ok (.invokespecial 3, 3) := by decide +kernel
theorem dX1_init_4 : decode cX1_init 4 = .ok (.aload_n 0, 1) := by decide +kernel
theorem dX1_init_5 : decode cX1_init 5 = .ok (.sipush 538, 3) := by decide +kernel
theorem dX1_init_8 : decode cX1_init 8 = .ok (.newarray .int, 2) := by decide +kernel
theorem dX1_init_10 : decode cX1_init 10 = .ok (.putfield 9, 3) := by decide +kernel
theorem dX1_init_13 : decode cX1_init 13 = .ok (.aload_n 0, 1) := by decide +kernel
theorem dX1_init_14 : decode cX1_init 14 = .ok (.iconst 0, 1) := by decide +kernel
theorem dX1_init_15 : decode cX1_init 15 = .ok (.putfield 15, 3) := by decide +kernel
theorem dX1_init_18 : decode cX1_init 18 = .ok (.return_, 1) := by decide +kernel
theorem dX1_bitAt_0 : decode cX1_bitAt 0 = .ok (.iload_n 1, 1) := by decide +kernel
theorem dX1_bitAt_1 : decode cX1_bitAt 1 = .ok (.ifCond .lt 20, 3) := by decide +kernel
theorem dX1_bitAt_4 : decode cX1_bitAt 4 = .ok (.iload_n 1, 1) := by decide +kernel
theorem dX1_bitAt_5 : decode cX1_bitAt 5 = .ok (.aload_n 0, 1) := by decide +kernel
theorem dX1_bitAt_6 : decode cX1_bitAt 6 = .ok (.getfield 15, 3) := by decide +kernel
theorem dX1_bitAt_9 : decode cX1_bitAt 9 = .ok (.if_icmp .ge 12, 3) := by decide +kernel
theorem dX1_bitAt_12 : decode cX1_bitAt 12 = .ok (.aload_n 0, 1) := by decide +kernel
theorem dX1_bitAt_13 : decode cX1_bitAt 13 = .ok (.getfield 9, 3) := by decide +kernel
theorem dX1_bitAt_16 : decode cX1_bitAt 16 = .ok (.iload_n 1, 1) := by decide +kernel
theorem dX1_bitAt_17 : decode cX1_bitAt 17 = .ok (.iaload, 1) := by decide +kernel
theorem dX1_bitAt_18 : decode cX1_bitAt 18 = .ok (.goto 4, 3) := by decide +kernel
theorem dX1_bitAt_21 : decode cX1_bitAt 21 = .ok (.iconst 0, 1) := by decide +kernel
theorem dX1_bitAt_22 : decode cX1_bitAt 22 = .ok (.ireturn, 1) := by decide +kernel
theorem dX1_write_0 : decode cX1_write 0 = .ok (.aload_n 0, 1) := by decide +kernel
theorem dX1_write_1 : decode cX1_write 1 = .ok (.iconst 0, 1) := by decide +kernel
theorem dX1_write_2 : decode cX1_write 2 = .ok (.putfield 15, 3) := by decide +kernel
theorem dX1_write_5 : decode cX1_write 5 = .ok (.iconst 0, 1) := by decide +kernel
theorem dX1_write_6 : decode cX1_write 6 = .ok (.istore_n 2, 1) := by decide +kernel
theorem dX1_write_7 : decode cX1_write 7 = .ok (.iconst 0, 1) := by decide +kernel
theorem dX1_write_8 : decode cX1_write 8 = .ok (.istore_n 3, 1) := by decide +kernel
theorem dX1_write_9 : decode cX1_write 9 = .ok (.iload_n 3, 1) := by decide +kernel
theorem dX1_write_10 : decode cX1_write 10 = .ok (.aload_n 1, 1) := by decide +kernel
theorem dX1_write_11 : decode cX1_write 11 = .ok (.getfield 19, 3) := by decide +kernel
theorem dX1_write_14 : decode cX1_write 14 = .ok (.if_icmp .ge 68, 3) := by decide +kernel
theorem dX1_write_17 : decode cX1_write 17 = .ok (.aload_n 1, 1) := by decide +kernel
theorem dX1_write_18 : decode cX1_write 18 = .ok (.iload_n 3, 1) := by decide +kernel
theorem dX1_write_19 : decode cX1_write 19 = .ok (.iconst 0, 1) := by decide +kernel
theorem dX1_write_20 : decode cX1_write 20 = .ok (.invokevirtual 24, 3) := by decide +kernel
theorem dX1_write_23 : decode cX1_write 23 = .ok (.istore 4, 2) := by decide +kernel
theorem dX1_write_25 : decode cX1_write 25 = .ok (.aload_n 0, 1) := by decide +kernel
theorem dX1_write_26 : decode cX1_write 26 = .ok (.aload_n 1, 1) := by decide +kernel
theorem dX1_write_27 : decode cX1_write 27 = .ok (.iload_n 3, 1) := by decide +kernel
theorem dX1_write_28 : decode cX1_write 28 = .ok (.invokevirtual 28, 3) := by decide +kernel
theorem dX1_write_31 : decode cX1_write 31 = .ok (.iload 4, 2) := by decide +kernel
theorem dX1_write_33 : decode cX1_write 33 = .ok (.iconst 1, 1) := by decide +kernel
theorem dX1_write_34 : decode cX1_write 34 = .ok (.if_icmp .ne 13, 3) := by decide +kernel
theorem dX1_write_37 : decode cX1_write 37 = .ok (.aload_n 0, 1) := by decide +kernel
theorem dX1_write_38 : decode cX1_write 38 = .ok (.aload_n 1, 1) := by decide +kernel
theorem dX1_write_39 : decode cX1_write 39 = .ok (.iload_n 3, 1) := by decide +kernel
theorem dX1_write_40 : decode cX1_write 40 = .ok (.iload_n 2, 1) := by decide +kernel
theorem dX1_write_41 : decode cX1_write 41 = .ok (.invokevirtual 32, 3) := by decide +kernel
theorem dX1_write_44 : decode cX1_write 44 = .ok (.goto 23, 3) := by decide +kernel
theorem dX1_write_47 : decode cX1_write 47 = .ok (.iload 4, 2) := by decide +kernel
theorem dX1_write_49 : decode cX1_write 49 = .ok (.iconst 2, 1) := by decide +kernel
theorem dX1_write_50 : decode cX1_write 50 = .ok (.if_icmp .ne 17, 3) := by decide +kernel
theorem dX1_write_53 : decode cX1_write 53 = .ok (.aload_n 0, 1) := by decide +kernel
theorem dX1_write_54 : decode cX1_write 54 = .ok (.aload_n 1, 1) := by decide +kernel
theorem dX1_write_55 : decode cX1_write 55 = .ok (.iload_n 3, 1) := by decide +kernel
theorem dX1_write_56 : decode cX1_write 56 = .ok (.iload_n 2, 1) := by decide +kernel
theorem dX1_write_57 : decode cX1_write 57 = .ok (.invokevirtual 36, 3) := by decide +kernel
theorem dX1_write_60 : decode cX1_write 60 = .ok (.aload_n 0, 1) := by decide +kernel
theorem dX1_write_61 : decode cX1_write 61 = .ok (.aload_n 1, 1) := by decide +kernel
theorem dX1_write_62 : decode cX1_write 62 = .ok (.iload_n 3, 1) := by decide +kernel
theorem dX1_write_63 : decode cX1_write 63 = .ok (.iload_n 2, 1) := by decide +kernel
theorem dX1_write_64 : decode cX1_write 64 = .ok (.invokevirtual 39, 3) := by decide +kernel
theorem dX1_write_67 : decode cX1_write 67 = .ok (.iload_n 2, 1) := by decide +kernel
theorem dX1_write_68 : decode cX1_write 68 = .ok (.aload_n 1, 1) := by decide +kernel
theorem dX1_write_69 : decode cX1_write 69 = .ok (.iload_n 3, 1) := by decide +kernel
theorem dX1_write_70 : decode cX1_write 70 = .ok (.iconst 1, 1) := by decide +kernel
theorem dX1_write_71 : decode cX1_write 71 = .ok (.invokevirtual 24, 3) := by decide +kernel
theorem dX1_write_74 : decode cX1_write 74 = .ok (.iadd, 1) := by decide +kernel
theorem dX1_write_75 : decode cX1_write 75 = .ok (.istore_n 2, 1) := by decide +kernel
theorem dX1_write_76 : decode cX1_write 76 = .ok (.iinc 3 1, 3) := by decide +kernel
theorem dX1_write_79 : decode cX1_write 79 = .ok (.goto (-70), 3) := by decide +kernel
theorem dX1_write_82 : decode cX1_write 82 = .ok (.return_, 1) := by decide +kernel
theorem dX1_put_0 : decode cX1_put 0 = .ok (.iconst 0, 1) := by decide +kernel
theorem dX1_put_1 : decode cX1_put 1 = .ok (.istore_n 3, 1) := by decide +kernel
theorem dX1_put_2 : decode cX1_put 2 = .ok (.iload_n 3, 1) := by decide +kernel
theorem dX1_put_3 : decode cX1_put 3 = .ok (.iload_n 2, 1) := by decide +kernel
theorem dX1_put_4 : decode cX1_put 4 = .ok (.if_icmp .ge 43, 3) := by decide +kernel
theorem dX1_put_7 : decode cX1_put 7 = .ok (.aload_n 0, 1) := by decide +kernel
theorem dX1_put_8 : decode cX1_put 8 = .ok (.getfield 15, 3) := by decide +kernel
theorem dX1_put_11 : decode cX1_put 11 = .ok (.sipush 538, 3) := by decide +kernel
theorem dX1_put_14 : decode cX1_put 14 = .ok (.if_icmp .ge 33, 3) := by decide +kernel
theorem dX1_put_17 : decode cX1_put 17 = .ok (.aload_n 0, 1) := by decide +kernel
theorem dX1_put_18 : decode cX1_put 18 = .ok (.getfield 9, 3) := by decide +kernel
theorem dX1_put_21 : decode cX1_put 21 = .ok (.aload_n 0, 1) := by decide +kernel
theorem dX1_put_22 : decode cX1_put 22 = .ok (.getfield 15, 3) := by decide +kernel
theorem dX1_put_25 : decode cX1_put 25 = .ok (.iload_n 1, 1) := by decide +kernel
theorem dX1_put_26 : decode cX1_put 26 = .ok (.iload_n 3, 1) := by decide +kernel
theorem dX1_put_27 : decode cX1_put 27 = .ok (.ishr, 1) := by decide +kernel
theorem dX1_put_28 : decode cX1_put 28 = .ok (.iconst 1, 1) := by decide +kernel
theorem dX1_put_29 : decode cX1_put 29 = .ok (.iand, 1) := by decide +kernel
theorem dX1_put_30 : decode cX1_put 30 = .ok (.iastore, 1) := by decide +kernel
theorem dX1_put_31 : decode cX1_put 31 = .ok (.aload_n 0, 1) := by decide +kernel
theorem dX1_put_32 : decode cX1_put 32 = .ok (.dup, 1) := by decide +kernel
theorem dX1_put_33 : decode cX1_put 33 = .ok (.getfield 15, 3) := by decide +kernel
theorem dX1_put_36 : decode cX1_put 36 = .ok (.iconst 1, 1) := by decide +kernel
theorem dX1_put_37 : decode cX1_put 37 = .ok (.iadd, 1) := by decide +kernel
theorem dX1_put_38 : decode cX1_put 38 = .ok (.putfield 15, 3) := by decide +kernel
theorem dX1_put_41 : decode cX1_put 41 = .ok (.iinc 3 1, 3) := by decide +kernel
theorem dX1_put_44 : decode cX1_put 44 = .ok (.goto (-42), 3) := by decide +kernel
theorem dX1_put_47 : decode cX1_put 47 = .ok (.return_, 1) := by decide +kernel
theorem dX1_setBit_0 : decode cX1_setBit 0 = .ok (.iload_n 1, 1) := by decide +kernel
theorem dX1_setBit_1 : decode cX1_setBit 1 = .ok (.ifCond .lt 18, 3) := by decide +kernel
theorem dX1_setBit_4 : decode cX1_setBit 4 = .ok (.iload_n 1, 1) := by decide +kernel
theorem dX1_setBit_5 : decode cX1_setBit 5 = .ok (.aload_n 0, 1) := by decide +kernel
theorem dX1_setBit_6 : decode cX1_setBit 6 = .ok (.getfield 15, 3) := by decide +kernel
theorem dX1_setBit_9 : decode cX1_setBit 9 = .ok (.if_icmp .ge 10, 3) := by decide +kernel
theorem dX1_setBit_12 : decode cX1_setBit 12 = .ok (.aload_n 0, 1) := by decide +kernel
theorem dX1_setBit_13 : decode cX1_setBit 13 = .ok (.getfield 9, 3) := by decide +kernel
theorem dX1_setBit_16 : decode cX1_setBit 16 = .ok (.iload_n 1, 1) := by decide +kernel
theorem dX1_setBit_17 : decode cX1_setBit 17 = .ok (.iconst 1, 1) := by decide +kernel
theorem dX1_setBit_18 : decode cX1_setBit 18 = .ok (.iastore, 1) := by decide +kernel
theorem dX1_setBit_19 : decode cX1_setBit 19 = .ok (.return_, 1) := by decide +kernel
theorem dX1_putHeader_0 : decode cX1_putHeader 0 = .ok (.aload_n 0, 1) := by decide +kernel
theorem dX1_putHeader_1 : decode cX1_putHeader 1 = .ok (.aload_n 1, 1) := by decide +kernel
theorem dX1_putHeader_2 : decode cX1_putHeader 2 = .ok (.iload_n 2, 1) := by decide +kernel
theorem dX1_putHeader_3 : decode cX1_putHeader 3 = .ok (.iconst 0, 1) := by decide +kernel
theorem dX1_putHeader_4 : decode cX1_putHeader 4 = .ok (.invokevirtual 24, 3) := by decide +kernel
theorem dX1_putHeader_7 : decode cX1_putHeader 7 = .ok (.iconst 2, 1) := by decide +kernel
theorem dX1_putHeader_8 : decode cX1_putHeader 8 = .ok (.invokevirtual 42, 3) := by decide +kernel
theorem dX1_putHeader_11 : decode cX1_putHeader 11 = .ok (.aload_n 0, 1) := by decide +kernel
theorem dX1_putHeader_12 : decode cX1_putHeader 12 = .ok (.aload_n 1, 1) := by decide +kernel
theorem dX1_putHeader_13 : decode cX1_putHeader 13 = .ok (.iload_n 2, 1) := by decide +kernel
theorem dX1_putHeader_14 : decode cX1_putHeader 14 = .ok (.iconst 1, 1) := by decide +kernel
theorem dX1_putHeader_15 : decode cX1_putHeader 15 = .ok (.invokevirtual 24, 3) := by decide +kernel
theorem dX1_putHeader_18 : decode cX1_putHeader 18 = .ok (.iconst 1, 1) := by decide +kernel
theorem dX1_putHeader_19 : decode cX1_putHeader 19 = .ok (.isub, 1) := by decide +kernel
theorem dX1_putHeader_20 : decode cX1_putHeader 20 = .ok (.bipush 6, 2) := by decide +kernel
theorem dX1_putHeader_22 : decode cX1_putHeader 22 = .ok (.invokevirtual 42, 3) := by decide +kernel
theorem dX1_putHeader_25 : decode cX1_putHeader 25 = .ok (.aload_n 0, 1) := by decide +kernel
theorem dX1_putHeader_26 : decode cX1_putHeader 26 = .ok (.aload_n 1, 1) := by decide +kernel
theorem dX1_putHeader_27 : decode cX1_putHeader 27 = .ok (.iload_n 2, 1) := by decide +kernel
theorem dX1_putHeader_28 : decode cX1_putHeader 28 = .ok (.iconst 2, 1) := by decide +kernel
theorem dX1_putHeader_29 : decode cX1_putHeader 29 = .ok (.invokevirtual 24, 3) := by decide +kernel
theorem dX1_putHeader_32 : decode cX1_putHeader 32 = .ok (.bipush 9, 2) := by decide +kernel
theorem dX1_putHeader_34 : decode cX1_putHeader 34 = .ok (.invokevirtual 42, 3) := by decide +kernel
theorem dX1_putHeader_37 : decode cX1_putHeader 37 = .ok (.aload_n 0, 1) := by decide +kernel
theorem dX1_putHeader_38 : decode cX1_putHeader 38 = .ok (.aload_n 1, 1) := by decide +kernel
theorem dX1_putHeader_39 : decode cX1_putHeader 39 = .ok (.iload_n 2, 1) := by decide +kernel
theorem dX1_putHeader_40 : decode cX1_putHeader 40 = .ok (.invokevirtual 46, 3) := by decide +kernel
theorem dX1_putHeader_43 : decode cX1_putHeader 43 = .ok (.iconst 1, 1) := by decide +kernel
theorem dX1_putHeader_44 : decode cX1_putHeader 44 = .ok (.isub, 1) := by decide +kernel
theorem dX1_putHeader_45 : decode cX1_putHeader 45 = .ok (.bipush 9, 2) := by decide +kernel
theorem dX1_putHeader_47 : decode cX1_putHeader 47 = .ok (.invokevirtual 42, 3) := by decide +kernel
theorem dX1_putHeader_50 : decode cX1_putHeader 50 = .ok (.return_, 1) := by decide +kernel
theorem dX1_putBitmap_0 : decode cX1_putBitmap 0 = .ok (.aload_n 0, 1) := by decide +kernel
theorem dX1_putBitmap_1 : decode cX1_putBitmap 1 = .ok (.getfield 15, 3) := by decide +kernel
theorem dX1_putBitmap_4 : decode cX1_putBitmap 4 = .ok (.istore 4, 2) := by decide +kernel
theorem dX1_putBitmap_6 : decode cX1_putBitmap 6 = .ok (.aload_n 1, 1) := by decide +kernel
theorem dX1_putBitmap_7 : decode cX1_putBitmap 7 = .ok (.iload_n 2, 1) := by decide +kernel
theorem dX1_putBitmap_8 : decode cX1_putBitmap 8 = .ok (.iconst 2, 1) := by decide +kernel
theorem dX1_putBitmap_9 : decode cX1_putBitmap 9 = .ok (.invokevirtual 24, 3) := by decide +kernel
theorem dX1_putBitmap_12 : decode cX1_putBitmap 12 = .ok (.istore 5, 2) := by decide +kernel
theorem dX1_putBitmap_14 : decode cX1_putBitmap 14 = .ok (.aload_n 1, 1) := by decide +kernel
theorem dX1_putBitmap_15 : decode cX1_putBitmap 15 = .ok (.iload_n 2, 1) := by decide +kernel
theorem dX1_putBitmap_16 : decode cX1_putBitmap 16 = .ok (.iconst 1, 1) := by decide +kernel
theorem dX1_putBitmap_17 : decode cX1_putBitmap 17 = .ok (.invokevirtual 24, 3) := by decide +kernel
theorem dX1_putBitmap_20 : decode cX1_putBitmap 20 = .ok (.istore 6, 2) := by decide +kernel
theorem dX1_putBitmap_22 : decode cX1_putBitmap 22 = .ok (.aload_n 0, 1) := by decide +kernel
theorem dX1_putBitmap_23 : decode cX1_putBitmap 23 = .ok (.iconst 0, 1) := by decide +kernel
theorem dX1_putBitmap_24 : decode cX1_putBitmap 24 = .ok (.aload_n 1, 1) := by decide +kernel
theorem dX1_putBitmap_25 : decode cX1_putBitmap 25 = .ok (.iload_n 2, 1) := by decide +kernel
theorem dX1_putBitmap_26 : decode cX1_putBitmap 26 = .ok (.invokevirtual 46, 3) := by decide +kernel
theorem dX1_putBitmap_29 : decode cX1_putBitmap 29 = .ok (.invokevirtual 42, 3) := by decide +kernel
theorem dX1_putBitmap_32 : decode cX1_putBitmap 32 = .ok (.iconst 0, 1) := by decide +kernel
theorem dX1_putBitmap_33 : decode cX1_putBitmap 33 = .ok (.istore 7, 2) := by decide +kernel
theorem dX1_putBitmap_35 : decode cX1_putBitmap 35 = .ok (.iload 7, 2) := by decide +kernel
theorem dX1_putBitmap_37 : decode cX1_putBitmap 37 = .ok (.iload 6, 2) := by decide +kernel
theorem dX1_putBitmap_39 : decode cX1_putBitmap 39 = .ok (.if_icmp .ge 27, 3) := by decide +kernel
theorem dX1_putBitmap_42 : decode cX1_putBitmap 42 = .ok (.aload_n 0, 1) := by decide +kernel
theorem dX1_putBitmap_43 : decode cX1_putBitmap 43 = .ok (.iload 4, 2) := by decide +kernel
theorem dX1_putBitmap_45 : decode cX1_putBitmap 45 = .ok (.aload_n 1, 1) := by decide +kernel
theorem dX1_putBitmap_46 : decode cX1_putBitmap 46 = .ok (.iload_n 3, 1) := by decide +kernel
theorem dX1_putBitmap_47 : decode cX1_putBitmap 47 = .ok (.iload 7, 2) := by decide +kernel
theorem dX1_putBitmap_49 : decode cX1_putBitmap 49 = .ok (.iadd, 1) := by decide +kernel
theorem dX1_putBitmap_50 : decode cX1_putBitmap 50 = .ok (.invokevirtual 50, 3) := by decide +kernel
theorem dX1_putBitmap_53 : decode cX1_putBitmap 53 = .ok (.iadd, 1) := by decide +kernel
theorem dX1_putBitmap_54 : decode cX1_putBitmap 54 = .ok (.iload 5, 2) := by decide +kernel
theorem dX1_putBitmap_56 : decode cX1_putBitmap 56 = .ok (.isub, 1) := by decide +kernel
theorem dX1_putBitmap_57 : decode cX1_putBitmap 57 = .ok (.invokevirtual 53, 3) := by decide +kernel
theorem dX1_putBitmap_60 : decode cX1_putBitmap 60 = .ok (.iinc 7 1, 3) := by decide +kernel
theorem dX1_putBitmap_63 : decode cX1_putBitmap 63 = .ok (.goto (-28), 3) := by decide +kernel
theorem dX1_putBitmap_66 : decode cX1_putBitmap 66 = .ok (.return_, 1) := by decide +kernel
theorem dX1_putHighParts_0 : decode cX1_putHighParts 0 = .ok (.aload_n 0, 1) := by decide +kernel
theorem dX1_putHighParts_1 : decode cX1_putHighParts 1 = .ok (.getfield 15, 3) := by decide +kernel
theorem dX1_putHighParts_4 : decode cX1_putHighParts 4 = .ok (.istore 4, 2) := by decide +kernel
theorem dX1_putHighParts_6 : decode cX1_putHighParts 6 = .ok (.aload_n 1, 1) := by decide +kernel
theorem dX1_putHighParts_7 : decode cX1_putHighParts 7 = .ok (.iload_n 2, 1) := by decide +kernel
theorem dX1_putHighParts_8 : decode cX1_putHighParts 8 = .ok (.iconst 2, 1) := by decide +kernel
theorem dX1_putHighParts_9 : decode cX1_putHighParts 9 = .ok (.invokevirtual 24, 3) := by decide +kernel
theorem dX1_putHighParts_12 : decode cX1_putHighParts 12 = .ok (.istore 5, 2) := by decide +kernel
theorem dX1_putHighParts_14 : decode cX1_putHighParts 14 = .ok (.aload_n 1, 1) := by decide +kernel
theorem dX1_putHighParts_15 : decode cX1_putHighParts 15 = .ok (.iload_n 2, 1) := by decide +kernel
theorem dX1_putHighParts_16 : decode cX1_putHighParts 16 = .ok (.iconst 1, 1) := by decide +kernel
theorem dX1_putHighParts_17 : decode cX1_putHighParts 17 = .ok (.invokevirtual 24, 3) := by decide +kernel
theorem dX1_putHighParts_20 : decode cX1_putHighParts 20 = .ok (.istore 6, 2) := by decide +kernel
theorem dX1_putHighParts_22 : decode cX1_putHighParts 22 = .ok (.aload_n 1, 1) := by decide +kernel
theorem dX1_putHighParts_23 : decode cX1_putHighParts 23 = .ok (.iload_n 2, 1) := by decide +kernel
theorem dX1_putHighParts_24 : decode cX1_putHighParts 24 = .ok (.iconst 5, 1) := by decide +kernel
theorem dX1_putHighParts_25 : decode cX1_putHighParts 25 = .ok (.invokevirtual 24, 3) := by decide +kernel
theorem dX1_putHighParts_28 : decode cX1_putHighParts 28 = .ok (.istore 7, 2) := by decide +kernel
theorem dX1_putHighParts_30 : decode cX1_putHighParts 30 = .ok (.aload_n 0, 1) := by decide +kernel
theorem dX1_putHighParts_31 : decode cX1_putHighParts 31 = .ok (.iconst 0, 1) := by decide +kernel
theorem dX1_putHighParts_32 : decode cX1_putHighParts 32 = .ok (.iload 6, 2) := by decide +kernel
theorem dX1_putHighParts_34 : decode cX1_putHighParts 34 = .ok (.aload_n 1, 1) := by decide +kernel
theorem dX1_putHighParts_35 : decode cX1_putHighParts 35 = .ok (.iload_n 2, 1) := by decide +kernel
theorem dX1_putHighParts_36 : decode cX1_putHighParts 36 = .ok (.invokevirtual 46, 3) := by decide +kernel
theorem dX1_putHighParts_39 : decode cX1_putHighParts 39 = .ok (.iload 7, 2) := by decide +kernel
theorem dX1_putHighParts_41 : decode cX1_putHighParts 41 = .ok (.invokestatic 57, 3) := by decide +kernel
theorem dX1_putHighParts_44 : decode cX1_putHighParts 44 = .ok (.invokevirtual 42, 3) := by decide +kernel
theorem dX1_putHighParts_47 : decode cX1_putHighParts 47 = .ok (.iconst 0, 1) := by decide +kernel
theorem dX1_putHighParts_48 : decode cX1_putHighParts 48 = .ok (.istore 8, 2) := by decide +kernel
theorem dX1_putHighParts_50 : decode cX1_putHighParts 50 = .ok (.iload 8, 2) := by decide +kernel
theorem dX1_putHighParts_52 : decode cX1_putHighParts 52 = .ok (.iload 6, 2) := by decide +kernel
theorem dX1_putHighParts_54 : decode cX1_putHighParts 54 = .ok (.if_icmp .ge 33, 3) := by decide +kernel
theorem dX1_putHighParts_57 : decode cX1_putHighParts 57 = .ok (.aload_n 0, 1) := by decide +kernel
theorem dX1_putHighParts_58 : decode cX1_putHighParts 58 = .ok (.iload 4, 2) := by decide +kernel
theorem dX1_putHighParts_60 : decode cX1_putHighParts 60 = .ok (.iload 8, 2) := by decide +kernel
theorem dX1_putHighParts_62 : decode cX1_putHighParts 62 = .ok (.iadd, 1) := by decide +kernel
theorem dX1_putHighParts_63 : decode cX1_putHighParts 63 = .ok (.aload_n 1, 1) := by decide +kernel
theorem dX1_putHighParts_64 : decode cX1_putHighParts 64 = .ok (.iload_n 3, 1) := by decide +kernel
theorem dX1_putHighParts_65 : decode cX1_putHighParts 65 = .ok (.iload 8, 2) := by decide +kernel
theorem dX1_putHighParts_67 : decode cX1_putHighParts 67 = .ok (.iadd, 1) := by decide +kernel
theorem dX1_putHighParts_68 : decode cX1_putHighParts 68 = .ok (.invokevirtual 50, 3) := by decide +kernel
theorem dX1_putHighParts_71 : decode cX1_putHighParts 71 = .ok (.iload 5, 2) := by decide +kernel
theorem dX1_putHighParts_73 : decode cX1_putHighParts 73 = .ok (.isub, 1) := by decide +kernel
theorem dX1_putHighParts_74 : decode cX1_putHighParts 74 = .ok (.iload 7, 2) := by decide +kernel
theorem dX1_putHighParts_76 : decode cX1_putHighParts 76 = .ok (.ishr, 1) := by decide +kernel
theorem dX1_putHighParts_77 : decode cX1_putHighParts 77 = .ok (.iadd, 1) := by decide +kernel
theorem dX1_putHighParts_78 : decode cX1_putHighParts 78 = .ok (.invokevirtual 53, 3) := by decide +kernel
theorem dX1_putHighParts_81 : decode cX1_putHighParts 81 = .ok (.iinc 8 1, 3) := by decide +kernel
theorem dX1_putHighParts_84 : decode cX1_putHighParts 84 = .ok (.goto (-34), 3) := by decide +kernel
theorem dX1_putHighParts_87 : decode cX1_putHighParts 87 = .ok (.return_, 1) := by decide +kernel
theorem dX1_putLowParts_0 : decode cX1_putLowParts 0 = .ok (.aload_n 1, 1) := by decide +kernel
theorem dX1_putLowParts_1 : decode cX1_putLowParts 1 = .ok (.iload_n 2, 1) := by decide +kernel
theorem dX1_putLowParts_2 : decode cX1_putLowParts 2 = .ok (.iconst 2, 1) := by decide +kernel
theorem dX1_putLowParts_3 : decode cX1_putLowParts 3 = .ok (.invokevirtual 24, 3) := by decide +kernel
theorem dX1_putLowParts_6 : decode cX1_putLowParts 6 = .ok (.istore 4, 2) := by decide +kernel
theorem dX1_putLowParts_8 : decode cX1_putLowParts 8 = .ok (.aload_n 1, 1) := by decide +kernel
theorem dX1_putLowParts_9 : decode cX1_putLowParts 9 = .ok (.iload_n 2, 1) := by decide +kernel
theorem dX1_putLowParts_10 : decode cX1_putLowParts 10 = .ok (.iconst 1, 1) := by decide +kernel
theorem dX1_putLowParts_11 : decode cX1_putLowParts 11 = .ok (.invokevirtual 24, 3) := by decide +kernel
theorem dX1_putLowParts_14 : decode cX1_putLowParts 14 = .ok (.istore 5, 2) := by decide +kernel
theorem dX1_putLowParts_16 : decode cX1_putLowParts 16 = .ok (.aload_n 1, 1) := by decide +kernel
theorem dX1_putLowParts_17 : decode cX1_putLowParts 17 = .ok (.iload_n 2, 1) := by decide +kernel
theorem dX1_putLowParts_18 : decode cX1_putLowParts 18 = .ok (.iconst 5, 1) := by decide +kernel
theorem dX1_putLowParts_19 : decode cX1_putLowParts 19 = .ok (.invokevirtual 24, 3) := by decide +kernel
theorem dX1_putLowParts_22 : decode cX1_putLowParts 22 = .ok (.istore 6, 2) := by decide +kernel
theorem dX1_putLowParts_24 : decode cX1_putLowParts 24 = .ok (.iconst 0, 1) := by decide +kernel
theorem dX1_putLowParts_25 : decode cX1_putLowParts 25 = .ok (.istore 7, 2) := by decide +kernel
theorem dX1_putLowParts_27 : decode cX1_putLowParts 27 = .ok (.iload 7, 2) := by decide +kernel
theorem dX1_putLowParts_29 : decode cX1_putLowParts 29 = .ok (.iload 5, 2) := by decide +kernel
theorem dX1_putLowParts_31 : decode cX1_putLowParts 31 = .ok (.if_icmp .ge 26, 3) := by decide +kernel
theorem dX1_putLowParts_34 : decode cX1_putLowParts 34 = .ok (.aload_n 0, 1) := by decide +kernel
theorem dX1_putLowParts_35 : decode cX1_putLowParts 35 = .ok (.aload_n 1, 1) := by decide +kernel
theorem dX1_putLowParts_36 : decode cX1_putLowParts 36 = .ok (.iload_n 3, 1) := by decide +kernel
theorem dX1_putLowParts_37 : decode cX1_putLowParts 37 = .ok (.iload 7, 2) := by decide +kernel
theorem dX1_putLowParts_39 : decode cX1_putLowParts 39 = .ok (.iadd, 1) := by decide +kernel
theorem dX1_putLowParts_40 : decode cX1_putLowParts 40 = .ok (.invokevirtual 50, 3) := by decide +kernel
theorem dX1_putLowParts_43 : decode cX1_putLowParts 43 = .ok (.iload 4, 2) := by decide +kernel
theorem dX1_putLowParts_45 : decode cX1_putLowParts 45 = .ok (.isub, 1) := by decide +kernel
theorem dX1_putLowParts_46 : decode cX1_putLowParts 46 = .ok (.iload 6, 2) := by decide +kernel
theorem dX1_putLowParts_48 : decode cX1_putLowParts 48 = .ok (.invokevirtual 42, 3) := by decide +kernel
theorem dX1_putLowParts_51 : decode cX1_putLowParts 51 = .ok (.iinc 7 1, 3) := by decide +kernel
theorem dX1_putLowParts_54 : decode cX1_putLowParts 54 = .ok (.goto (-27), 3) := by decide +kernel
theorem dX1_putLowParts_57 : decode cX1_putLowParts 57 = .ok (.return_, 1) := by decide +kernel
theorem dX2_init_0 : decode cX2_init 0 = .ok (.aload_n 0, 1) := by decide +kernel
theorem dX2_init_1 : decode cX2_init 1 = .ok (.invokespecial 3, 3) := by decide +kernel
theorem dX2_init_4 : decode cX2_init 4 = .ok (.aload_n 0, 1) := by decide +kernel
theorem dX2_init_5 : decode cX2_init 5 = .ok (.iconst 4, 1) := by decide +kernel
theorem dX2_init_6 : decode cX2_init 6 = .ok (.anewarray 9, 3) := by decide +kernel
theorem dX2_init_9 : decode cX2_init 9 = .ok (.putfield 11, 3) := by decide +kernel
theorem dX2_init_12 : decode cX2_init 12 = .ok (.aload_n 0, 1) := by decide +kernel
theorem dX2_init_13 : decode cX2_init 13 = .ok (.iconst 0, 1) := by decide +kernel
theorem dX2_init_14 : decode cX2_init 14 = .ok (.putfield 17, 3) := by decide +kernel
theorem dX2_init_17 : decode cX2_init 17 = .ok (.aload_n 0, 1) := by decide +kernel
theorem dX2_init_18 : decode cX2_init 18 = .ok (.iconst 0, 1) := by decide +kernel
theorem dX2_init_19 : decode cX2_init 19 = .ok (.putfield 21, 3) := by decide +kernel
theorem dX2_init_22 : decode cX2_init 22 = .ok (.iconst 0, 1) := by decide +kernel
theorem dX2_init_23 : decode cX2_init 23 = .ok (.istore_n 1, 1) := by decide +kernel
theorem dX2_init_24 : decode cX2_init 24 = .ok (.iload_n 1, 1) := by decide +kernel
theorem dX2_init_25 : decode cX2_init 25 = .ok (.iconst 4, 1) := by decide +kernel
theorem dX2_init_26 : decode cX2_init 26 = .ok (.if_icmp .ge 22, 3) := by decide +kernel
theorem dX2_init_29 : decode cX2_init 29 = .ok (.aload_n 0, 1) := by decide +kernel
theorem dX2_init_30 : decode cX2_init 30 = .ok (.getfield 11, 3) := by decide +kernel
theorem dX2_init_33 : decode cX2_init 33 = .ok (.iload_n 1, 1) := by decide +kernel
theorem dX2_init_34 : decode cX2_init 34 = .ok (.new 9, 3) := by decide +kernel
theorem dX2_init_37 : decode cX2_init 37 = .ok (.dup, 1) := by decide +kernel
theorem dX2_init_38 : decode cX2_init 38 = .ok (.invokespecial 24, 3) := by decide +kernel
theorem dX2_init_41 : decode cX2_init 41 = .ok (.aastore, 1) := by decide +kernel
theorem dX2_init_42 : decode cX2_init 42 = .ok (.iinc 1 1, 3) := by decide +kernel
theorem dX2_init_45 : decode cX2_init 45 = .ok (.goto (-21), 3) := by decide +kernel
theorem dX2_init_48 : decode cX2_init 48 = .ok (.return_, 1) := by decide +kernel
theorem dX2_save_0 : decode cX2_save 0 = .ok (.aload_n 0, 1) := by decide +kernel
theorem dX2_save_1 : decode cX2_save 1 = .ok (.getfield 11, 3) := by decide +kernel
theorem dX2_save_4 : decode cX2_save 4 = .ok (.aload_n 0, 1) := by decide +kernel
theorem dX2_save_5 : decode cX2_save 5 = .ok (.getfield 17, 3) := by decide +kernel
theorem dX2_save_8 : decode cX2_save 8 = .ok (.aaload, 1) := by decide +kernel
theorem dX2_save_9 : decode cX2_save 9 = .ok (.aload_n 1, 1) := by decide +kernel
theorem dX2_save_10 : decode cX2_save 10 = .ok (.invokevirtual 25, 3) := by decide +kernel
theorem dX2_save_13 : decode cX2_save 13 = .ok (.aload_n 0, 1) := by decide +kernel
theorem dX2_save_14 : decode cX2_save 14 = .ok (.aload_n 0, 1) := by decide +kernel
theorem dX2_save_15 : decode cX2_save 15 = .ok (.getfield 17, 3) := by decide +kernel
theorem dX2_save_18 : decode cX2_save 18 = .ok (.iconst 1, 1) := by decide +kernel
theorem dX2_save_19 : decode cX2_save 19 = .ok (.iadd, 1) := by decide +kernel
theorem dX2_save_20 : decode cX2_save 20 = .ok (.iconst 4, 1) := by decide +kernel
theorem dX2_save_21 : decode cX2_save 21 = .ok (.if_icmp .ge 12, 3) := by decide +kernel
theorem dX2_save_24 : decode cX2_save 24 = .ok (.aload_n 0, 1) := by decide +kernel
theorem dX2_save_25 : decode cX2_save 25 = .ok (.getfield 17, 3) := by decide +kernel
theorem dX2_save_28 : decode cX2_save 28 = .ok (.iconst 1, 1) := by decide +kernel
theorem dX2_save_29 : decode cX2_save 29 = .ok (.iadd, 1) := by decide +kernel
theorem dX2_save_30 : decode cX2_save 30 = .ok (.goto 4, 3) := by decide +kernel
theorem dX2_save_33 : decode cX2_save 33 = .ok (.iconst 0, 1) := by decide +kernel
theorem dX2_save_34 : decode cX2_save 34 = .ok (.putfield 17, 3) := by decide +kernel
theorem dX2_save_37 : decode cX2_save 37 = .ok (.aload_n 0, 1) := by decide +kernel
theorem dX2_save_38 : decode cX2_save 38 = .ok (.aload_n 0, 1) := by decide +kernel
theorem dX2_save_39 : decode cX2_save 39 = .ok (.getfield 21, 3) := by decide +kernel
theorem dX2_save_42 : decode cX2_save 42 = .ok (.iconst 4, 1) := by decide +kernel
theorem dX2_save_43 : decode cX2_save 43 = .ok (.if_icmp .ge 12, 3) := by decide +kernel
theorem dX2_save_46 : decode cX2_save 46 = .ok (.aload_n 0, 1) := by decide +kernel
theorem dX2_save_47 : decode cX2_save 47 = .ok (.getfield 21, 3) := by decide +kernel
theorem dX2_save_50 : decode cX2_save 50 = .ok (.iconst 1, 1) := by decide +kernel
theorem dX2_save_51 : decode cX2_save 51 = .ok (.iadd, 1) := by decide +kernel
theorem dX2_save_52 : decode cX2_save 52 = .ok (.goto 4, 3) := by decide +kernel
theorem dX2_save_55 : decode cX2_save 55 = .ok (.iconst 4, 1) := by decide +kernel
theorem dX2_save_56 : decode cX2_save 56 = .ok (.putfield 21, 3) := by decide +kernel
theorem dX2_save_59 : decode cX2_save 59 = .ok (.return_, 1) := by decide +kernel
theorem dX2_restore_0 : decode cX2_restore 0 = .ok (.aload_n 0, 1) := by decide +kernel
theorem dX2_restore_1 : decode cX2_restore 1 = .ok (.aload_n 0, 1) := by decide +kernel
theorem dX2_restore_2 : decode cX2_restore 2 = .ok (.getfield 17, 3) := by decide +kernel
theorem dX2_restore_5 : decode cX2_restore 5 = .ok (.ifCond .le 12, 3) := by decide +kernel
theorem dX2_restore_8 : decode cX2_restore 8 = .ok (.aload_n 0, 1) := by decide +kernel
theorem dX2_restore_9 : decode cX2_restore 9 = .ok (.getfield 17, 3) := by decide +kernel
theorem dX2_restore_12 : decode cX2_restore 12 = .ok (.iconst 1, 1) := by decide +kernel
theorem dX2_restore_13 : decode cX2_restore 13 = .ok (.isub, 1) := by decide +kernel
theorem dX2_restore_14 : decode cX2_restore 14 = .ok (.goto 4, 3) := by decide +kernel
theorem dX2_restore_17 : decode cX2_restore 17 = .ok (.iconst 3, 1) := by decide +kernel
theorem dX2_restore_18 : decode cX2_restore 18 = .ok (.putfield 17, 3) := by decide +kernel
theorem dX2_restore_21 : decode cX2_restore 21 = .ok (.aload_n 1, 1) := by decide +kernel
theorem dX2_restore_22 : decode cX2_restore 22 = .ok (.aload_n 0, 1) := by decide +kernel
theorem dX2_restore_23 : decode cX2_restore 23 = .ok (.getfield 11, 3) := by decide +kernel
theorem dX2_restore_26 : decode cX2_restore 26 = .ok (.aload_n 0, 1) := by decide +kernel
theorem dX2_restore_27 : decode cX2_restore 27 = .ok (.getfield 17, 3) := by decide +kernel
theorem dX2_restore_30 : decode cX2_restore 30 = .ok (.aaload, 1) := by decide +kernel
theorem dX2_restore_31 : decode cX2_restore 31 = .ok (.invokevirtual 25, 3) := by decide +kernel
theorem dX2_restore_34 : decode cX2_restore 34 = .ok (.aload_n 0, 1) := by decide +kernel
theorem dX2_restore_35 : decode cX2_restore 35 = .ok (.dup, 1) := by decide +kernel
theorem dX2_restore_36 : decode cX2_restore 36 = .ok (.getfield 21, 3) := by decide +kernel
theorem dX2_restore_39 : decode cX2_restore 39 = .ok (.iconst 1, 1) := by decide +kernel
theorem dX2_restore_40 : decode cX2_restore 40 = .ok (.isub, 1) := by decide +kernel
theorem dX2_restore_41 : decode cX2_restore 41 = .ok (.putfield 21, 3) := by decide +kernel
theorem dX2_restore_44 : decode cX2_restore 44 = .ok (.return_, 1) := by decide +kernel
theorem dX3_init_0 : decode cX3_init 0 = .ok (.aload_n 0, 1) := by decide +kernel
theorem dX3_init_1 : decode cX3_init 1 = .ok (.invokespecial 3, 3) := by decide +kernel
theorem dX3_init_4 : decode cX3_init 4 = .ok (.aload_n 0, 1) := by decide +kernel
theorem dX3_init_5 : decode cX3_init 5 = .ok (.bipush 65, 2) := by decide +kernel
theorem dX3_init_7 : decode cX3_init 7 = .ok (.newarray .int, 2) := by decide +kernel
theorem dX3_init_9 : decode cX3_init 9 = .ok (.putfield 9, 3) := by decide +kernel
theorem dX3_init_12 : decode cX3_init 12 = .ok (.aload_n 0, 1) := by decide +kernel
theorem dX3_init_13 : decode cX3_init 13 = .ok (.bipush 65, 2) := by decide +kernel
theorem dX3_init_15 : decode cX3_init 15 = .ok (.newarray .int, 2) := by decide +kernel
theorem dX3_init_17 : decode cX3_init 17 = .ok (.putfield 15, 3) := by decide +kernel
theorem dX3_init_20 : decode cX3_init 20 = .ok (.return_, 1) := by decide +kernel
theorem dX3_divide_0 : decode cX3_divide 0 = .ok (.aload_n 1, 1) := by decide +kernel
theorem dX3_divide_1 : decode cX3_divide 1 = .ok (.getfield 18, 3) := by decide +kernel
theorem dX3_divide_4 : decode cX3_divide 4 = .ok (.istore_n 2, 1) := by decide +kernel
theorem dX3_divide_5 : decode cX3_divide 5 = .ok (.aload_n 0, 1) := by decide +kernel
theorem dX3_divide_6 : decode cX3_divide 6 = .ok (.getfield 9, 3) := by decide +kernel
theorem dX3_divide_9 : decode cX3_divide 9 = .ok (.iload_n 2, 1) := by decide +kernel
theorem dX3_divide_10 : decode cX3_divide 10 = .ok (.iconst 0, 1) := by decide +kernel
theorem dX3_divide_11 : decode cX3_divide 11 = .ok (.iastore, 1) := by decide +kernel
theorem dX3_divide_12 : decode cX3_divide 12 = .ok (.iload_n 2, 1) := by decide +kernel
theorem dX3_divide_13 : decode cX3_divide 13 = .ok (.iconst 1, 1) := by decide +kernel
theorem dX3_divide_14 : decode cX3_divide 14 = .ok (.isub, 1) := by decide +kernel
theorem dX3_divide_15 : decode cX3_divide 15 = .ok (.istore_n 3, 1) := by decide +kernel
theorem dX3_divide_16 : decode cX3_divide 16 = .ok (.iload_n 3, 1) := by decide +kernel
theorem dX3_divide_17 : decode cX3_divide 17 = .ok (.ifCond .lt 15, 3) := by decide +kernel
theorem dX3_divide_20 : decode cX3_divide 20 = .ok (.aload_n 0, 1) := by decide +kernel
theorem dX3_divide_21 : decode cX3_divide 21 = .ok (.aload_n 1, 1) := by decide +kernel
theorem dX3_divide_22 : decode cX3_divide 22 = .ok (.iload_n 3, 1) := by decide +kernel
theorem dX3_divide_23 : decode cX3_divide 23 = .ok (.invokevirtual 24, 3) := by decide +kernel
theorem dX3_divide_26 : decode cX3_divide 26 = .ok (.iinc 3 (-1), 3) := by decide +kernel
theorem dX3_divide_29 : decode cX3_divide 29 = .ok (.goto (-13), 3) := by decide +kernel
theorem dX3_divide_32 : decode cX3_divide 32 = .ok (.aload_n 1, 1) := by decide +kernel
theorem dX3_divide_33 : decode cX3_divide 33 = .ok (.iconst 0, 1) := by decide +kernel
theorem dX3_divide_34 : decode cX3_divide 34 = .ok (.putfield 28, 3) := by decide +kernel
theorem dX3_divide_37 : decode cX3_divide 37 = .ok (.iconst 0, 1) := by decide +kernel
theorem dX3_divide_38 : decode cX3_divide 38 = .ok (.istore_n 3, 1) := by decide +kernel
theorem dX3_divide_39 : decode cX3_divide 39 = .ok (.iconst 0, 1) := by decide +kernel
theorem dX3_divide_40 : decode cX3_divide 40 = .ok (.istore 4, 2) := by decide +kernel
theorem dX3_divide_42 : decode cX3_divide 42 = .ok (.iload 4, 2) := by decide +kernel
theorem dX3_divide_44 : decode cX3_divide 44 = .ok (.iload_n 2, 1) := by decide +kernel
theorem dX3_divide_45 : decode cX3_divide 45 = .ok (.if_icmp .ge 32, 3) := by decide +kernel
theorem dX3_divide_48 : decode cX3_divide 48 = .ok (.iload_n 3, 1) := by decide +kernel
theorem dX3_divide_49 : decode cX3_divide 49 = .ok (.iload_n 2, 1) := by decide +kernel
theorem dX3_divide_50 : decode cX3_divide 50 = .ok (.if_icmp .ge 27, 3) := by decide +kernel
theorem dX3_divide_53 : decode cX3_divide 53 = .ok (.aload_n 1, 1) := by decide +kernel
theorem dX3_divide_54 : decode cX3_divide 54 = .ok (.iload_n 3, 1) := by decide +kernel
theorem dX3_divide_55 : decode cX3_divide 55 = .ok (.aload_n 0, 1) := by decide +kernel
theorem dX3_divide_56 : decode cX3_divide 56 = .ok (.getfield 15, 3) := by decide +kernel
theorem dX3_divide_59 : decode cX3_divide 59 = .ok (.iload_n 3, 1) := by decide +kernel
theorem dX3_divide_60 : decode cX3_divide 60 = .ok (.iaload, 1) := by decide +kernel
theorem dX3_divide_61 : decode cX3_divide 61 = .ok (.invokevirtual 31, 3) := by decide +kernel
theorem dX3_divide_64 : decode cX3_divide 64 = .ok (.aload_n 0, 1) := by decide +kernel
theorem dX3_divide_65 : decode cX3_divide 65 = .ok (.getfield 15, 3) := by decide +kernel
theorem dX3_divide_68 : decode cX3_divide 68 = .ok (.iload_n 3, 1) := by decide +kernel
theorem dX3_divide_69 : decode cX3_divide 69 = .ok (.iaload, 1) := by decide +kernel
theorem dX3_divide_70 : decode cX3_divide 70 = .ok (.istore_n 3, 1) := by decide +kernel
theorem dX3_divide_71 : decode cX3_divide 71 = .ok (.iinc 4 1, 3) := by decide +kernel
theorem dX3_divide_74 : decode cX3_divide 74 = .ok (.goto (-32), 3) := by decide +kernel
theorem dX3_divide_77 : decode cX3_divide 77 = .ok (.return_, 1) := by decide +kernel
theorem dX3_chooseEnd_0 : decode cX3_chooseEnd 0 = .ok (.iconst 0, 1) := by decide +kernel
theorem dX3_chooseEnd_1 : decode cX3_chooseEnd 1 = .ok (.istore_n 3, 1) := by decide +kernel
theorem dX3_chooseEnd_2 : decode cX3_chooseEnd 2 = .ok (.iload_n 2, 1) := by decide +kernel
theorem dX3_chooseEnd_3 : decode cX3_chooseEnd 3 = .ok (.iconst 1, 1) := by decide +kernel
theorem dX3_chooseEnd_4 : decode cX3_chooseEnd 4 = .ok (.iadd, 1) := by decide +kernel
theorem dX3_chooseEnd_5 : decode cX3_chooseEnd 5 = .ok (.istore 4, 2) := by decide +kernel
theorem dX3_chooseEnd_7 : decode cX3_chooseEnd 7 = .ok (.iload 4, 2) := by decide +kernel
theorem dX3_chooseEnd_9 : decode cX3_chooseEnd 9 = .ok (.aload_n 1, 1) := by decide +kernel
theorem dX3_chooseEnd_10 : decode cX3_chooseEnd 10 = .ok (.getfield 18, 3) := by decide +kernel
theorem dX3_chooseEnd_13 : decode cX3_chooseEnd 13 = .ok (.if_icmp .gt 68, 3) := by decide +kernel
theorem dX3_chooseEnd_16 : decode cX3_chooseEnd 16 = .ok (.iload 4, 2) := by decide +kernel
theorem dX3_chooseEnd_18 : decode cX3_chooseEnd 18 = .ok (.iload_n 2, 1) := by decide +kernel
theorem dX3_chooseEnd_19 : decode cX3_chooseEnd 19 = .ok (.isub, 1) := by decide +kernel
theorem dX3_chooseEnd_20 : decode cX3_chooseEnd 20 = .ok (.aload_n 1, 1) := by decide +kernel
theorem dX3_chooseEnd_21 : decode cX3_chooseEnd 21 = .ok (.iload_n 2, 1) := by decide +kernel
theorem dX3_chooseEnd_22 : decode cX3_chooseEnd 22 = .ok (.iload 4, 2) := by decide +kernel
theorem dX3_chooseEnd_24 : decode cX3_chooseEnd 24 = .ok (.invokevirtual 35, 3) := by decide +kernel
theorem dX3_chooseEnd_27 : decode cX3_chooseEnd 27 = .ok (.invokestatic 39, 3) := by decide +kernel
theorem dX3_chooseEnd_30 : decode cX3_chooseEnd 30 = .ok (.istore 5, 2) := by decide +kernel
theorem dX3_chooseEnd_32 : decode cX3_chooseEnd 32 = .ok (.iload 5, 2) := by decide +kernel
theorem dX3_chooseEnd_34 : decode cX3_chooseEnd 34 = .ok (.sipush 128, 3) := by decide +kernel
theorem dX3_chooseEnd_37 : decode cX3_chooseEnd 37 = .ok (.imul, 1) := by decide +kernel
theorem dX3_chooseEnd_38 : decode cX3_chooseEnd 38 = .ok (.iconst 1, 1) := by decide +kernel
theorem dX3_chooseEnd_39 : decode cX3_chooseEnd 39 = .ok (.iadd, 1) := by decide +kernel
theorem dX3_chooseEnd_40 : decode cX3_chooseEnd 40 = .ok (.aload_n 0, 1) := by decide +kernel
theorem dX3_chooseEnd_41 : decode cX3_chooseEnd 41 = .ok (.getfield 9, 3) := by decide +kernel
theorem dX3_chooseEnd_44 : decode cX3_chooseEnd 44 = .ok (.iload 4, 2) := by decide +kernel
theorem dX3_chooseEnd_46 : decode cX3_chooseEnd 46 = .ok (.iaload, 1) := by decide +kernel
theorem dX3_chooseEnd_47 : decode cX3_chooseEnd 47 = .ok (.iadd, 1) := by decide +kernel
theorem dX3_chooseEnd_48 : decode cX3_chooseEnd 48 = .ok (.istore 6, 2) := by decide +kernel
theorem dX3_chooseEnd_50 : decode cX3_chooseEnd 50 = .ok (.iload 4, 2) := by decide +kernel
theorem dX3_chooseEnd_52 : decode cX3_chooseEnd 52 = .ok (.iload_n 2, 1) := by decide +kernel
theorem dX3_chooseEnd_53 : decode cX3_chooseEnd 53 = .ok (.iconst 1, 1) := by decide +kernel
theorem dX3_chooseEnd_54 : decode cX3_chooseEnd 54 = .ok (.iadd, 1) := by decide +kernel
theorem dX3_chooseEnd_55 : decode cX3_chooseEnd 55 = .ok (.if_icmp .eq 9, 3) := by decide +kernel
theorem dX3_chooseEnd_58 : decode cX3_chooseEnd 58 = .ok (.iload 6, 2) := by decide +kernel
theorem dX3_chooseEnd_60 : decode cX3_chooseEnd 60 = .ok (.iload_n 3, 1) := by decide +kernel
theorem dX3_chooseEnd_61 : decode cX3_chooseEnd 61 = .ok (.if_icmp .ge 14, 3) := by decide +kernel
theorem dX3_chooseEnd_64 : decode cX3_chooseEnd 64 = .ok (.iload 6, 2) := by decide +kernel
theorem dX3_chooseEnd_66 : decode cX3_chooseEnd 66 = .ok (.istore_n 3, 1) := by decide +kernel
theorem dX3_chooseEnd_67 : decode cX3_chooseEnd 67 = .ok (.aload_n 0, 1) := by decide +kernel
theorem dX3_chooseEnd_68 : decode cX3_chooseEnd 68 = .ok (.getfield 15, 3) := by decide +kernel
theorem dX3_chooseEnd_71 : decode cX3_chooseEnd 71 = .ok (.iload_n 2, 1) := by decide +kernel
theorem dX3_chooseEnd_72 : decode cX3_chooseEnd 72 = .ok (.iload 4, 2) := by decide +kernel
theorem dX3_chooseEnd_74 : decode cX3_chooseEnd 74 = .ok (.iastore, 1) := by decide +kernel
theorem dX3_chooseEnd_75 : decode cX3_chooseEnd 75 = .ok (.iinc 4 1, 3) := by decide +kernel
theorem dX3_chooseEnd_78 : decode cX3_chooseEnd 78 = .ok (.goto (-71), 3) := by decide +kernel
theorem dX3_chooseEnd_81 : decode cX3_chooseEnd 81 = .ok (.aload_n 0, 1) := by decide +kernel
theorem dX3_chooseEnd_82 : decode cX3_chooseEnd 82 = .ok (.getfield 9, 3) := by decide +kernel
theorem dX3_chooseEnd_85 : decode cX3_chooseEnd 85 = .ok (.iload_n 2, 1) := by decide +kernel
theorem dX3_chooseEnd_86 : decode cX3_chooseEnd 86 = .ok (.iload_n 3, 1) := by decide +kernel
theorem dX3_chooseEnd_87 : decode cX3_chooseEnd 87 = .ok (.iastore, 1) := by decide +kernel
theorem dX3_chooseEnd_88 : decode cX3_chooseEnd 88 = .ok (.return_, 1) := by decide +kernel
theorem dX4_init_0 : decode cX4_init 0 = .ok (.aload_n 0, 1) := by decide +kernel
theorem dX4_init_1 : decode cX4_init 1 = .ok (.invokespecial 3, 3) := by decide +kernel
theorem dX4_init_4 : decode cX4_init 4 = .ok (.aload_n 0, 1) := by decide +kernel
theorem dX4_init_5 : decode cX4_init 5 = .ok (.bipush 64, 2) := by decide +kernel
theorem dX4_init_7 : decode cX4_init 7 = .ok (.newarray .int, 2) := by decide +kernel
theorem dX4_init_9 : decode cX4_init 9 = .ok (.putfield 9, 3) := by decide +kernel
theorem dX4_init_12 : decode cX4_init 12 = .ok (.aload_n 0, 1) := by decide +kernel
theorem dX4_init_13 : decode cX4_init 13 = .ok (.iconst 0, 1) := by decide +kernel
theorem dX4_init_14 : decode cX4_init 14 = .ok (.putfield 15, 3) := by decide +kernel
theorem dX4_init_17 : decode cX4_init 17 = .ok (.aload_n 0, 1) := by decide +kernel
theorem dX4_init_18 : decode cX4_init 18 = .ok (.sipush 384, 3) := by decide +kernel
theorem dX4_init_21 : decode cX4_init 21 = .ok (.newarray .int, 2) := by decide +kernel
theorem dX4_init_23 : decode cX4_init 23 = .ok (.putfield 19, 3) := by decide +kernel
theorem dX4_init_26 : decode cX4_init 26 = .ok (.aload_n 0, 1) := by decide +kernel
theorem dX4_init_27 : decode cX4_init 27 = .ok (.iconst 0, 1) := by decide +kernel
theorem dX4_init_28 : decode cX4_init 28 = .ok (.putfield 22, 3) := by decide +kernel
theorem dX4_init_31 : decode cX4_init 31 = .ok (.return_, 1) := by decide +kernel
theorem dX4_copyFrom_0 : decode cX4_copyFrom 0 = .ok (.aload_n 0, 1) := by decide +kernel
theorem dX4_copyFrom_1 : decode cX4_copyFrom 1 = .ok (.aload_n 1, 1) := by decide +kernel
theorem dX4_copyFrom_2 : decode cX4_copyFrom 2 = .ok (.getfield 15, 3) := by decide +kernel
theorem dX4_copyFrom_5 : decode cX4_copyFrom 5 = .ok (.putfield 15, 3) := by decide +kernel
theorem dX4_copyFrom_8 : decode cX4_copyFrom 8 = .ok (.aload_n 1, 1) := by decide +kernel
theorem dX4_copyFrom_9 : decode cX4_copyFrom 9 = .ok (.getfield 9, 3) := by decide +kernel
theorem dX4_copyFrom_12 : decode cX4_copyFrom 12 = .ok (.iconst 0, 1) := by decide +kernel
theorem dX4_copyFrom_13 : decode cX4_copyFrom 13 = .ok (.aload_n 0, 1) := by decide +kernel
theorem dX4_copyFrom_14 : decode cX4_copyFrom 14 = .ok (.getfield 9, 3) := by decide +kernel
theorem dX4_copyFrom_17 : decode cX4_copyFrom 17 = .ok (.iconst 0, 1) := by decide +kernel
theorem dX4_copyFrom_18 : decode cX4_copyFrom 18 = .ok (.aload_n 0, 1) := by decide +kernel
theorem dX4_copyFrom_19 : decode cX4_copyFrom 19 = .ok (.getfield 15, 3) := by decide +kernel
theorem dX4_copyFrom_22 : decode cX4_copyFrom 22 = .ok (.invokestatic 25, 3) := by decide +kernel
theorem dX4_copyFrom_25 : decode cX4_copyFrom 25 = .ok (.aload_n 0, 1) := by decide +kernel
theorem dX4_copyFrom_26 : decode cX4_copyFrom 26 = .ok (.aload_n 1, 1) := by decide +kernel
theorem dX4_copyFrom_27 : decode cX4_copyFrom 27 = .ok (.getfield 22, 3) := by decide +kernel
theorem dX4_copyFrom_30 : decode cX4_copyFrom 30 = .ok (.putfield 22, 3) := by decide +kernel
theorem dX4_copyFrom_33 : decode cX4_copyFrom 33 = .ok (.aload_n 1, 1) := by decide +kernel
theorem dX4_copyFrom_34 : decode cX4_copyFrom 34 = .ok (.getfield 19, 3) := by decide +kernel
theorem dX4_copyFrom_37 : decode cX4_copyFrom 37 = .ok (.iconst 0, 1) := by decide +kernel
theorem dX4_copyFrom_38 : decode cX4_copyFrom 38 = .ok (.aload_n 0, 1) := by decide +kernel
theorem dX4_copyFrom_39 : decode cX4_copyFrom 39 = .ok (.getfield 19, 3) := by decide +kernel
theorem dX4_copyFrom_42 : decode cX4_copyFrom 42 = .ok (.iconst 0, 1) := by decide +kernel
theorem dX4_copyFrom_43 : decode cX4_copyFrom 43 = .ok (.aload_n 0, 1) := by decide +kernel
theorem dX4_copyFrom_44 : decode cX4_copyFrom 44 = .ok (.getfield 22, 3) := by decide +kernel
theorem dX4_copyFrom_47 : decode cX4_copyFrom 47 = .ok (.bipush 6, 2) := by decide +kernel
theorem dX4_copyFrom_49 : decode cX4_copyFrom 49 = .ok (.imul, 1) := by decide +kernel
theorem dX4_copyFrom_50 : decode cX4_copyFrom 50 = .ok (.invokestatic 25, 3) := by decide +kernel
theorem dX4_copyFrom_53 : decode cX4_copyFrom 53 = .ok (.return_, 1) := by decide +kernel
theorem dX4_replace_0 : decode cX4_replace 0 = .ok (.aload_n 0, 1) := by decide +kernel
theorem dX4_replace_1 : decode cX4_replace 1 = .ok (.iload_n 2, 1) := by decide +kernel
theorem dX4_replace_2 : decode cX4_replace 2 = .ok (.putfield 15, 3) := by decide +kernel
theorem dX4_replace_5 : decode cX4_replace 5 = .ok (.aload_n 1, 1) := by decide +kernel
theorem dX4_replace_6 : decode cX4_replace 6 = .ok (.iconst 0, 1) := by decide +kernel
theorem dX4_replace_7 : decode cX4_replace 7 = .ok (.aload_n 0, 1) := by decide +kernel
theorem dX4_replace_8 : decode cX4_replace 8 = .ok (.getfield 9, 3) := by decide +kernel
theorem dX4_replace_11 : decode cX4_replace 11 = .ok (.iconst 0, 1) := by decide +kernel
theorem dX4_replace_12 : decode cX4_replace 12 = .ok (.iload_n 2, 1) := by decide +kernel
theorem dX4_replace_13 : decode cX4_replace 13 = .ok (.invokestatic 25, 3) := by decide +kernel
theorem dX4_replace_16 : decode cX4_replace 16 = .ok (.return_, 1) := by decide +kernel
theorem dX4_push_0 : decode cX4_push 0 = .ok (.aload_n 0, 1) := by decide +kernel
theorem dX4_push_1 : decode cX4_push 1 = .ok (.getfield 15, 3) := by decide +kernel
theorem dX4_push_4 : decode cX4_push 4 = .ok (.bipush 64, 2) := by decide +kernel
theorem dX4_push_6 : decode cX4_push 6 = .ok (.if_icmp .ge 23, 3) := by decide +kernel
theorem dX4_push_9 : decode cX4_push 9 = .ok (.aload_n 0, 1) := by decide +kernel
theorem dX4_push_10 : decode cX4_push 10 = .ok (.getfield 9, 3) := by decide +kernel
theorem dX4_push_13 : decode cX4_push 13 = .ok (.aload_n 0, 1) := by decide +kernel
theorem dX4_push_14 : decode cX4_push 14 = .ok (.getfield 15, 3) := by decide +kernel
theorem dX4_push_17 : decode cX4_push 17 = .ok (.iload_n 1, 1) := by decide +kernel
theorem dX4_push_18 : decode cX4_push 18 = .ok (.iastore, 1) := by decide +kernel
theorem dX4_push_19 : decode cX4_push 19 = .ok (.aload_n 0, 1) := by decide +kernel
theorem dX4_push_20 : decode cX4_push 20 = .ok (.dup, 1) := by decide +kernel
theorem dX4_push_21 : decode cX4_push 21 = .ok (.getfield 15, 3) := by decide +kernel
theorem dX4_push_24 : decode cX4_push 24 = .ok (.iconst 1, 1) := by decide +kernel
theorem dX4_push_25 : decode cX4_push 25 = .ok (.iadd, 1) := by decide +kernel
theorem dX4_push_26 : decode cX4_push 26 = .ok (.putfield 15, 3) := by decide +kernel
theorem dX4_push_29 : decode cX4_push 29 = .ok (.return_, 1) := by decide +kernel
theorem dX4_documentAt_0 : decode cX4_documentAt 0 = .ok (.iload_n 1, 1) := by decide +kernel
theorem dX4_documentAt_1 : decode cX4_documentAt 1 = .ok (.ifCond .lt 20, 3) := by decide +kernel
theorem dX4_documentAt_4 : decode cX4_documentAt 4 = .ok (.iload_n 1, 1) := by decide +kernel
theorem dX4_documentAt_5 : decode cX4_documentAt 5 = .ok (.aload_n 0, 1) := by decide +kernel
theorem dX4_documentAt_6 : decode cX4_documentAt 6 = .ok (.getfield 15, 3) := by decide +kernel
theorem dX4_documentAt_9 : decode cX4_documentAt 9 = .ok (.if_icmp .ge 12, 3) := by decide +kernel
theorem dX4_documentAt_12 : decode cX4_documentAt 12 = .ok (.aload_n 0, 1) := by decide +kernel
theorem dX4_documentAt_13 : decode cX4_documentAt 13 = .ok (.getfield 9, 3) := by decide +kernel
theorem dX4_documentAt_16 : decode cX4_documentAt 16 = .ok (.iload_n 1, 1) := by decide +kernel
theorem dX4_documentAt_17 : decode cX4_documentAt 17 = .ok (.iaload, 1) := by decide +kernel
theorem dX4_documentAt_18 : decode cX4_documentAt 18 = .ok (.goto 4, 3) := by decide +kernel
theorem dX4_documentAt_21 : decode cX4_documentAt 21 = .ok (.iconst (-1), 1) := by decide +kernel
theorem dX4_documentAt_22 : decode cX4_documentAt 22 = .ok (.ireturn, 1) := by decide +kernel
theorem dX4_lastDocument_0 : decode cX4_lastDocument 0 = .ok (.aload_n 0, 1) := by decide +kernel
theorem dX4_lastDocument_1 : decode cX4_lastDocument 1 = .ok (.aload_n 0, 1) := by decide +kernel
theorem dX4_lastDocument_2 : decode cX4_lastDocument 2 = .ok (.getfield 15, 3) := by decide +kernel
theorem dX4_lastDocument_5 : decode cX4_lastDocument 5 = .ok (.iconst 1, 1) := by decide +kernel
theorem dX4_lastDocument_6 : decode cX4_lastDocument 6 = .ok (.isub, 1) := by decide +kernel
theorem dX4_lastDocument_7 : decode cX4_lastDocument 7 = .ok (.invokevirtual 31, 3) := by decide +kernel
theorem dX4_lastDocument_10 : decode cX4_lastDocument 10 = .ok (.ireturn, 1) := by decide +kernel
theorem dX4_countBelow_0 : decode cX4_countBelow 0 = .ok (.iconst 0, 1) := by decide +kernel
theorem dX4_countBelow_1 : decode cX4_countBelow 1 = .ok (.istore_n 2, 1) := by decide +kernel
theorem dX4_countBelow_2 : decode cX4_countBelow 2 = .ok (.iload_n 2, 1) := by decide +kernel
theorem dX4_countBelow_3 : decode cX4_countBelow 3 = .ok (.aload_n 0, 1) := by decide +kernel
theorem dX4_countBelow_4 : decode cX4_countBelow 4 = .ok (.getfield 15, 3) := by decide +kernel
theorem dX4_countBelow_7 : decode cX4_countBelow 7 = .ok (.if_icmp .ge 19, 3) := by decide +kernel
theorem dX4_countBelow_10 : decode cX4_countBelow 10 = .ok (.aload_n 0, 1) := by decide +kernel
theorem dX4_countBelow_11 : decode cX4_countBelow 11 = .ok (.getfield 9, 3) := by decide +kernel
theorem dX4_countBelow_14 : decode cX4_countBelow 14 = .ok (.iload_n 2, 1) := by decide +kernel
theorem dX4_countBelow_15 : decode cX4_countBelow 15 = .ok (.iaload, 1) := by decide +kernel
theorem dX4_countBelow_16 : decode cX4_countBelow 16 = .ok (.iload_n 1, 1) := by decide +kernel
theorem dX4_countBelow_17 : decode cX4_countBelow 17 = .ok (.if_icmp .ge 9, 3) := by decide +kernel
theorem dX4_countBelow_20 : decode cX4_countBelow 20 = .ok (.iinc 2 1, 3) := by decide +kernel
theorem dX4_countBelow_23 : decode cX4_countBelow 23 = .ok (.goto (-21), 3) := by decide +kernel
theorem dX4_countBelow_26 : decode cX4_countBelow 26 = .ok (.iload_n 2, 1) := by decide +kernel
theorem dX4_countBelow_27 : decode cX4_countBelow 27 = .ok (.ireturn, 1) := by decide +kernel
theorem dX4_widthBetween_0 : decode cX4_widthBetween 0 = .ok (.aload_n 0, 1) := by decide +kernel
theorem dX4_widthBetween_1 : decode cX4_widthBetween 1 = .ok (.iload_n 2, 1) := by decide +kernel
theorem dX4_widthBetween_2 : decode cX4_widthBetween 2 = .ok (.iconst 1, 1) := by decide +kernel
theorem dX4_widthBetween_3 : decode cX4_widthBetween 3 = .ok (.isub, 1) := by decide +kernel
theorem dX4_widthBetween_4 : decode cX4_widthBetween 4 = .ok (.invokevirtual 31, 3) := by decide +kernel
theorem dX4_widthBetween_7 : decode cX4_widthBetween 7 = .ok (.aload_n 0, 1) := by decide +kernel
theorem dX4_widthBetween_8 : decode cX4_widthBetween 8 = .ok (.iload_n 1, 1) := by decide +kernel
theorem dX4_widthBetween_9 : decode cX4_widthBetween 9 = .ok (.invokevirtual 31, 3) := by decide +kernel
theorem dX4_widthBetween_12 : decode cX4_widthBetween 12 = .ok (.isub, 1) := by decide +kernel
theorem dX4_widthBetween_13 : decode cX4_widthBetween 13 = .ok (.iconst 1, 1) := by decide +kernel
theorem dX4_widthBetween_14 : decode cX4_widthBetween 14 = .ok (.iadd, 1) := by decide +kernel
theorem dX4_widthBetween_15 : decode cX4_widthBetween 15 = .ok (.ireturn, 1) := by decide +kernel
theorem dX4_sizeInParts_0 : decode cX4_sizeInParts 0 = .ok (.iconst 0, 1) := by decide +kernel
theorem dX4_sizeInParts_1 : decode cX4_sizeInParts 1 = .ok (.istore_n 2, 1) := by decide +kernel
theorem dX4_sizeInParts_2 : decode cX4_sizeInParts 2 = .ok (.iconst 0, 1) := by decide +kernel
theorem dX4_sizeInParts_3 : decode cX4_sizeInParts 3 = .ok (.istore_n 3, 1) := by decide +kernel
theorem dX4_sizeInParts_4 : decode cX4_sizeInParts 4 = .ok (.iload_n 3, 1) := by decide +kernel
theorem dX4_sizeInParts_5 : decode cX4_sizeInParts 5 = .ok (.bipush 64, 2) := by decide +kernel
theorem dX4_sizeInParts_7 : decode cX4_sizeInParts 7 = .ok (.if_icmp .ge 67, 3) := by decide +kernel
theorem dX4_sizeInParts_10 : decode cX4_sizeInParts 10 = .ok (.iload_n 3, 1) := by decide +kernel
theorem dX4_sizeInParts_11 : decode cX4_sizeInParts 11 = .ok (.iload_n 1, 1) := by decide +kernel
theorem dX4_sizeInParts_12 : decode cX4_sizeInParts 12 = .ok (.imul, 1) := by decide +kernel
theorem dX4_sizeInParts_13 : decode cX4_sizeInParts 13 = .ok (.aload_n 0, 1) := by decide +kernel
theorem dX4_sizeInParts_14 : decode cX4_sizeInParts 14 = .ok (.getfield 15, 3) := by decide +kernel
theorem dX4_sizeInParts_17 : decode cX4_sizeInParts 17 = .ok (.if_icmp .ge 57, 3) := by decide +kernel
theorem dX4_sizeInParts_20 : decode cX4_sizeInParts 20 = .ok (.iload_n 3, 1) := by decide +kernel
theorem dX4_sizeInParts_21 : decode cX4_sizeInParts 21 = .ok (.iload_n 1, 1) := by decide +kernel
theorem dX4_sizeInParts_22 : decode cX4_sizeInParts 22 = .ok (.imul, 1) := by decide +kernel
theorem dX4_sizeInParts_23 : decode cX4_sizeInParts 23 = .ok (.istore 4, 2) := by decide +kernel
theorem dX4_sizeInParts_25 : decode cX4_sizeInParts 25 = .ok (.iload 4, 2) := by decide +kernel
theorem dX4_sizeInParts_27 : decode cX4_sizeInParts 27 = .ok (.iload_n 1, 1) := by decide +kernel
theorem dX4_sizeInParts_28 : decode cX4_sizeInParts 28 = .ok (.iadd, 1) := by decide +kernel
theorem dX4_sizeInParts_29 : decode cX4_sizeInParts 29 = .ok (.aload_n 0, 1) := by decide +kernel
theorem dX4_sizeInParts_30 : decode cX4_sizeInParts 30 = .ok (.getfield 15, 3) := by decide +kernel
theorem dX4_sizeInParts_33 : decode cX4_sizeInParts 33 = .ok (.if_icmp .ge 10, 3) := by decide +kernel
theorem dX4_sizeInParts_36 : decode cX4_sizeInParts 36 = .ok (.iload 4, 2) := by decide +kernel
theorem dX4_sizeInParts_38 : decode cX4_sizeInParts 38 = .ok (.iload_n 1, 1) := by decide +kernel
theorem dX4_sizeInParts_39 : decode cX4_sizeInParts 39 = .ok (.iadd, 1) := by decide +kernel
theorem dX4_sizeInParts_40 : decode cX4_sizeInParts 40 = .ok (.goto 7, 3) := by decide +kernel
theorem dX4_sizeInParts_43 : decode cX4_sizeInParts 43 = .ok (.aload_n 0, 1) := by decide +kernel
theorem dX4_sizeInParts_44 : decode cX4_sizeInParts 44 = .ok (.getfield 15, 3) := by decide +kernel
theorem dX4_sizeInParts_47 : decode cX4_sizeInParts 47 = .ok (.istore 5, 2) := by decide +kernel
theorem dX4_sizeInParts_49 : decode cX4_sizeInParts 49 = .ok (.iload_n 2, 1) := by decide +kernel
theorem dX4_sizeInParts_50 : decode cX4_sizeInParts 50 = .ok (.iload 5, 2) := by decide +kernel
theorem dX4_sizeInParts_52 : decode cX4_sizeInParts 52 = .ok (.iload 4, 2) := by decide +kernel
theorem dX4_sizeInParts_54 : decode cX4_sizeInParts 54 = .ok (.isub, 1) := by decide +kernel
theorem dX4_sizeInParts_55 : decode cX4_sizeInParts 55 = .ok (.aload_n 0, 1) := by decide +kernel
theorem dX4_sizeInParts_56 : decode cX4_sizeInParts 56 = .ok (.iload 4, 2) := by decide +kernel
theorem dX4_sizeInParts_58 : decode cX4_sizeInParts 58 = .ok (.iload 5, 2) := by decide +kernel
theorem dX4_sizeInParts_60 : decode cX4_sizeInParts 60 = .ok (.invokevirtual 35, 3) := by decide +kernel
theorem dX4_sizeInParts_63 : decode cX4_sizeInParts 63 = .ok (.invokestatic 39, 3) := by decide +kernel
theorem dX4_sizeInParts_66 : decode cX4_sizeInParts 66 = .ok (.iadd, 1) := by decide +kernel
theorem dX4_sizeInParts_67 : decode cX4_sizeInParts 67 = .ok (.istore_n 2, 1) := by decide +kernel
theorem dX4_sizeInParts_68 : decode cX4_sizeInParts 68 = .ok (.iinc 3 1, 3) := by decide +kernel
theorem dX4_sizeInParts_71 : decode cX4_sizeInParts 71 = .ok (.goto (-67), 3) := by decide +kernel
theorem dX4_sizeInParts_74 : decode cX4_sizeInParts 74 = .ok (.iload_n 2, 1) := by decide +kernel
theorem dX4_sizeInParts_75 : decode cX4_sizeInParts 75 = .ok (.ireturn, 1) := by decide +kernel
theorem dX4_codeSize_0 : decode cX4_codeSize 0 = .ok (.iconst 0, 1) := by decide +kernel
theorem dX4_codeSize_1 : decode cX4_codeSize 1 = .ok (.istore_n 1, 1) := by decide +kernel
theorem dX4_codeSize_2 : decode cX4_codeSize 2 = .ok (.iconst 0, 1) := by decide +kernel
theorem dX4_codeSize_3 : decode cX4_codeSize 3 = .ok (.istore_n 2, 1) := by decide +kernel
theorem dX4_codeSize_4 : decode cX4_codeSize 4 = .ok (.iload_n 2, 1) := by decide +kernel
theorem dX4_codeSize_5 : decode cX4_codeSize 5 = .ok (.aload_n 0, 1) := by decide +kernel
theorem dX4_codeSize_6 : decode cX4_codeSize 6 = .ok (.getfield 22, 3) := by decide +kernel
theorem dX4_codeSize_9 : decode cX4_codeSize 9 = .ok (.if_icmp .ge 18, 3) := by decide +kernel
theorem dX4_codeSize_12 : decode cX4_codeSize 12 = .ok (.iload_n 1, 1) := by decide +kernel
theorem dX4_codeSize_13 : decode cX4_codeSize 13 = .ok (.aload_n 0, 1) := by decide +kernel
theorem dX4_codeSize_14 : decode cX4_codeSize 14 = .ok (.iload_n 2, 1) := by decide +kernel
theorem dX4_codeSize_15 : decode cX4_codeSize 15 = .ok (.iconst 4, 1) := by decide +kernel
theorem dX4_codeSize_16 : decode cX4_codeSize 16 = .ok (.invokevirtual 44, 3) := by decide +kernel
theorem dX4_codeSize_19 : decode cX4_codeSize 19 = .ok (.iadd, 1) := by decide +kernel
theorem dX4_codeSize_20 : decode cX4_codeSize 20 = .ok (.istore_n 1, 1) := by decide +kernel
theorem dX4_codeSize_21 : decode cX4_codeSize 21 = .ok (.iinc 2 1, 3) := by decide +kernel
theorem dX4_codeSize_24 : decode cX4_codeSize 24 = .ok (.goto (-20), 3) := by decide +kernel
theorem dX4_codeSize_27 : decode cX4_codeSize 27 = .ok (.iload_n 1, 1) := by decide +kernel
theorem dX4_codeSize_28 : decode cX4_codeSize 28 = .ok (.ireturn, 1) := by decide +kernel
theorem dX4_factOf_0 : decode cX4_factOf 0 = .ok (.aload_n 0, 1) := by decide +kernel
theorem dX4_factOf_1 : decode cX4_factOf 1 = .ok (.getfield 19, 3) := by decide +kernel
theorem dX4_factOf_4 : decode cX4_factOf 4 = .ok (.iload_n 1, 1) := by decide +kernel
theorem dX4_factOf_5 : decode cX4_factOf 5 = .ok (.bipush 6, 2) := by decide +kernel
theorem dX4_factOf_7 : decode cX4_factOf 7 = .ok (.imul, 1) := by decide +kernel
theorem dX4_factOf_8 : decode cX4_factOf 8 = .ok (.iload_n 2, 1) := by decide +kernel
theorem dX4_factOf_9 : decode cX4_factOf 9 = .ok (.iadd, 1) := by decide +kernel
theorem dX4_factOf_10 : decode cX4_factOf 10 = .ok (.iaload, 1) := by decide +kernel
theorem dX4_factOf_11 : decode cX4_factOf 11 = .ok (.ireturn, 1) := by decide +kernel
theorem dX4_widthOf_0 : decode cX4_widthOf 0 = .ok (.aload_n 0, 1) := by decide +kernel
theorem dX4_widthOf_1 : decode cX4_widthOf 1 = .ok (.iload_n 1, 1) := by decide +kernel
theorem dX4_widthOf_2 : decode cX4_widthOf 2 = .ok (.iconst 3, 1) := by decide +kernel
theorem dX4_widthOf_3 : decode cX4_widthOf 3 = .ok (.invokevirtual 44, 3) := by decide +kernel
theorem dX4_widthOf_6 : decode cX4_widthOf 6 = .ok (.aload_n 0, 1) := by decide +kernel
theorem dX4_widthOf_7 : decode cX4_widthOf 7 = .ok (.iload_n 1, 1) := by decide +kernel
theorem dX4_widthOf_8 : decode cX4_widthOf 8 = .ok (.iconst 2, 1) := by decide +kernel
theorem dX4_widthOf_9 : decode cX4_widthOf 9 = .ok (.invokevirtual 44, 3) := by decide +kernel
theorem dX4_widthOf_12 : decode cX4_widthOf 12 = .ok (.isub, 1) := by decide +kernel
theorem dX4_widthOf_13 : decode cX4_widthOf 13 = .ok (.iconst 1, 1) := by decide +kernel
theorem dX4_widthOf_14 : decode cX4_widthOf 14 = .ok (.iadd, 1) := by decide +kernel
theorem dX4_widthOf_15 : decode cX4_widthOf 15 = .ok (.ireturn, 1) := by decide +kernel
theorem dX4_addPart_0 : decode cX4_addPart 0 = .ok (.iload_n 2, 1) := by decide +kernel
theorem dX4_addPart_1 : decode cX4_addPart 1 = .ok (.iload_n 1, 1) := by decide +kernel
theorem dX4_addPart_2 : decode cX4_addPart 2 = .ok (.isub, 1) := by decide +kernel
theorem dX4_addPart_3 : decode cX4_addPart 3 = .ok (.istore_n 3, 1) := by decide +kernel
theorem dX4_addPart_4 : decode cX4_addPart 4 = .ok (.aload_n 0, 1) := by decide +kernel
theorem dX4_addPart_5 : decode cX4_addPart 5 = .ok (.iload_n 1, 1) := by decide +kernel
theorem dX4_addPart_6 : decode cX4_addPart 6 = .ok (.iload_n 2, 1) := by decide +kernel
theorem dX4_addPart_7 : decode cX4_addPart 7 = .ok (.invokevirtual 35, 3) := by decide +kernel
theorem dX4_addPart_10 : decode cX4_addPart 10 = .ok (.istore 4, 2) := by decide +kernel
theorem dX4_addPart_12 : decode cX4_addPart 12 = .ok (.iload_n 3, 1) := by decide +kernel
theorem dX4_addPart_13 : decode cX4_addPart 13 = .ok (.iload 4, 2) := by decide +kernel
theorem dX4_addPart_15 : decode cX4_addPart 15 = .ok (.invokestatic 39, 3) := by decide +kernel
theorem dX4_addPart_18 : decode cX4_addPart 18 = .ok (.istore 5, 2) := by decide +kernel
theorem dX4_addPart_20 : decode cX4_addPart 20 = .ok (.iload_n 3, 1) := by decide +kernel
theorem dX4_addPart_21 : decode cX4_addPart 21 = .ok (.iload 4, 2) := by decide +kernel
theorem dX4_addPart_23 : decode cX4_addPart 23 = .ok (.iload 5, 2) := by decide +kernel
theorem dX4_addPart_25 : decode cX4_addPart 25 = .ok (.invokestatic 47, 3) := by decide +kernel
theorem dX4_addPart_28 : decode cX4_addPart 28 = .ok (.istore 6, 2) := by decide +kernel
theorem dX4_addPart_30 : decode cX4_addPart 30 = .ok (.aload_n 0, 1) := by decide +kernel
theorem dX4_addPart_31 : decode cX4_addPart 31 = .ok (.getfield 22, 3) := by decide +kernel
theorem dX4_addPart_34 : decode cX4_addPart 34 = .ok (.bipush 6, 2) := by decide +kernel
theorem dX4_addPart_36 : decode cX4_addPart 36 = .ok (.imul, 1) := by decide +kernel
theorem dX4_addPart_37 : decode cX4_addPart 37 = .ok (.istore 7, 2) := by decide +kernel
theorem dX4_addPart_39 : decode cX4_addPart 39 = .ok (.aload_n 0, 1) := by decide +kernel
theorem dX4_addPart_40 : decode cX4_addPart 40 = .ok (.getfield 19, 3) := by decide +kernel
theorem dX4_addPart_43 : decode cX4_addPart 43 = .ok (.iload 7, 2) := by decide +kernel
theorem dX4_addPart_45 : decode cX4_addPart 45 = .ok (.iconst 0, 1) := by decide +kernel
theorem dX4_addPart_46 : decode cX4_addPart 46 = .ok (.iadd, 1) := by decide +kernel
theorem dX4_addPart_47 : decode cX4_addPart 47 = .ok (.iload 6, 2) := by decide +kernel
theorem dX4_addPart_49 : decode cX4_addPart 49 = .ok (.iastore, 1) := by decide +kernel
theorem dX4_addPart_50 : decode cX4_addPart 50 = .ok (.aload_n 0, 1) := by decide +kernel
theorem dX4_addPart_51 : decode cX4_addPart 51 = .ok (.getfield 19, 3) := by decide +kernel
theorem dX4_addPart_54 : decode cX4_addPart 54 = .ok (.iload 7, 2) := by decide +kernel
theorem dX4_addPart_56 : decode cX4_addPart 56 = .ok (.iconst 1, 1) := by decide +kernel
theorem dX4_addPart_57 : decode cX4_addPart 57 = .ok (.iadd, 1) := by decide +kernel
theorem dX4_addPart_58 : decode cX4_addPart 58 = .ok (.iload_n 3, 1) := by decide +kernel
theorem dX4_addPart_59 : decode cX4_addPart 59 = .ok (.iastore, 1) := by decide +kernel
theorem dX4_addPart_60 : decode cX4_addPart 60 = .ok (.aload_n 0, 1) := by decide +kernel
theorem dX4_addPart_61 : decode cX4_addPart 61 = .ok (.getfield 19, 3) := by decide +kernel
theorem dX4_addPart_64 : decode cX4_addPart 64 = .ok (.iload 7, 2) := by decide +kernel
theorem dX4_addPart_66 : decode cX4_addPart 66 = .ok (.iconst 2, 1) := by decide +kernel
theorem dX4_addPart_67 : decode cX4_addPart 67 = .ok (.iadd, 1) := by decide +kernel
theorem dX4_addPart_68 : decode cX4_addPart 68 = .ok (.aload_n 0, 1) := by decide +kernel
theorem dX4_addPart_69 : decode cX4_addPart 69 = .ok (.iload_n 1, 1) := by decide +kernel
theorem dX4_addPart_70 : decode cX4_addPart 70 = .ok (.invokevirtual 31, 3) := by decide +kernel
theorem dX4_addPart_73 : decode cX4_addPart 73 = .ok (.iastore, 1) := by decide +kernel
theorem dX4_addPart_74 : decode cX4_addPart 74 = .ok (.aload_n 0, 1) := by decide +kernel
theorem dX4_addPart_75 : decode cX4_addPart 75 = .ok (.getfield 19, 3) := by decide +kernel
theorem dX4_addPart_78 : decode cX4_addPart 78 = .ok (.iload 7, 2) := by decide +kernel
theorem dX4_addPart_80 : decode cX4_addPart 80 = .ok (.iconst 3, 1) := by decide +kernel
theorem dX4_addPart_81 : decode cX4_addPart 81 = .ok (.iadd, 1) := by decide +kernel
theorem dX4_addPart_82 : decode cX4_addPart 82 = .ok (.aload_n 0, 1) := by decide +kernel
theorem dX4_addPart_83 : decode cX4_addPart 83 = .ok (.iload_n 2, 1) := by decide +kernel
theorem dX4_addPart_84 : decode cX4_addPart 84 = .ok (.iconst 1, 1) := by decide +kernel
theorem dX4_addPart_85 : decode cX4_addPart 85 = .ok (.isub, 1) := by decide +kernel
theorem dX4_addPart_86 : decode cX4_addPart 86 = .ok (.invokevirtual 31, 3) := by decide +kernel
theorem dX4_addPart_89 : decode cX4_addPart 89 = .ok (.iastore, 1) := by decide +kernel
theorem dX4_addPart_90 : decode cX4_addPart 90 = .ok (.aload_n 0, 1) := by decide +kernel
theorem dX4_addPart_91 : decode cX4_addPart 91 = .ok (.getfield 19, 3) := by decide +kernel
theorem dX4_addPart_94 : decode cX4_addPart 94 = .ok (.iload 7, 2) := by decide +kernel
theorem dX4_addPart_96 : decode cX4_addPart 96 = .ok (.iconst 4, 1) := by decide +kernel
theorem dX4_addPart_97 : decode cX4_addPart 97 = .ok (.iadd, 1) := by decide +kernel
theorem dX4_addPart_98 : decode cX4_addPart 98 = .ok (.iload 5, 2) := by decide +kernel
theorem dX4_addPart_100 : decode cX4_addPart 100 = .ok (.iastore, 1) := by decide +kernel
theorem dX4_addPart_101 : decode cX4_addPart 101 = .ok (.aload_n 0, 1) := by decide +kernel
theorem dX4_addPart_102 : decode cX4_addPart 102 = .ok (.getfield 19, 3) := by decide +kernel
theorem dX4_addPart_105 : decode cX4_addPart 105 = .ok (.iload 7, 2) := by decide +kernel
theorem dX4_addPart_107 : decode cX4_addPart 107 = .ok (.iconst 5, 1) := by decide +kernel
theorem dX4_addPart_108 : decode cX4_addPart 108 = .ok (.iadd, 1) := by decide +kernel
theorem dX4_addPart_109 : decode cX4_addPart 109 = .ok (.iload 6, 2) := by decide +kernel
theorem dX4_addPart_111 : decode cX4_addPart 111 = .ok (.iconst 2, 1) := by decide +kernel
theorem dX4_addPart_112 : decode cX4_addPart 112 = .ok (.if_icmp .ne 12, 3) := by decide +kernel
theorem dX4_addPart_115 : decode cX4_addPart 115 = .ok (.iload_n 3, 1) := by decide +kernel
theorem dX4_addPart_116 : decode cX4_addPart 116 = .ok (.iload 4, 2) := by decide +kernel
theorem dX4_addPart_118 : decode cX4_addPart 118 = .ok (.invokestatic 51, 3) := by decide +kernel
theorem dX4_addPart_121 : decode cX4_addPart 121 = .ok (.goto 4, 3) := by decide +kernel
theorem dX4_addPart_124 : decode cX4_addPart 124 = .ok (.iconst 0, 1) := by decide +kernel
theorem dX4_addPart_125 : decode cX4_addPart 125 = .ok (.iastore, 1) := by decide +kernel
theorem dX4_addPart_126 : decode cX4_addPart 126 = .ok (.aload_n 0, 1) := by decide +kernel
theorem dX4_addPart_127 : decode cX4_addPart 127 = .ok (.dup, 1) := by decide +kernel
theorem dX4_addPart_128 : decode cX4_addPart 128 = .ok (.getfield 22, 3) := by decide +kernel
theorem dX4_addPart_131 : decode cX4_addPart 131 = .ok (.iconst 1, 1) := by decide +kernel
theorem dX4_addPart_132 : decode cX4_addPart 132 = .ok (.iadd, 1) := by decide +kernel
theorem dX4_addPart_133 : decode cX4_addPart 133 = .ok (.putfield 22, 3) := by decide +kernel
theorem dX4_addPart_136 : decode cX4_addPart 136 = .ok (.return_, 1) := by decide +kernel
theorem dX4_readsInside_0 : decode cX4_readsInside 0 = .ok (.aload_n 0, 1) := by decide +kernel
theorem dX4_readsInside_1 : decode cX4_readsInside 1 = .ok (.iload_n 1, 1) := by decide +kernel
theorem dX4_readsInside_2 : decode cX4_readsInside 2 = .ok (.iconst 2, 1) := by decide +kernel
theorem dX4_readsInside_3 : decode cX4_readsInside 3 = .ok (.invokevirtual 44, 3) := by decide +kernel
theorem dX4_readsInside_6 : decode cX4_readsInside 6 = .ok (.istore 4, 2) := by decide +kernel
theorem dX4_readsInside_8 : decode cX4_readsInside 8 = .ok (.aload_n 0, 1) := by decide +kernel
theorem dX4_readsInside_9 : decode cX4_readsInside 9 = .ok (.iload_n 1, 1) := by decide +kernel
theorem dX4_readsInside_10 : decode cX4_readsInside 10 = .ok (.iconst 0, 1) := by decide +kernel
theorem dX4_readsInside_11 : decode cX4_readsInside 11 = .ok (.invokevirtual 44, 3) := by decide +kernel
theorem dX4_readsInside_14 : decode cX4_readsInside 14 = .ok (.istore 5, 2) := by decide +kernel
theorem dX4_readsInside_16 : decode cX4_readsInside 16 = .ok (.iload 5, 2) := by decide +kernel
theorem dX4_readsInside_18 : decode cX4_readsInside 18 = .ok (.iconst 1, 1) := by decide +kernel
theorem dX4_readsInside_19 : decode cX4_readsInside 19 = .ok (.if_icmp .ne 25, 3) := by decide +kernel
theorem dX4_readsInside_22 : decode cX4_readsInside 22 = .ok (.aload_n 0, 1) := by decide +kernel
theorem dX4_readsInside_23 : decode cX4_readsInside 23 = .ok (.iload_n 3, 1) := by decide +kernel
theorem dX4_readsInside_24 : decode cX4_readsInside 24 = .ok (.invokevirtual 31, 3) := by decide +kernel
theorem dX4_readsInside_27 : decode cX4_readsInside 27 = .ok (.iload 4, 2) := by decide +kernel
theorem dX4_readsInside_29 : decode cX4_readsInside 29 = .ok (.isub, 1) := by decide +kernel
theorem dX4_readsInside_30 : decode cX4_readsInside 30 = .ok (.bipush 8, 2) := by decide +kernel
theorem dX4_readsInside_32 : decode cX4_readsInside 32 = .ok (.idiv, 1) := by decide +kernel
theorem dX4_readsInside_33 : decode cX4_readsInside 33 = .ok (.iload_n 2, 1) := by decide +kernel
theorem dX4_readsInside_34 : decode cX4_readsInside 34 = .ok (.iload 4, 2) := by decide +kernel
theorem dX4_readsInside_36 : decode cX4_readsInside 36 = .ok (.isub, 1) := by decide +kernel
theorem dX4_readsInside_37 : decode cX4_readsInside 37 = .ok (.bipush 8, 2) := by decide +kernel
theorem dX4_readsInside_39 : decode cX4_readsInside 39 = .ok (.idiv, 1) := by decide +kernel
theorem dX4_readsInside_40 : decode cX4_readsInside 40 = .ok (.isub, 1) := by decide +kernel
theorem dX4_readsInside_41 : decode cX4_readsInside 41 = .ok (.iconst 1, 1) := by decide +kernel
theorem dX4_readsInside_42 : decode cX4_readsInside 42 = .ok (.iadd, 1) := by decide +kernel
theorem dX4_readsInside_43 : decode cX4_readsInside 43 = .ok (.ireturn, 1) := by decide +kernel
theorem dX4_readsInside_44 : decode cX4_readsInside 44 = .ok (.iload 5, 2) := by decide +kernel
theorem dX4_readsInside_46 : decode cX4_readsInside 46 = .ok (.iconst 2, 1) := by decide +kernel
theorem dX4_readsInside_47 : decode cX4_readsInside 47 = .ok (.if_icmp .ne 39, 3) := by decide +kernel
theorem dX4_readsInside_50 : decode cX4_readsInside 50 = .ok (.aload_n 0, 1) := by decide +kernel
theorem dX4_readsInside_51 : decode cX4_readsInside 51 = .ok (.iload_n 1, 1) := by decide +kernel
theorem dX4_readsInside_52 : decode cX4_readsInside 52 = .ok (.iconst 5, 1) := by decide +kernel
theorem dX4_readsInside_53 : decode cX4_readsInside 53 = .ok (.invokevirtual 44, 3) := by decide +kernel
theorem dX4_readsInside_56 : decode cX4_readsInside 56 = .ok (.istore 6, 2) := by decide +kernel
theorem dX4_readsInside_58 : decode cX4_readsInside 58 = .ok (.iload 4, 2) := by decide +kernel
theorem dX4_readsInside_60 : decode cX4_readsInside 60 = .ok (.iload_n 2, 1) := by decide +kernel
theorem dX4_readsInside_61 : decode cX4_readsInside 61 = .ok (.iload 4, 2) := by decide +kernel
theorem dX4_readsInside_63 : decode cX4_readsInside 63 = .ok (.isub, 1) := by decide +kernel
theorem dX4_readsInside_64 : decode cX4_readsInside 64 = .ok (.iload 6, 2) := by decide +kernel
theorem dX4_readsInside_66 : decode cX4_readsInside 66 = .ok (.ishr, 1) := by decide +kernel
theorem dX4_readsInside_67 : decode cX4_readsInside 67 = .ok (.iload 6, 2) := by decide +kernel
theorem dX4_readsInside_69 : decode cX4_readsInside 69 = .ok (.ishl, 1) := by decide +kernel
theorem dX4_readsInside_70 : decode cX4_readsInside 70 = .ok (.iadd, 1) := by decide +kernel
theorem dX4_readsInside_71 : decode cX4_readsInside 71 = .ok (.istore 7, 2) := by decide +kernel
theorem dX4_readsInside_73 : decode cX4_readsInside 73 = .ok (.iconst 1, 1) := by decide +kernel
theorem dX4_readsInside_74 : decode cX4_readsInside 74 = .ok (.iload_n 3, 1) := by decide +kernel
theorem dX4_readsInside_75 : decode cX4_readsInside 75 = .ok (.iadd, 1) := by decide +kernel
theorem dX4_readsInside_76 : decode cX4_readsInside 76 = .ok (.aload_n 0, 1) := by decide +kernel
theorem dX4_readsInside_77 : decode cX4_readsInside 77 = .ok (.iload 7, 2) := by decide +kernel
theorem dX4_readsInside_79 : decode cX4_readsInside 79 = .ok (.invokevirtual 54, 3) := by decide +kernel
theorem dX4_readsInside_82 : decode cX4_readsInside 82 = .ok (.isub, 1) := by decide +kernel
theorem dX4_readsInside_83 : decode cX4_readsInside 83 = .ok (.iconst 1, 1) := by decide +kernel
theorem dX4_readsInside_84 : decode cX4_readsInside 84 = .ok (.iadd, 1) := by decide +kernel
theorem dX4_readsInside_85 : decode cX4_readsInside 85 = .ok (.ireturn, 1) := by decide +kernel
theorem dX4_readsInside_86 : decode cX4_readsInside 86 = .ok (.iconst 0, 1) := by decide +kernel
theorem dX4_readsInside_87 : decode cX4_readsInside 87 = .ok (.ireturn, 1) := by decide +kernel
theorem dX5_lowBits_0 : decode cX5_lowBits 0 = .ok (.iconst 0, 1) := by decide +kernel
theorem dX5_lowBits_1 : decode cX5_lowBits 1 = .ok (.istore_n 2, 1) := by decide +kernel
theorem dX5_lowBits_2 : decode cX5_lowBits 2 = .ok (.iload_n 2, 1) := by decide +kernel
theorem dX5_lowBits_3 : decode cX5_lowBits 3 = .ok (.bipush 9, 2) := by decide +kernel
theorem dX5_lowBits_5 : decode cX5_lowBits 5 = .ok (.if_icmp .ge 18, 3) := by decide +kernel
theorem dX5_lowBits_8 : decode cX5_lowBits 8 = .ok (.iload_n 0, 1) := by decide +kernel
theorem dX5_lowBits_9 : decode cX5_lowBits 9 = .ok (.iload_n 2, 1) := by decide +kernel
theorem dX5_lowBits_10 : decode cX5_lowBits 10 = .ok (.iconst 1, 1) := by decide +kernel
theorem dX5_lowBits_11 : decode cX5_lowBits 11 = .ok (.iadd, 1) := by decide +kernel
theorem dX5_lowBits_12 : decode cX5_lowBits 12 = .ok (.ishl, 1) := by decide +kernel
theorem dX5_lowBits_13 : decode cX5_lowBits 13 = .ok (.iload_n 1, 1) := by decide +kernel
theorem dX5_lowBits_14 : decode cX5_lowBits 14 = .ok (.if_icmp .gt 9, 3) := by decide +kernel
theorem dX5_lowBits_17 : decode cX5_lowBits 17 = .ok (.iinc 2 1, 3) := by decide +kernel
theorem dX5_lowBits_20 : decode cX5_lowBits 20 = .ok (.goto (-18), 3) := by decide +kernel
theorem dX5_lowBits_23 : decode cX5_lowBits 23 = .ok (.iload_n 2, 1) := by decide +kernel
theorem dX5_lowBits_24 : decode cX5_lowBits 24 = .ok (.ireturn, 1) := by decide +kernel
theorem dX5_highLength_0 : decode cX5_highLength 0 = .ok (.iload_n 0, 1) := by decide +kernel
theorem dX5_highLength_1 : decode cX5_highLength 1 = .ok (.iload_n 1, 1) := by decide +kernel
theorem dX5_highLength_2 : decode cX5_highLength 2 = .ok (.iconst 1, 1) := by decide +kernel
theorem dX5_highLength_3 : decode cX5_highLength 3 = .ok (.isub, 1) := by decide +kernel
theorem dX5_highLength_4 : decode cX5_highLength 4 = .ok (.iload_n 2, 1) := by decide +kernel
theorem dX5_highLength_5 : decode cX5_highLength 5 = .ok (.ishr, 1) := by decide +kernel
theorem dX5_highLength_6 : decode cX5_highLength 6 = .ok (.iadd, 1) := by decide +kernel
theorem dX5_highLength_7 : decode cX5_highLength 7 = .ok (.iconst 1, 1) := by decide +kernel
theorem dX5_highLength_8 : decode cX5_highLength 8 = .ok (.iadd, 1) := by decide +kernel
theorem dX5_highLength_9 : decode cX5_highLength 9 = .ok (.ireturn, 1) := by decide +kernel
theorem dX5_bestSize_0 : decode cX5_bestSize 0 = .ok (.iload_n 0, 1) := by decide +kernel
theorem dX5_bestSize_1 : decode cX5_bestSize 1 = .ok (.iload_n 1, 1) := by decide +kernel
theorem dX5_bestSize_2 : decode cX5_bestSize 2 = .ok (.if_icmp .ne 6, 3) := by decide +kernel
theorem dX5_bestSize_5 : decode cX5_bestSize 5 = .ok (.bipush 26, 2) := by decide +kernel
theorem dX5_bestSize_7 : decode cX5_bestSize 7 = .ok (.ireturn, 1) := by decide +kernel
theorem dX5_bestSize_8 : decode cX5_bestSize 8 = .ok (.iload_n 0, 1) := by decide +kernel
theorem dX5_bestSize_9 : decode cX5_bestSize 9 = .ok (.iload_n 1, 1) := by decide +kernel
theorem dX5_bestSize_10 : decode cX5_bestSize 10 = .ok (.invokestatic 11, 3) := by decide +kernel
theorem dX5_bestSize_13 : decode cX5_bestSize 13 = .ok (.istore_n 2, 1) := by decide +kernel
theorem dX5_bestSize_14 : decode cX5_bestSize 14 = .ok (.iload_n 0, 1) := by decide +kernel
theorem dX5_bestSize_15 : decode cX5_bestSize 15 = .ok (.iload_n 1, 1) := by decide +kernel
theorem dX5_bestSize_16 : decode cX5_bestSize 16 = .ok (.iload_n 2, 1) := by decide +kernel
theorem dX5_bestSize_17 : decode cX5_bestSize 17 = .ok (.invokestatic 15, 3) := by decide +kernel
theorem dX5_bestSize_20 : decode cX5_bestSize 20 = .ok (.iload_n 0, 1) := by decide +kernel
theorem dX5_bestSize_21 : decode cX5_bestSize 21 = .ok (.iload_n 2, 1) := by decide +kernel
theorem dX5_bestSize_22 : decode cX5_bestSize 22 = .ok (.imul, 1) := by decide +kernel
theorem dX5_bestSize_23 : decode cX5_bestSize 23 = .ok (.iadd, 1) := by decide +kernel
theorem dX5_bestSize_24 : decode cX5_bestSize 24 = .ok (.istore_n 3, 1) := by decide +kernel
theorem dX5_bestSize_25 : decode cX5_bestSize 25 = .ok (.bipush 26, 2) := by decide +kernel
theorem dX5_bestSize_27 : decode cX5_bestSize 27 = .ok (.iload_n 3, 1) := by decide +kernel
theorem dX5_bestSize_28 : decode cX5_bestSize 28 = .ok (.iload_n 1, 1) := by decide +kernel
theorem dX5_bestSize_29 : decode cX5_bestSize 29 = .ok (.if_icmp .ge 7, 3) := by decide +kernel
theorem dX5_bestSize_32 : decode cX5_bestSize 32 = .ok (.iload_n 3, 1) := by decide +kernel
theorem dX5_bestSize_33 : decode cX5_bestSize 33 = .ok (.goto 4, 3) := by decide +kernel
theorem dX5_bestSize_36 : decode cX5_bestSize 36 = .ok (.iload_n 1, 1) := by decide +kernel
theorem dX5_bestSize_37 : decode cX5_bestSize 37 = .ok (.iadd, 1) := by decide +kernel
theorem dX5_bestSize_38 : decode cX5_bestSize 38 = .ok (.ireturn, 1) := by decide +kernel
theorem dX5_bestKind_0 : decode cX5_bestKind 0 = .ok (.iload_n 0, 1) := by decide +kernel
theorem dX5_bestKind_1 : decode cX5_bestKind 1 = .ok (.iload_n 1, 1) := by decide +kernel
theorem dX5_bestKind_2 : decode cX5_bestKind 2 = .ok (.if_icmp .ne 5, 3) := by decide +kernel
theorem dX5_bestKind_5 : decode cX5_bestKind 5 = .ok (.iconst 0, 1) := by decide +kernel
theorem dX5_bestKind_6 : decode cX5_bestKind 6 = .ok (.ireturn, 1) := by decide +kernel
theorem dX5_bestKind_7 : decode cX5_bestKind 7 = .ok (.iload_n 2, 1) := by decide +kernel
theorem dX5_bestKind_8 : decode cX5_bestKind 8 = .ok (.bipush 26, 2) := by decide +kernel
theorem dX5_bestKind_10 : decode cX5_bestKind 10 = .ok (.iload_n 1, 1) := by decide +kernel
theorem dX5_bestKind_11 : decode cX5_bestKind 11 = .ok (.iadd, 1) := by decide +kernel
theorem dX5_bestKind_12 : decode cX5_bestKind 12 = .ok (.if_icmp .ge 7, 3) := by decide +kernel
theorem dX5_bestKind_15 : decode cX5_bestKind 15 = .ok (.iconst 2, 1) := by decide +kernel
theorem dX5_bestKind_16 : decode cX5_bestKind 16 = .ok (.goto 4, 3) := by decide +kernel
theorem dX5_bestKind_19 : decode cX5_bestKind 19 = .ok (.iconst 1, 1) := by decide +kernel
theorem dX5_bestKind_20 : decode cX5_bestKind 20 = .ok (.ireturn, 1) := by decide +kernel
theorem dX6_init_0 : decode cX6_init 0 = .ok (.aload_n 0, 1) := by decide +kernel
theorem dX6_init_1 : decode cX6_init 1 = .ok (.invokespecial 3, 3) := by decide +kernel
theorem dX6_init_4 : decode cX6_init 4 = .ok (.aload_n 0, 1) := by decide +kernel
theorem dX6_init_5 : decode cX6_init 5 = .ok (.iconst 4, 1) := by decide +kernel
theorem dX6_init_6 : decode cX6_init 6 = .ok (.anewarray 9, 3) := by decide +kernel
theorem dX6_init_9 : decode cX6_init 9 = .ok (.putfield 11, 3) := by decide +kernel
theorem dX6_init_12 : decode cX6_init 12 = .ok (.aload_n 0, 1) := by decide +kernel
theorem dX6_init_13 : decode cX6_init 13 = .ok (.new 17, 3) := by decide +kernel
theorem dX6_init_16 : decode cX6_init 16 = .ok (.dup, 1) := by decide +kernel
theorem dX6_init_17 : decode cX6_init 17 = .ok (.invokespecial 19, 3) := by decide +kernel
theorem dX6_init_20 : decode cX6_init 20 = .ok (.putfield 20, 3) := by decide +kernel
theorem dX6_init_23 : decode cX6_init 23 = .ok (.aload_n 0, 1) := by decide +kernel
theorem dX6_init_24 : decode cX6_init 24 = .ok (.iconst 0, 1) := by decide +kernel
theorem dX6_init_25 : decode cX6_init 25 = .ok (.putfield 24, 3) := by decide +kernel
theorem dX6_init_28 : decode cX6_init 28 = .ok (.aload_n 0, 1) := by decide +kernel
theorem dX6_init_29 : decode cX6_init 29 = .ok (.iconst 0, 1) := by decide +kernel
theorem dX6_init_30 : decode cX6_init 30 = .ok (.putfield 28, 3) := by decide +kernel
theorem dX6_init_33 : decode cX6_init 33 = .ok (.iconst 0, 1) := by decide +kernel
theorem dX6_init_34 : decode cX6_init 34 = .ok (.istore_n 1, 1) := by decide +kernel
theorem dX6_init_35 : decode cX6_init 35 = .ok (.iload_n 1, 1) := by decide +kernel
theorem dX6_init_36 : decode cX6_init 36 = .ok (.iconst 4, 1) := by decide +kernel
theorem dX6_init_37 : decode cX6_init 37 = .ok (.if_icmp .ge 22, 3) := by decide +kernel
theorem dX6_init_40 : decode cX6_init 40 = .ok (.aload_n 0, 1) := by decide +kernel
theorem dX6_init_41 : decode cX6_init 41 = .ok (.getfield 11, 3) := by decide +kernel
theorem dX6_init_44 : decode cX6_init 44 = .ok (.iload_n 1, 1) := by decide +kernel
theorem dX6_init_45 : decode cX6_init 45 = .ok (.new 9, 3) := by decide +kernel
theorem dX6_init_48 : decode cX6_init 48 = .ok (.dup, 1) := by decide +kernel
theorem dX6_init_49 : decode cX6_init 49 = .ok (.invokespecial 31, 3) := by decide +kernel
theorem dX6_init_52 : decode cX6_init 52 = .ok (.aastore, 1) := by decide +kernel
theorem dX6_init_53 : decode cX6_init 53 = .ok (.iinc 1 1, 3) := by decide +kernel
theorem dX6_init_56 : decode cX6_init 56 = .ok (.goto (-21), 3) := by decide +kernel
theorem dX6_init_59 : decode cX6_init 59 = .ok (.return_, 1) := by decide +kernel
theorem dX6_copyFrom_0 : decode cX6_copyFrom 0 = .ok (.iconst 0, 1) := by decide +kernel
theorem dX6_copyFrom_1 : decode cX6_copyFrom 1 = .ok (.istore_n 2, 1) := by decide +kernel
theorem dX6_copyFrom_2 : decode cX6_copyFrom 2 = .ok (.iload_n 2, 1) := by decide +kernel
theorem dX6_copyFrom_3 : decode cX6_copyFrom 3 = .ok (.iconst 4, 1) := by decide +kernel
theorem dX6_copyFrom_4 : decode cX6_copyFrom 4 = .ok (.if_icmp .ge 24, 3) := by decide +kernel
theorem dX6_copyFrom_7 : decode cX6_copyFrom 7 = .ok (.aload_n 0, 1) := by decide +kernel
theorem dX6_copyFrom_8 : decode cX6_copyFrom 8 = .ok (.getfield 11, 3) := by decide +kernel
theorem dX6_copyFrom_11 : decode cX6_copyFrom 11 = .ok (.iload_n 2, 1) := by decide +kernel
theorem dX6_copyFrom_12 : decode cX6_copyFrom 12 = .ok (.aaload, 1) := by decide +kernel
theorem dX6_copyFrom_13 : decode cX6_copyFrom 13 = .ok (.aload_n 1, 1) := by decide +kernel
theorem dX6_copyFrom_14 : decode cX6_copyFrom 14 = .ok (.getfield 11, 3) := by decide +kernel
theorem dX6_copyFrom_17 : decode cX6_copyFrom 17 = .ok (.iload_n 2, 1) := by decide +kernel
theorem dX6_copyFrom_18 : decode cX6_copyFrom 18 = .ok (.aaload, 1) := by decide +kernel
theorem dX6_copyFrom_19 : decode cX6_copyFrom 19 = .ok (.invokevirtual 32, 3) := by decide +kernel
theorem dX6_copyFrom_22 : decode cX6_copyFrom 22 = .ok (.iinc 2 1, 3) := by decide +kernel
theorem dX6_copyFrom_25 : decode cX6_copyFrom 25 = .ok (.goto (-23), 3) := by decide +kernel
theorem dX6_copyFrom_28 : decode cX6_copyFrom 28 = .ok (.aload_n 0, 1) := by decide +kernel
theorem dX6_copyFrom_29 : decode cX6_copyFrom 29 = .ok (.getfield 20, 3) := by decide +kernel
theorem dX6_copyFrom_32 : decode cX6_copyFrom 32 = .ok (.aload_n 1, 1) := by decide +kernel
theorem dX6_copyFrom_33 : decode cX6_copyFrom 33 = .ok (.getfield 20, 3) := by decide +kernel
theorem dX6_copyFrom_36 : decode cX6_copyFrom 36 = .ok (.invokevirtual 36, 3) := by decide +kernel
theorem dX6_copyFrom_39 : decode cX6_copyFrom 39 = .ok (.aload_n 0, 1) := by decide +kernel
theorem dX6_copyFrom_40 : decode cX6_copyFrom 40 = .ok (.aload_n 1, 1) := by decide +kernel
theorem dX6_copyFrom_41 : decode cX6_copyFrom 41 = .ok (.getfield 24, 3) := by decide +kernel
theorem dX6_copyFrom_44 : decode cX6_copyFrom 44 = .ok (.putfield 24, 3) := by decide +kernel
theorem dX6_copyFrom_47 : decode cX6_copyFrom 47 = .ok (.aload_n 0, 1) := by decide +kernel
theorem dX6_copyFrom_48 : decode cX6_copyFrom 48 = .ok (.aload_n 1, 1) := by decide +kernel
theorem dX6_copyFrom_49 : decode cX6_copyFrom 49 = .ok (.getfield 28, 3) := by decide +kernel
theorem dX6_copyFrom_52 : decode cX6_copyFrom 52 = .ok (.putfield 28, 3) := by decide +kernel
theorem dX6_copyFrom_55 : decode cX6_copyFrom 55 = .ok (.return_, 1) := by decide +kernel
theorem dX6_query_0 : decode cX6_query 0 = .ok (.aload_n 0, 1) := by decide +kernel
theorem dX6_query_1 : decode cX6_query 1 = .ok (.getfield 11, 3) := by decide +kernel
theorem dX6_query_4 : decode cX6_query 4 = .ok (.iload_n 1, 1) := by decide +kernel
theorem dX6_query_5 : decode cX6_query 5 = .ok (.aaload, 1) := by decide +kernel
theorem dX6_query_6 : decode cX6_query 6 = .ok (.astore_n 3, 1) := by decide +kernel
theorem dX6_query_7 : decode cX6_query 7 = .ok (.iconst 0, 1) := by decide +kernel
theorem dX6_query_8 : decode cX6_query 8 = .ok (.istore 4, 2) := by decide +kernel
theorem dX6_query_10 : decode cX6_query 10 = .ok (.iload 4, 2) := by decide +kernel
theorem dX6_query_12 : decode cX6_query 12 = .ok (.aload_n 3, 1) := by decide +kernel
theorem dX6_query_13 : decode cX6_query 13 = .ok (.getfield 39, 3) := by decide +kernel
theorem dX6_query_16 : decode cX6_query 16 = .ok (.if_icmp .ge 59, 3) := by decide +kernel
theorem dX6_query_19 : decode cX6_query 19 = .ok (.aload_n 0, 1) := by decide +kernel
theorem dX6_query_20 : decode cX6_query 20 = .ok (.dup, 1) := by decide +kernel
theorem dX6_query_21 : decode cX6_query 21 = .ok (.getfield 24, 3) := by decide +kernel
theorem dX6_query_24 : decode cX6_query 24 = .ok (.iconst 1, 1) := by decide +kernel
theorem dX6_query_25 : decode cX6_query 25 = .ok (.iadd, 1) := by decide +kernel
theorem dX6_query_26 : decode cX6_query 26 = .ok (.putfield 24, 3) := by decide +kernel
theorem dX6_query_29 : decode cX6_query 29 = .ok (.aload_n 3, 1) := by decide +kernel
theorem dX6_query_30 : decode cX6_query 30 = .ok (.iload 4, 2) := by decide +kernel
theorem dX6_query_32 : decode cX6_query 32 = .ok (.iconst 3, 1) := by decide +kernel
theorem dX6_query_33 : decode cX6_query 33 = .ok (.invokevirtual 42, 3) := by decide +kernel
theorem dX6_query_36 : decode cX6_query 36 = .ok (.iload_n 2, 1) := by decide +kernel
theorem dX6_query_37 : decode cX6_query 37 = .ok (.if_icmp .lt 32, 3) := by decide +kernel
theorem dX6_query_40 : decode cX6_query 40 = .ok (.aload_n 3, 1) := by decide +kernel
theorem dX6_query_41 : decode cX6_query 41 = .ok (.iload 4, 2) := by decide +kernel
theorem dX6_query_43 : decode cX6_query 43 = .ok (.iconst 2, 1) := by decide +kernel
theorem dX6_query_44 : decode cX6_query 44 = .ok (.invokevirtual 42, 3) := by decide +kernel
theorem dX6_query_47 : decode cX6_query 47 = .ok (.istore 5, 2) := by decide +kernel
theorem dX6_query_49 : decode cX6_query 49 = .ok (.iload_n 2, 1) := by decide +kernel
theorem dX6_query_50 : decode cX6_query 50 = .ok (.iload 5, 2) := by decide +kernel
theorem dX6_query_52 : decode cX6_query 52 = .ok (.if_icmp .gt 8, 3) := by decide +kernel
theorem dX6_query_55 : decode cX6_query 55 = .ok (.iload 5, 2) := by decide +kernel
theorem dX6_query_57 : decode cX6_query 57 = .ok (.goto 11, 3) := by decide +kernel
theorem dX6_query_60 : decode cX6_query 60 = .ok (.aload_n 0, 1) := by decide +kernel
theorem dX6_query_61 : decode cX6_query 61 = .ok (.iload_n 1, 1) := by decide +kernel
theorem dX6_query_62 : decode cX6_query 62 = .ok (.iload 4, 2) := by decide +kernel
theorem dX6_query_64 : decode cX6_query 64 = .ok (.iload_n 2, 1) := by decide +kernel
theorem dX6_query_65 : decode cX6_query 65 = .ok (.invokevirtual 46, 3) := by decide +kernel
theorem dX6_query_68 : decode cX6_query 68 = .ok (.ireturn, 1) := by decide +kernel
theorem dX6_query_69 : decode cX6_query 69 = .ok (.iinc 4 1, 3) := by decide +kernel
theorem dX6_query_72 : decode cX6_query 72 = .ok (.goto (-62), 3) := by decide +kernel
theorem dX6_query_75 : decode cX6_query 75 = .ok (.iconst (-1), 1) := by decide +kernel
theorem dX6_query_76 : decode cX6_query 76 = .ok (.ireturn, 1) := by decide +kernel
theorem dX6_queryInside_0 : decode cX6_queryInside 0 = .ok (.aload_n 0, 1) := by decide +kernel
theorem dX6_queryInside_1 : decode cX6_queryInside 1 = .ok (.getfield 11, 3) := by decide +kernel
theorem dX6_queryInside_4 : decode cX6_queryInside 4 = .ok (.iload_n 1, 1) := by decide +kernel
theorem dX6_queryInside_5 : decode cX6_queryInside 5 = .ok (.aaload, 1) := by decide +kernel
theorem dX6_queryInside_6 : decode cX6_queryInside 6 = .ok (.astore 4, 2) := by decide +kernel
theorem dX6_queryInside_8 : decode cX6_queryInside 8 = .ok (.aload 4, 2) := by decide +kernel
theorem dX6_queryInside_10 : decode cX6_queryInside 10 = .ok (.iload_n 3, 1) := by decide +kernel
theorem dX6_queryInside_11 : decode cX6_queryInside 11 = .ok (.invokevirtual 50, 3) := by decide +kernel
theorem dX6_queryInside_14 : decode cX6_queryInside 14 = .ok (.istore 5, 2) := by decide +kernel
theorem dX6_queryInside_16 : decode cX6_queryInside 16 = .ok (.aload_n 0, 1) := by decide +kernel
theorem dX6_queryInside_17 : decode cX6_queryInside 17 = .ok (.getfield 20, 3) := by decide +kernel
theorem dX6_queryInside_20 : decode cX6_queryInside 20 = .ok (.bipush 100, 2) := by decide +kernel
theorem dX6_queryInside_22 : decode cX6_queryInside 22 = .ok (.iload_n 1, 1) := by decide +kernel
theorem dX6_queryInside_23 : decode cX6_queryInside 23 = .ok (.imul, 1) := by decide +kernel
theorem dX6_queryInside_24 : decode cX6_queryInside 24 = .ok (.iload_n 2, 1) := by decide +kernel
theorem dX6_queryInside_25 : decode cX6_queryInside 25 = .ok (.iadd, 1) := by decide +kernel
theorem dX6_queryInside_26 : decode cX6_queryInside 26 = .ok (.invokevirtual 54, 3) := by decide +kernel
theorem dX6_queryInside_29 : decode cX6_queryInside 29 = .ok (.ifCond .eq 16, 3) := by decide +kernel
theorem dX6_queryInside_32 : decode cX6_queryInside 32 = .ok (.aload_n 0, 1) := by decide +kernel
theorem dX6_queryInside_33 : decode cX6_queryInside 33 = .ok (.dup, 1) := by decide +kernel
theorem dX6_queryInside_34 : decode cX6_queryInside 34 = .ok (.getfield 28, 3) := by decide +kernel
theorem dX6_queryInside_37 : decode cX6_queryInside 37 = .ok (.iconst 1, 1) := by decide +kernel
theorem dX6_queryInside_38 : decode cX6_queryInside 38 = .ok (.iadd, 1) := by decide +kernel
theorem dX6_queryInside_39 : decode cX6_queryInside 39 = .ok (.putfield 28, 3) := by decide +kernel
theorem dX6_queryInside_42 : decode cX6_queryInside 42 = .ok (.goto 21, 3) := by decide +kernel
theorem dX6_queryInside_45 : decode cX6_queryInside 45 = .ok (.aload_n 0, 1) := by decide +kernel
theorem dX6_queryInside_46 : decode cX6_queryInside 46 = .ok (.dup, 1) := by decide +kernel
theorem dX6_queryInside_47 : decode cX6_queryInside 47 = .ok (.getfield 24, 3) := by decide +kernel
theorem dX6_queryInside_50 : decode cX6_queryInside 50 = .ok (.aload 4, 2) := by decide +kernel
theorem dX6_queryInside_52 : decode cX6_queryInside 52 = .ok (.iload_n 2, 1) := by decide +kernel
theorem dX6_queryInside_53 : decode cX6_queryInside 53 = .ok (.iload_n 3, 1) := by decide +kernel
theorem dX6_queryInside_54 : decode cX6_queryInside 54 = .ok (.iload 5, 2) := by decide +kernel
theorem dX6_queryInside_56 : decode cX6_queryInside 56 = .ok (.invokevirtual 58, 3) := by decide +kernel
theorem dX6_queryInside_59 : decode cX6_queryInside 59 = .ok (.iadd, 1) := by decide +kernel
theorem dX6_queryInside_60 : decode cX6_queryInside 60 = .ok (.putfield 24, 3) := by decide +kernel
theorem dX6_queryInside_63 : decode cX6_queryInside 63 = .ok (.aload 4, 2) := by decide +kernel
theorem dX6_queryInside_65 : decode cX6_queryInside 65 = .ok (.iload 5, 2) := by decide +kernel
theorem dX6_queryInside_67 : decode cX6_queryInside 67 = .ok (.invokevirtual 61, 3) := by decide +kernel
theorem dX6_queryInside_70 : decode cX6_queryInside 70 = .ok (.ireturn, 1) := by decide +kernel
theorem dX7_init_0 : decode cX7_init 0 = .ok (.aload_n 0, 1) := by decide +kernel
theorem dX7_init_1 : decode cX7_init 1 = .ok (.invokespecial 3, 3) := by decide +kernel
theorem dX7_init_4 : decode cX7_init 4 = .ok (.aload_n 0, 1) := by decide +kernel
theorem dX7_init_5 : decode cX7_init 5 = .ok (.new 9, 3) := by decide +kernel
theorem dX7_init_8 : decode cX7_init 8 = .ok (.dup, 1) := by decide +kernel
theorem dX7_init_9 : decode cX7_init 9 = .ok (.invokespecial 11, 3) := by decide +kernel
theorem dX7_init_12 : decode cX7_init 12 = .ok (.putfield 12, 3) := by decide +kernel
theorem dX7_init_15 : decode cX7_init 15 = .ok (.aload_n 0, 1) := by decide +kernel
theorem dX7_init_16 : decode cX7_init 16 = .ok (.new 16, 3) := by decide +kernel
theorem dX7_init_19 : decode cX7_init 19 = .ok (.dup, 1) := by decide +kernel
theorem dX7_init_20 : decode cX7_init 20 = .ok (.invokespecial 18, 3) := by decide +kernel
theorem dX7_init_23 : decode cX7_init 23 = .ok (.putfield 19, 3) := by decide +kernel
theorem dX7_init_26 : decode cX7_init 26 = .ok (.aload_n 0, 1) := by decide +kernel
theorem dX7_init_27 : decode cX7_init 27 = .ok (.new 23, 3) := by decide +kernel
theorem dX7_init_30 : decode cX7_init 30 = .ok (.dup, 1) := by decide +kernel
theorem dX7_init_31 : decode cX7_init 31 = .ok (.invokespecial 25, 3) := by decide +kernel
theorem dX7_init_34 : decode cX7_init 34 = .ok (.putfield 26, 3) := by decide +kernel
theorem dX7_init_37 : decode cX7_init 37 = .ok (.aload_n 0, 1) := by decide +kernel
theorem dX7_init_38 : decode cX7_init 38 = .ok (.new 30, 3) := by decide +kernel
theorem dX7_init_41 : decode cX7_init 41 = .ok (.dup, 1) := by decide +kernel
theorem dX7_init_42 : decode cX7_init 42 = .ok (.invokespecial 32, 3) := by decide +kernel
theorem dX7_init_45 : decode cX7_init 45 = .ok (.putfield 33, 3) := by decide +kernel
theorem dX7_init_48 : decode cX7_init 48 = .ok (.aload_n 0, 1) := by decide +kernel
theorem dX7_init_49 : decode cX7_init 49 = .ok (.iconst 4, 1) := by decide +kernel
theorem dX7_init_50 : decode cX7_init 50 = .ok (.newarray .int, 2) := by decide +kernel
theorem dX7_init_52 : decode cX7_init 52 = .ok (.putfield 37, 3) := by decide +kernel
theorem dX7_init_55 : decode cX7_init 55 = .ok (.aload_n 0, 1) := by decide +kernel
theorem dX7_init_56 : decode cX7_init 56 = .ok (.sipush 128, 3) := by decide +kernel
theorem dX7_init_59 : decode cX7_init 59 = .ok (.newarray .int, 2) := by decide +kernel
theorem dX7_init_61 : decode cX7_init 61 = .ok (.putfield 41, 3) := by decide +kernel
theorem dX7_init_64 : decode cX7_init 64 = .ok (.return_, 1) := by decide +kernel
theorem dX7_append_0 : decode cX7_append 0 = .ok (.aload_n 0, 1) := by decide +kernel
theorem dX7_append_1 : decode cX7_append 1 = .ok (.iload_n 1, 1) := by decide +kernel
theorem dX7_append_2 : decode cX7_append 2 = .ok (.iload_n 2, 1) := by decide +kernel
theorem dX7_append_3 : decode cX7_append 3 = .ok (.iconst 1, 1) := by decide +kernel
theorem dX7_append_4 : decode cX7_append 4 = .ok (.iconst 1, 1) := by decide +kernel
theorem dX7_append_5 : decode cX7_append 5 = .ok (.invokevirtual 44, 3) := by decide +kernel
theorem dX7_append_8 : decode cX7_append 8 = .ok (.ireturn, 1) := by decide +kernel
theorem dX7_appendRange_0 : decode cX7_appendRange 0 = .ok (.aload_n 0, 1) := by decide +kernel
theorem dX7_appendRange_1 : decode cX7_appendRange 1 = .ok (.iload_n 1, 1) := by decide +kernel
theorem dX7_appendRange_2 : decode cX7_appendRange 2 = .ok (.invokevirtual 48, 3) := by decide +kernel
theorem dX7_appendRange_5 : decode cX7_appendRange 5 = .ok (.astore 5, 2) := by decide +kernel
theorem dX7_appendRange_7 : decode cX7_appendRange 7 = .ok (.iload_n 2, 1) := by decide +kernel
theorem dX7_appendRange_8 : decode cX7_appendRange 8 = .ok (.iload_n 3, 1) := by decide +kernel
theorem dX7_appendRange_9 : decode cX7_appendRange 9 = .ok (.iload 4, 2) := by decide +kernel
theorem dX7_appendRange_11 : decode cX7_appendRange 11 = .ok (.invokestatic 52, 3) := by decide +kernel
theorem dX7_appendRange_14 : decode cX7_appendRange 14 = .ok (.iload_n 2, 1) := by decide +kernel
theorem dX7_appendRange_15 : decode cX7_appendRange 15 = .ok (.aload 5, 2) := by decide +kernel
theorem dX7_appendRange_17 : decode cX7_appendRange 17 = .ok (.invokevirtual 56, 3) := by decide +kernel
theorem dX7_appendRange_20 : decode cX7_appendRange 20 = .ok (.if_icmp .gt 13, 3) := by decide +kernel
theorem dX7_appendRange_23 : decode cX7_appendRange 23 = .ok (.new 62, 3) := by decide +kernel
theorem dX7_appendRange_26 : decode cX7_appendRange 26 = .ok (.dup, 1) := by decide +kernel
theorem dX7_appendRange_27 : decode cX7_appendRange 27 = .ok (.ldc 64, 2) := by decide +kernel
theorem dX7_appendRange_29 : decode cX7_appendRange 29 = .ok (.invokespecial 66, 3) := by decide +kernel
theorem dX7_appendRange_32 : decode cX7_appendRange 32 = .ok (.athrow, 1) := by decide +kernel
theorem dX7_appendRange_33 : decode cX7_appendRange 33 = .ok (.aload 5, 2) := by decide +kernel
theorem dX7_appendRange_35 : decode cX7_appendRange 35 = .ok (.getfield 69, 3) := by decide +kernel
theorem dX7_appendRange_38 : decode cX7_appendRange 38 = .ok (.iload 4, 2) := by decide +kernel
theorem dX7_appendRange_40 : decode cX7_appendRange 40 = .ok (.iadd, 1) := by decide +kernel
theorem dX7_appendRange_41 : decode cX7_appendRange 41 = .ok (.bipush 64, 2) := by decide +kernel
theorem dX7_appendRange_43 : decode cX7_appendRange 43 = .ok (.if_icmp .le 13, 3) := by decide +kernel
theorem dX7_appendRange_46 : decode cX7_appendRange 46 = .ok (.new 73, 3) := by decide +kernel
theorem dX7_appendRange_49 : decode cX7_appendRange 49 = .ok (.dup, 1) := by decide +kernel
theorem dX7_appendRange_50 : decode cX7_appendRange 50 = .ok (.ldc 75, 2) := by decide +kernel
theorem dX7_appendRange_52 : decode cX7_appendRange 52 = .ok (.invokespecial 77, 3) := by decide +kernel
theorem dX7_appendRange_55 : decode cX7_appendRange 55 = .ok (.athrow, 1) := by decide +kernel
theorem dX7_appendRange_56 : decode cX7_appendRange 56 = .ok (.aload_n 0, 1) := by decide +kernel
theorem dX7_appendRange_57 : decode cX7_appendRange 57 = .ok (.getfield 19, 3) := by decide +kernel
theorem dX7_appendRange_60 : decode cX7_appendRange 60 = .ok (.aload_n 0, 1) := by decide +kernel
theorem dX7_appendRange_61 : decode cX7_appendRange 61 = .ok (.getfield 12, 3) := by decide +kernel
theorem dX7_appendRange_64 : decode cX7_appendRange 64 = .ok (.invokevirtual 78, 3) := by decide +kernel
theorem dX7_appendRange_67 : decode cX7_appendRange 67 = .ok (.iconst 0, 1) := by decide +kernel
theorem dX7_appendRange_68 : decode cX7_appendRange 68 = .ok (.istore 6, 2) := by decide +kernel
theorem dX7_appendRange_70 : decode cX7_appendRange 70 = .ok (.iload 6, 2) := by decide +kernel
theorem dX7_appendRange_72 : decode cX7_appendRange 72 = .ok (.iload 4, 2) := by decide +kernel
theorem dX7_appendRange_74 : decode cX7_appendRange 74 = .ok (.if_icmp .ge 20, 3) := by decide +kernel
theorem dX7_appendRange_77 : decode cX7_appendRange 77 = .ok (.aload 5, 2) := by decide +kernel
theorem dX7_appendRange_79 : decode cX7_appendRange 79 = .ok (.iload_n 2, 1) := by decide +kernel
theorem dX7_appendRange_80 : decode cX7_appendRange 80 = .ok (.iload 6, 2) := by decide +kernel
theorem dX7_appendRange_82 : decode cX7_appendRange 82 = .ok (.iload_n 3, 1) := by decide +kernel
theorem dX7_appendRange_83 : decode cX7_appendRange 83 = .ok (.imul, 1) := by decide +kernel
theorem dX7_appendRange_84 : decode cX7_appendRange 84 = .ok (.iadd, 1) := by decide +kernel
theorem dX7_appendRange_85 : decode cX7_appendRange 85 = .ok (.invokevirtual 82, 3) := by decide +kernel
theorem dX7_appendRange_88 : decode cX7_appendRange 88 = .ok (.iinc 6 1, 3) := by decide +kernel
theorem dX7_appendRange_91 : decode cX7_appendRange 91 = .ok (.goto (-21), 3) := by decide +kernel
theorem dX7_appendRange_94 : decode cX7_appendRange 94 = .ok (.aload_n 0, 1) := by decide +kernel
theorem dX7_appendRange_95 : decode cX7_appendRange 95 = .ok (.iload_n 1, 1) := by decide +kernel
theorem dX7_appendRange_96 : decode cX7_appendRange 96 = .ok (.invokevirtual 86, 3) := by decide +kernel
theorem dX7_appendRange_99 : decode cX7_appendRange 99 = .ok (.aload 5, 2) := by decide +kernel
theorem dX7_appendRange_101 : decode cX7_appendRange 101 = .ok (.getfield 69, 3) := by decide +kernel
theorem dX7_appendRange_104 : decode cX7_appendRange 104 = .ok (.ireturn, 1) := by decide +kernel
theorem dX7_clear_0 : decode cX7_clear 0 = .ok (.aload_n 0, 1) := by decide +kernel
theorem dX7_clear_1 : decode cX7_clear 1 = .ok (.iload_n 1, 1) := by decide +kernel
theorem dX7_clear_2 : decode cX7_clear 2 = .ok (.invokevirtual 48, 3) := by decide +kernel
theorem dX7_clear_5 : decode cX7_clear 5 = .ok (.getfield 69, 3) := by decide +kernel
theorem dX7_clear_8 : decode cX7_clear 8 = .ok (.istore_n 2, 1) := by decide +kernel
theorem dX7_clear_9 : decode cX7_clear 9 = .ok (.aload_n 0, 1) := by decide +kernel
theorem dX7_clear_10 : decode cX7_clear 10 = .ok (.getfield 19, 3) := by decide +kernel
theorem dX7_clear_13 : decode cX7_clear 13 = .ok (.aload_n 0, 1) := by decide +kernel
theorem dX7_clear_14 : decode cX7_clear 14 = .ok (.getfield 12, 3) := by decide +kernel
theorem dX7_clear_17 : decode cX7_clear 17 = .ok (.invokevirtual 78, 3) := by decide +kernel
theorem dX7_clear_20 : decode cX7_clear 20 = .ok (.aload_n 0, 1) := by decide +kernel
theorem dX7_clear_21 : decode cX7_clear 21 = .ok (.iload_n 1, 1) := by decide +kernel
theorem dX7_clear_22 : decode cX7_clear 22 = .ok (.iconst 0, 1) := by decide +kernel
theorem dX7_clear_23 : decode cX7_clear 23 = .ok (.invokevirtual 89, 3) := by decide +kernel
theorem dX7_clear_26 : decode cX7_clear 26 = .ok (.pop, 1) := by decide +kernel
theorem dX7_clear_27 : decode cX7_clear 27 = .ok (.iload_n 2, 1) := by decide +kernel
theorem dX7_clear_28 : decode cX7_clear 28 = .ok (.ireturn, 1) := by decide +kernel
theorem dX7_size_0 : decode cX7_size 0 = .ok (.aload_n 0, 1) := by decide +kernel
theorem dX7_size_1 : decode cX7_size 1 = .ok (.iload_n 1, 1) := by decide +kernel
theorem dX7_size_2 : decode cX7_size 2 = .ok (.invokevirtual 48, 3) := by decide +kernel
theorem dX7_size_5 : decode cX7_size 5 = .ok (.getfield 69, 3) := by decide +kernel
theorem dX7_size_8 : decode cX7_size 8 = .ok (.ireturn, 1) := by decide +kernel
theorem dX7_document_0 : decode cX7_document 0 = .ok (.aload_n 0, 1) := by decide +kernel
theorem dX7_document_1 : decode cX7_document 1 = .ok (.iload_n 1, 1) := by decide +kernel
theorem dX7_document_2 : decode cX7_document 2 = .ok (.invokevirtual 48, 3) := by decide +kernel
theorem dX7_document_5 : decode cX7_document 5 = .ok (.astore_n 3, 1) := by decide +kernel
theorem dX7_document_6 : decode cX7_document 6 = .ok (.iload_n 2, 1) := by decide +kernel
theorem dX7_document_7 : decode cX7_document 7 = .ok (.aload_n 3, 1) := by decide +kernel
theorem dX7_document_8 : decode cX7_document 8 = .ok (.getfield 69, 3) := by decide +kernel
theorem dX7_document_11 : decode cX7_document 11 = .ok (.invokestatic 93, 3) := by decide +kernel
theorem dX7_document_14 : decode cX7_document 14 = .ok (.aload_n 3, 1) := by decide +kernel
theorem dX7_document_15 : decode cX7_document 15 = .ok (.iload_n 2, 1) := by decide +kernel
theorem dX7_document_16 : decode cX7_document 16 = .ok (.invokevirtual 97, 3) := by decide +kernel
theorem dX7_document_19 : decode cX7_document 19 = .ok (.ireturn, 1) := by decide +kernel
theorem dX7_rank_0 : decode cX7_rank 0 = .ok (.aload_n 0, 1) := by decide +kernel
theorem dX7_rank_1 : decode cX7_rank 1 = .ok (.iload_n 1, 1) := by decide +kernel
theorem dX7_rank_2 : decode cX7_rank 2 = .ok (.invokevirtual 48, 3) := by decide +kernel
theorem dX7_rank_5 : decode cX7_rank 5 = .ok (.astore_n 3, 1) := by decide +kernel
theorem dX7_rank_6 : decode cX7_rank 6 = .ok (.iload_n 2, 1) := by decide +kernel
theorem dX7_rank_7 : decode cX7_rank 7 = .ok (.iconst 0, 1) := by decide +kernel
theorem dX7_rank_8 : decode cX7_rank 8 = .ok (.sipush 512, 3) := by decide +kernel
theorem dX7_rank_11 : decode cX7_rank 11 = .ok (.invokestatic 101, 3) := by decide +kernel
theorem dX7_rank_14 : decode cX7_rank 14 = .ok (.aload_n 3, 1) := by decide +kernel
theorem dX7_rank_15 : decode cX7_rank 15 = .ok (.iload_n 2, 1) := by decide +kernel
theorem dX7_rank_16 : decode cX7_rank 16 = .ok (.invokevirtual 104, 3) := by decide +kernel
theorem dX7_rank_19 : decode cX7_rank 19 = .ok (.ireturn, 1) := by decide +kernel
theorem dX7_partitions_0 : decode cX7_partitions 0 = .ok (.aload_n 0, 1) := by decide +kernel
theorem dX7_partitions_1 : decode cX7_partitions 1 = .ok (.iload_n 1, 1) := by decide +kernel
theorem dX7_partitions_2 : decode cX7_partitions 2 = .ok (.invokevirtual 48, 3) := by decide +kernel
theorem dX7_partitions_5 : decode cX7_partitions 5 = .ok (.getfield 107, 3) := by decide +kernel
theorem dX7_partitions_8 : decode cX7_partitions 8 = .ok (.ireturn, 1) := by decide +kernel
theorem dX7_partition_0 : decode cX7_partition 0 = .ok (.aload_n 0, 1) := by decide +kernel
theorem dX7_partition_1 : decode cX7_partition 1 = .ok (.iload_n 1, 1) := by decide +kernel
theorem dX7_partition_2 : decode cX7_partition 2 = .ok (.invokevirtual 48, 3) := by decide +kernel
theorem dX7_partition_5 : decode cX7_partition 5 = .ok (.astore 4, 2) := by decide +kernel
theorem dX7_partition_7 : decode cX7_partition 7 = .ok (.iload_n 2, 1) := by decide +kernel
theorem dX7_partition_8 : decode cX7_partition 8 = .ok (.aload 4, 2) := by decide +kernel
theorem dX7_partition_10 : decode cX7_partition 10 = .ok (.getfield 107, 3) := by decide +kernel
theorem dX7_partition_13 : decode cX7_partition 13 = .ok (.invokestatic 93, 3) := by decide +kernel
theorem dX7_partition_16 : decode cX7_partition 16 = .ok (.iload_n 3, 1) := by decide +kernel
theorem dX7_partition_17 : decode cX7_partition 17 = .ok (.iconst 0, 1) := by decide +kernel
theorem dX7_partition_18 : decode cX7_partition 18 = .ok (.iconst 5, 1) := by decide +kernel
theorem dX7_partition_19 : decode cX7_partition 19 = .ok (.invokestatic 101, 3) := by decide +kernel
theorem dX7_partition_22 : decode cX7_partition 22 = .ok (.aload 4, 2) := by decide +kernel
theorem dX7_partition_24 : decode cX7_partition 24 = .ok (.iload_n 2, 1) := by decide +kernel
theorem dX7_partition_25 : decode cX7_partition 25 = .ok (.iload_n 3, 1) := by decide +kernel
theorem dX7_partition_26 : decode cX7_partition 26 = .ok (.invokevirtual 110, 3) := by decide +kernel
theorem dX7_partition_29 : decode cX7_partition 29 = .ok (.ireturn, 1) := by decide +kernel
theorem dX7_codeLength_0 : decode cX7_codeLength 0 = .ok (.aload_n 0, 1) := by decide +kernel
theorem dX7_codeLength_1 : decode cX7_codeLength 1 = .ok (.iload_n 1, 1) := by decide +kernel
theorem dX7_codeLength_2 : decode cX7_codeLength 2 = .ok (.invokevirtual 48, 3) := by decide +kernel
theorem dX7_codeLength_5 : decode cX7_codeLength 5 = .ok (.invokevirtual 113, 3) := by decide +kernel
theorem dX7_codeLength_8 : decode cX7_codeLength 8 = .ok (.ireturn, 1) := by decide +kernel
theorem dX7_codeBit_0 : decode cX7_codeBit 0 = .ok (.aload_n 0, 1) := by decide +kernel
theorem dX7_codeBit_1 : decode cX7_codeBit 1 = .ok (.iload_n 1, 1) := by decide +kernel
theorem dX7_codeBit_2 : decode cX7_codeBit 2 = .ok (.invokevirtual 48, 3) := by decide +kernel
theorem dX7_codeBit_5 : decode cX7_codeBit 5 = .ok (.astore_n 3, 1) := by decide +kernel
theorem dX7_codeBit_6 : decode cX7_codeBit 6 = .ok (.iload_n 2, 1) := by decide +kernel
theorem dX7_codeBit_7 : decode cX7_codeBit 7 = .ok (.aload_n 3, 1) := by decide +kernel
theorem dX7_codeBit_8 : decode cX7_codeBit 8 = .ok (.invokevirtual 113, 3) := by decide +kernel
theorem dX7_codeBit_11 : decode cX7_codeBit 11 = .ok (.invokestatic 93, 3) := by decide +kernel
theorem dX7_codeBit_14 : decode cX7_codeBit 14 = .ok (.aload_n 0, 1) := by decide +kernel
theorem dX7_codeBit_15 : decode cX7_codeBit 15 = .ok (.getfield 33, 3) := by decide +kernel
theorem dX7_codeBit_18 : decode cX7_codeBit 18 = .ok (.aload_n 3, 1) := by decide +kernel
theorem dX7_codeBit_19 : decode cX7_codeBit 19 = .ok (.invokevirtual 116, 3) := by decide +kernel
theorem dX7_codeBit_22 : decode cX7_codeBit 22 = .ok (.aload_n 0, 1) := by decide +kernel
theorem dX7_codeBit_23 : decode cX7_codeBit 23 = .ok (.getfield 33, 3) := by decide +kernel
theorem dX7_codeBit_26 : decode cX7_codeBit 26 = .ok (.iload_n 2, 1) := by decide +kernel
theorem dX7_codeBit_27 : decode cX7_codeBit 27 = .ok (.invokevirtual 120, 3) := by decide +kernel
theorem dX7_codeBit_30 : decode cX7_codeBit 30 = .ok (.ireturn, 1) := by decide +kernel
theorem dX7_fixedLength_0 : decode cX7_fixedLength 0 = .ok (.aload_n 0, 1) := by decide +kernel
theorem dX7_fixedLength_1 : decode cX7_fixedLength 1 = .ok (.iload_n 1, 1) := by decide +kernel
theorem dX7_fixedLength_2 : decode cX7_fixedLength 2 = .ok (.invokevirtual 48, 3) := by decide +kernel
theorem dX7_fixedLength_5 : decode cX7_fixedLength 5 = .ok (.astore_n 3, 1) := by decide +kernel
theorem dX7_fixedLength_6 : decode cX7_fixedLength 6 = .ok (.iload_n 2, 1) := by decide +kernel
theorem dX7_fixedLength_7 : decode cX7_fixedLength 7 = .ok (.iconst 1, 1) := by decide +kernel
theorem dX7_fixedLength_8 : decode cX7_fixedLength 8 = .ok (.bipush 64, 2) := by decide +kernel
theorem dX7_fixedLength_10 : decode cX7_fixedLength 10 = .ok (.invokestatic 101, 3) := by decide +kernel
theorem dX7_fixedLength_13 : decode cX7_fixedLength 13 = .ok (.aload_n 3, 1) := by decide +kernel
theorem dX7_fixedLength_14 : decode cX7_fixedLength 14 = .ok (.iload_n 2, 1) := by decide +kernel
theorem dX7_fixedLength_15 : decode cX7_fixedLength 15 = .ok (.invokevirtual 123, 3) := by decide +kernel
theorem dX7_fixedLength_18 : decode cX7_fixedLength 18 = .ok (.ireturn, 1) := by decide +kernel
theorem dX7_bitsPerDocument_0 : decode cX7_bitsPerDocument 0 = .ok (.aload_n 0, 1) := by decide +kernel
theorem dX7_bitsPerDocument_1 : decode cX7_bitsPerDocument 1 = .ok (.iload_n 1, 1) := by decide +kernel
theorem dX7_bitsPerDocument_2 : decode cX7_bitsPerDocument 2 = .ok (.invokevirtual 48, 3) := by decide +kernel
theorem dX7_bitsPerDocument_5 : decode cX7_bitsPerDocument 5 = .ok (.astore_n 2, 1) := by decide +kernel
theorem dX7_bitsPerDocument_6 : decode cX7_bitsPerDocument 6 = .ok (.aload_n 2, 1) := by decide +kernel
theorem dX7_bitsPerDocument_7 : decode cX7_bitsPerDocument 7 = .ok (.getfield 69, 3) := by decide +kernel
theorem dX7_bitsPerDocument_10 : decode cX7_bitsPerDocument 10 = .ok (.ifCond .ne 5, 3) := by decide +kernel
theorem dX7_bitsPerDocument_13 : decode cX7_bitsPerDocument 13 = .ok (.dconst 0, 1) := by decide +kernel
theorem dX7_bitsPerDocument_14 : decode cX7_bitsPerDocument 14 = .ok (.dreturn, 1) := by decide +kernel
theorem dX7_bitsPerDocument_15 : decode cX7_bitsPerDocument 15 = .ok (.aload_n 2, 1) := by decide +kernel
theorem dX7_bitsPerDocument_16 : decode cX7_bitsPerDocument 16 = .ok (.invokevirtual 113, 3) := by decide +kernel
theorem dX7_bitsPerDocument_19 : decode cX7_bitsPerDocument 19 = .ok (.i2d, 1) := by decide +kernel
theorem dX7_bitsPerDocument_20 : decode cX7_bitsPerDocument 20 = .ok (.aload_n 2, 1) := by decide +kernel
theorem dX7_bitsPerDocument_21 : decode cX7_bitsPerDocument 21 = .ok (.getfield 69, 3) := by decide +kernel
theorem dX7_bitsPerDocument_24 : decode cX7_bitsPerDocument 24 = .ok (.i2d, 1) := by decide +kernel
theorem dX7_bitsPerDocument_25 : decode cX7_bitsPerDocument 25 = .ok (.ddiv, 1) := by decide +kernel
theorem dX7_bitsPerDocument_26 : decode cX7_bitsPerDocument 26 = .ok (.dreturn, 1) := by decide +kernel
theorem dX7_nextAtLeast_0 : decode cX7_nextAtLeast 0 = .ok (.iload_n 1, 1) := by decide +kernel
theorem dX7_nextAtLeast_1 : decode cX7_nextAtLeast 1 = .ok (.invokestatic 126, 3) := by decide +kernel
theorem dX7_nextAtLeast_4 : decode cX7_nextAtLeast 4 = .ok (.iload_n 2, 1) := by decide +kernel
theorem dX7_nextAtLeast_5 : decode cX7_nextAtLeast 5 = .ok (.iconst 0, 1) := by decide +kernel
theorem dX7_nextAtLeast_6 : decode cX7_nextAtLeast 6 = .ok (.sipush 511, 3) := by decide +kernel
theorem dX7_nextAtLeast_9 : decode cX7_nextAtLeast 9 = .ok (.invokestatic 101, 3) := by decide +kernel
theorem dX7_nextAtLeast_12 : decode cX7_nextAtLeast 12 = .ok (.aload_n 0, 1) := by decide +kernel
theorem dX7_nextAtLeast_13 : decode cX7_nextAtLeast 13 = .ok (.getfield 19, 3) := by decide +kernel
theorem dX7_nextAtLeast_16 : decode cX7_nextAtLeast 16 = .ok (.aload_n 0, 1) := by decide +kernel
theorem dX7_nextAtLeast_17 : decode cX7_nextAtLeast 17 = .ok (.getfield 12, 3) := by decide +kernel
theorem dX7_nextAtLeast_20 : decode cX7_nextAtLeast 20 = .ok (.invokevirtual 78, 3) := by decide +kernel
theorem dX7_nextAtLeast_23 : decode cX7_nextAtLeast 23 = .ok (.aload_n 0, 1) := by decide +kernel
theorem dX7_nextAtLeast_24 : decode cX7_nextAtLeast 24 = .ok (.getfield 12, 3) := by decide +kernel
theorem dX7_nextAtLeast_27 : decode cX7_nextAtLeast 27 = .ok (.iload_n 1, 1) := by decide +kernel
theorem dX7_nextAtLeast_28 : decode cX7_nextAtLeast 28 = .ok (.iload_n 2, 1) := by decide +kernel
theorem dX7_nextAtLeast_29 : decode cX7_nextAtLeast 29 = .ok (.invokevirtual 129, 3) := by decide +kernel
theorem dX7_nextAtLeast_32 : decode cX7_nextAtLeast 32 = .ok (.ireturn, 1) := by decide +kernel
theorem dX7_countIntersection_0 : decode cX7_countIntersection 0 = .ok (.iload_n 1, 1) := by decide +kernel
theorem dX7_countIntersection_1 : decode cX7_countIntersection 1 = .ok (.invokestatic 132, 3) := by decide +kernel
theorem dX7_countIntersection_4 : decode cX7_countIntersection 4 = .ok (.aload_n 0, 1) := by decide +kernel
theorem dX7_countIntersection_5 : decode cX7_countIntersection 5 = .ok (.getfield 19, 3) := by decide +kernel
theorem dX7_countIntersection_8 : decode cX7_countIntersection 8 = .ok (.aload_n 0, 1) := by decide +kernel
theorem dX7_countIntersection_9 : decode cX7_countIntersection 9 = .ok (.getfield 12, 3) := by decide +kernel
theorem dX7_countIntersection_12 : decode cX7_countIntersection 12 = .ok (.invokevirtual 78, 3) := by decide +kernel
theorem dX7_countIntersection_15 : decode cX7_countIntersection 15 = .ok (.aload_n 0, 1) := by decide +kernel
theorem dX7_countIntersection_16 : decode cX7_countIntersection 16 = .ok (.iload_n 1, 1) := by decide +kernel
theorem dX7_countIntersection_17 : decode cX7_countIntersection 17 = .ok (.invokevirtual 135, 3) := by decide +kernel
theorem dX7_countIntersection_20 : decode cX7_countIntersection 20 = .ok (.ireturn, 1) := by decide +kernel
theorem dX7_intersect_0 : decode cX7_intersect 0 = .ok (.iload_n 1, 1) := by decide +kernel
theorem dX7_intersect_1 : decode cX7_intersect 1 = .ok (.invokestatic 132, 3) := by decide +kernel
theorem dX7_intersect_4 : decode cX7_intersect 4 = .ok (.iload_n 2, 1) := by decide +kernel
theorem dX7_intersect_5 : decode cX7_intersect 5 = .ok (.invokestatic 126, 3) := by decide +kernel
theorem dX7_intersect_8 : decode cX7_intersect 8 = .ok (.aload_n 0, 1) := by decide +kernel
theorem dX7_intersect_9 : decode cX7_intersect 9 = .ok (.getfield 19, 3) := by decide +kernel
theorem dX7_intersect_12 : decode cX7_intersect 12 = .ok (.aload_n 0, 1) := by decide +kernel
theorem dX7_intersect_13 : decode cX7_intersect 13 = .ok (.getfield 12, 3) := by decide +kernel
theorem dX7_intersect_16 : decode cX7_intersect 16 = .ok (.invokevirtual 78, 3) := by decide +kernel
theorem dX7_intersect_19 : decode cX7_intersect 19 = .ok (.aload_n 0, 1) := by decide +kernel
theorem dX7_intersect_20 : decode cX7_intersect 20 = .ok (.iload_n 2, 1) := by decide +kernel
theorem dX7_intersect_21 : decode cX7_intersect 21 = .ok (.aload_n 0, 1) := by decide +kernel
theorem dX7_intersect_22 : decode cX7_intersect 22 = .ok (.iload_n 1, 1) := by decide +kernel
theorem dX7_intersect_23 : decode cX7_intersect 23 = .ok (.invokevirtual 135, 3) := by decide +kernel
theorem dX7_intersect_26 : decode cX7_intersect 26 = .ok (.invokevirtual 89, 3) := by decide +kernel
theorem dX7_intersect_29 : decode cX7_intersect 29 = .ok (.ireturn, 1) := by decide +kernel
theorem dX7_unite_0 : decode cX7_unite 0 = .ok (.iload_n 3, 1) := by decide +kernel
theorem dX7_unite_1 : decode cX7_unite 1 = .ok (.invokestatic 126, 3) := by decide +kernel
theorem dX7_unite_4 : decode cX7_unite 4 = .ok (.aload_n 0, 1) := by decide +kernel
theorem dX7_unite_5 : decode cX7_unite 5 = .ok (.aload_n 0, 1) := by decide +kernel
theorem dX7_unite_6 : decode cX7_unite 6 = .ok (.iload_n 1, 1) := by decide +kernel
theorem dX7_unite_7 : decode cX7_unite 7 = .ok (.invokevirtual 48, 3) := by decide +kernel
theorem dX7_unite_10 : decode cX7_unite 10 = .ok (.aload_n 0, 1) := by decide +kernel
theorem dX7_unite_11 : decode cX7_unite 11 = .ok (.iload_n 2, 1) := by decide +kernel
theorem dX7_unite_12 : decode cX7_unite 12 = .ok (.invokevirtual 48, 3) := by decide +kernel
theorem dX7_unite_15 : decode cX7_unite 15 = .ok (.invokevirtual 138, 3) := by decide +kernel
theorem dX7_unite_18 : decode cX7_unite 18 = .ok (.istore 4, 2) := by decide +kernel
theorem dX7_unite_20 : decode cX7_unite 20 = .ok (.iload 4, 2) := by decide +kernel
theorem dX7_unite_22 : decode cX7_unite 22 = .ok (.bipush 64, 2) := by decide +kernel
theorem dX7_unite_24 : decode cX7_unite 24 = .ok (.if_icmp .le 13, 3) := by decide +kernel
theorem dX7_unite_27 : decode cX7_unite 27 = .ok (.new 73, 3) := by decide +kernel
theorem dX7_unite_30 : decode cX7_unite 30 = .ok (.dup, 1) := by decide +kernel
theorem dX7_unite_31 : decode cX7_unite 31 = .ok (.ldc 142, 2) := by decide +kernel
theorem dX7_unite_33 : decode cX7_unite 33 = .ok (.invokespecial 77, 3) := by decide +kernel
theorem dX7_unite_36 : decode cX7_unite 36 = .ok (.athrow, 1) := by decide +kernel
theorem dX7_unite_37 : decode cX7_unite 37 = .ok (.aload_n 0, 1) := by decide +kernel
theorem dX7_unite_38 : decode cX7_unite 38 = .ok (.getfield 19, 3) := by decide +kernel
theorem dX7_unite_41 : decode cX7_unite 41 = .ok (.aload_n 0, 1) := by decide +kernel
theorem dX7_unite_42 : decode cX7_unite 42 = .ok (.getfield 12, 3) := by decide +kernel
theorem dX7_unite_45 : decode cX7_unite 45 = .ok (.invokevirtual 78, 3) := by decide +kernel
theorem dX7_unite_48 : decode cX7_unite 48 = .ok (.aload_n 0, 1) := by decide +kernel
theorem dX7_unite_49 : decode cX7_unite 49 = .ok (.iload_n 3, 1) := by decide +kernel
theorem dX7_unite_50 : decode cX7_unite 50 = .ok (.iload 4, 2) := by decide +kernel
theorem dX7_unite_52 : decode cX7_unite 52 = .ok (.invokevirtual 89, 3) := by decide +kernel
theorem dX7_unite_55 : decode cX7_unite 55 = .ok (.ireturn, 1) := by decide +kernel
theorem dX7_subtract_0 : decode cX7_subtract 0 = .ok (.iload_n 3, 1) := by decide +kernel
theorem dX7_subtract_1 : decode cX7_subtract 1 = .ok (.invokestatic 126, 3) := by decide +kernel
theorem dX7_subtract_4 : decode cX7_subtract 4 = .ok (.aload_n 0, 1) := by decide +kernel
theorem dX7_subtract_5 : decode cX7_subtract 5 = .ok (.aload_n 0, 1) := by decide +kernel
theorem dX7_subtract_6 : decode cX7_subtract 6 = .ok (.iload_n 1, 1) := by decide +kernel
theorem dX7_subtract_7 : decode cX7_subtract 7 = .ok (.invokevirtual 48, 3) := by decide +kernel
theorem dX7_subtract_10 : decode cX7_subtract 10 = .ok (.aload_n 0, 1) := by decide +kernel
theorem dX7_subtract_11 : decode cX7_subtract 11 = .ok (.iload_n 2, 1) := by decide +kernel
theorem dX7_subtract_12 : decode cX7_subtract 12 = .ok (.invokevirtual 48, 3) := by decide +kernel
theorem dX7_subtract_15 : decode cX7_subtract 15 = .ok (.invokevirtual 144, 3) := by decide +kernel
theorem dX7_subtract_18 : decode cX7_subtract 18 = .ok (.istore 4, 2) := by decide +kernel
theorem dX7_subtract_20 : decode cX7_subtract 20 = .ok (.aload_n 0, 1) := by decide +kernel
theorem dX7_subtract_21 : decode cX7_subtract 21 = .ok (.getfield 19, 3) := by decide +kernel
theorem dX7_subtract_24 : decode cX7_subtract 24 = .ok (.aload_n 0, 1) := by decide +kernel
theorem dX7_subtract_25 : decode cX7_subtract 25 = .ok (.getfield 12, 3) := by decide +kernel
theorem dX7_subtract_28 : decode cX7_subtract 28 = .ok (.invokevirtual 78, 3) := by decide +kernel
theorem dX7_subtract_31 : decode cX7_subtract 31 = .ok (.aload_n 0, 1) := by decide +kernel
theorem dX7_subtract_32 : decode cX7_subtract 32 = .ok (.iload_n 3, 1) := by decide +kernel
theorem dX7_subtract_33 : decode cX7_subtract 33 = .ok (.iload 4, 2) := by decide +kernel
theorem dX7_subtract_35 : decode cX7_subtract 35 = .ok (.invokevirtual 89, 3) := by decide +kernel
theorem dX7_subtract_38 : decode cX7_subtract 38 = .ok (.ireturn, 1) := by decide +kernel
theorem dX7_reads_0 : decode cX7_reads 0 = .ok (.aload_n 0, 1) := by decide +kernel
theorem dX7_reads_1 : decode cX7_reads 1 = .ok (.getfield 12, 3) := by decide +kernel
theorem dX7_reads_4 : decode cX7_reads 4 = .ok (.getfield 147, 3) := by decide +kernel
theorem dX7_reads_7 : decode cX7_reads 7 = .ok (.ireturn, 1) := by decide +kernel
theorem dX7_hits_0 : decode cX7_hits 0 = .ok (.aload_n 0, 1) := by decide +kernel
theorem dX7_hits_1 : decode cX7_hits 1 = .ok (.getfield 12, 3) := by decide +kernel
theorem dX7_hits_4 : decode cX7_hits 4 = .ok (.getfield 150, 3) := by decide +kernel
theorem dX7_hits_7 : decode cX7_hits 7 = .ok (.ireturn, 1) := by decide +kernel
theorem dX7_setCapacity_0 : decode cX7_setCapacity 0 = .ok (.iload_n 1, 1) := by decide +kernel
theorem dX7_setCapacity_1 : decode cX7_setCapacity 1 = .ok (.iconst 0, 1) := by decide +kernel
theorem dX7_setCapacity_2 : decode cX7_setCapacity 2 = .ok (.bipush 8, 2) := by decide +kernel
theorem dX7_setCapacity_4 : decode cX7_setCapacity 4 = .ok (.invokestatic 101, 3) := by decide +kernel
theorem dX7_setCapacity_7 : decode cX7_setCapacity 7 = .ok (.aload_n 0, 1) := by decide +kernel
theorem dX7_setCapacity_8 : decode cX7_setCapacity 8 = .ok (.getfield 19, 3) := by decide +kernel
theorem dX7_setCapacity_11 : decode cX7_setCapacity 11 = .ok (.aload_n 0, 1) := by decide +kernel
theorem dX7_setCapacity_12 : decode cX7_setCapacity 12 = .ok (.getfield 12, 3) := by decide +kernel
theorem dX7_setCapacity_15 : decode cX7_setCapacity 15 = .ok (.invokevirtual 78, 3) := by decide +kernel
theorem dX7_setCapacity_18 : decode cX7_setCapacity 18 = .ok (.aload_n 0, 1) := by decide +kernel
theorem dX7_setCapacity_19 : decode cX7_setCapacity 19 = .ok (.getfield 12, 3) := by decide +kernel
theorem dX7_setCapacity_22 : decode cX7_setCapacity 22 = .ok (.getfield 153, 3) := by decide +kernel
theorem dX7_setCapacity_25 : decode cX7_setCapacity 25 = .ok (.getfield 157, 3) := by decide +kernel
theorem dX7_setCapacity_28 : decode cX7_setCapacity 28 = .ok (.istore_n 2, 1) := by decide +kernel
theorem dX7_setCapacity_29 : decode cX7_setCapacity 29 = .ok (.aload_n 0, 1) := by decide +kernel
theorem dX7_setCapacity_30 : decode cX7_setCapacity 30 = .ok (.getfield 12, 3) := by decide +kernel
theorem dX7_setCapacity_33 : decode cX7_setCapacity 33 = .ok (.getfield 153, 3) := by decide +kernel
theorem dX7_setCapacity_36 : decode cX7_setCapacity 36 = .ok (.iload_n 1, 1) := by decide +kernel
theorem dX7_setCapacity_37 : decode cX7_setCapacity 37 = .ok (.invokevirtual 162, 3) := by decide +kernel
theorem dX7_setCapacity_40 : decode cX7_setCapacity 40 = .ok (.iload_n 2, 1) := by decide +kernel
theorem dX7_setCapacity_41 : decode cX7_setCapacity 41 = .ok (.ireturn, 1) := by decide +kernel
theorem dX7_cached_0 : decode cX7_cached 0 = .ok (.aload_n 0, 1) := by decide +kernel
theorem dX7_cached_1 : decode cX7_cached 1 = .ok (.getfield 12, 3) := by decide +kernel
theorem dX7_cached_4 : decode cX7_cached 4 = .ok (.getfield 153, 3) := by decide +kernel
theorem dX7_cached_7 : decode cX7_cached 7 = .ok (.getfield 165, 3) := by decide +kernel
theorem dX7_cached_10 : decode cX7_cached 10 = .ok (.ireturn, 1) := by decide +kernel
theorem dX7_cachedAt_0 : decode cX7_cachedAt 0 = .ok (.iload_n 1, 1) := by decide +kernel
theorem dX7_cachedAt_1 : decode cX7_cachedAt 1 = .ok (.aload_n 0, 1) := by decide +kernel
theorem dX7_cachedAt_2 : decode cX7_cachedAt 2 = .ok (.getfield 12, 3) := by decide +kernel
theorem dX7_cachedAt_5 : decode cX7_cachedAt 5 = .ok (.getfield 153, 3) := by decide +kernel
theorem dX7_cachedAt_8 : decode cX7_cachedAt 8 = .ok (.getfield 165, 3) := by decide +kernel
theorem dX7_cachedAt_11 : decode cX7_cachedAt 11 = .ok (.invokestatic 93, 3) := by decide +kernel
theorem dX7_cachedAt_14 : decode cX7_cachedAt 14 = .ok (.aload_n 0, 1) := by decide +kernel
theorem dX7_cachedAt_15 : decode cX7_cachedAt 15 = .ok (.getfield 12, 3) := by decide +kernel
theorem dX7_cachedAt_18 : decode cX7_cachedAt 18 = .ok (.getfield 153, 3) := by decide +kernel
theorem dX7_cachedAt_21 : decode cX7_cachedAt 21 = .ok (.getfield 166, 3) := by decide +kernel
theorem dX7_cachedAt_24 : decode cX7_cachedAt 24 = .ok (.iload_n 1, 1) := by decide +kernel
theorem dX7_cachedAt_25 : decode cX7_cachedAt 25 = .ok (.iaload, 1) := by decide +kernel
theorem dX7_cachedAt_26 : decode cX7_cachedAt 26 = .ok (.ireturn, 1) := by decide +kernel
theorem dX7_undo_0 : decode cX7_undo 0 = .ok (.aload_n 0, 1) := by decide +kernel
theorem dX7_undo_1 : decode cX7_undo 1 = .ok (.getfield 19, 3) := by decide +kernel
theorem dX7_undo_4 : decode cX7_undo 4 = .ok (.getfield 169, 3) := by decide +kernel
theorem dX7_undo_7 : decode cX7_undo 7 = .ok (.ifCond .ne 13, 3) := by decide +kernel
theorem dX7_undo_10 : decode cX7_undo 10 = .ok (.new 73, 3) := by decide +kernel
theorem dX7_undo_13 : decode cX7_undo 13 = .ok (.dup, 1) := by decide +kernel
theorem dX7_undo_14 : decode cX7_undo 14 = .ok (.ldc 170, 2) := by decide +kernel
theorem dX7_undo_16 : decode cX7_undo 16 = .ok (.invokespecial 77, 3) := by decide +kernel
theorem dX7_undo_19 : decode cX7_undo 19 = .ok (.athrow, 1) := by decide +kernel
theorem dX7_undo_20 : decode cX7_undo 20 = .ok (.aload_n 0, 1) := by decide +kernel
theorem dX7_undo_21 : decode cX7_undo 21 = .ok (.getfield 19, 3) := by decide +kernel
theorem dX7_undo_24 : decode cX7_undo 24 = .ok (.aload_n 0, 1) := by decide +kernel
theorem dX7_undo_25 : decode cX7_undo 25 = .ok (.getfield 12, 3) := by decide +kernel
theorem dX7_undo_28 : decode cX7_undo 28 = .ok (.invokevirtual 172, 3) := by decide +kernel
theorem dX7_undo_31 : decode cX7_undo 31 = .ok (.aload_n 0, 1) := by decide +kernel
theorem dX7_undo_32 : decode cX7_undo 32 = .ok (.getfield 19, 3) := by decide +kernel
theorem dX7_undo_35 : decode cX7_undo 35 = .ok (.getfield 169, 3) := by decide +kernel
theorem dX7_undo_38 : decode cX7_undo 38 = .ok (.ireturn, 1) := by decide +kernel
theorem dX7_digest_0 : decode cX7_digest 0 = .ok (.ldc2_w 175, 3) := by decide +kernel
theorem dX7_digest_3 : decode cX7_digest 3 = .ok (.lstore_n 1, 1) := by decide +kernel
theorem dX7_digest_4 : decode cX7_digest 4 = .ok (.iconst 0, 1) := by decide +kernel
theorem dX7_digest_5 : decode cX7_digest 5 = .ok (.istore_n 3, 1) := by decide +kernel
theorem dX7_digest_6 : decode cX7_digest 6 = .ok (.iload_n 3, 1) := by decide +kernel
theorem dX7_digest_7 : decode cX7_digest 7 = .ok (.iconst 4, 1) := by decide +kernel
theorem dX7_digest_8 : decode cX7_digest 8 = .ok (.if_icmp .ge 24, 3) := by decide +kernel
theorem dX7_digest_11 : decode cX7_digest 11 = .ok (.aload_n 0, 1) := by decide +kernel
theorem dX7_digest_12 : decode cX7_digest 12 = .ok (.lload_n 1, 1) := by decide +kernel
theorem dX7_digest_13 : decode cX7_digest 13 = .ok (.aload_n 0, 1) := by decide +kernel
theorem dX7_digest_14 : decode cX7_digest 14 = .ok (.getfield 12, 3) := by decide +kernel
theorem dX7_digest_17 : decode cX7_digest 17 = .ok (.getfield 177, 3) := by decide +kernel
theorem dX7_digest_20 : decode cX7_digest 20 = .ok (.iload_n 3, 1) := by decide +kernel
theorem dX7_digest_21 : decode cX7_digest 21 = .ok (.aaload, 1) := by decide +kernel
theorem dX7_digest_22 : decode cX7_digest 22 = .ok (.invokevirtual 181, 3) := by decide +kernel
theorem dX7_digest_25 : decode cX7_digest 25 = .ok (.lstore_n 1, 1) := by decide +kernel
theorem dX7_digest_26 : decode cX7_digest 26 = .ok (.iinc 3 1, 3) := by decide +kernel
theorem dX7_digest_29 : decode cX7_digest 29 = .ok (.goto (-23), 3) := by decide +kernel
theorem dX7_digest_32 : decode cX7_digest 32 = .ok (.lload_n 1, 1) := by decide +kernel
theorem dX7_digest_33 : decode cX7_digest 33 = .ok (.aload_n 0, 1) := by decide +kernel
theorem dX7_digest_34 : decode cX7_digest 34 = .ok (.getfield 12, 3) := by decide +kernel
theorem dX7_digest_37 : decode cX7_digest 37 = .ok (.getfield 153, 3) := by decide +kernel
theorem dX7_digest_40 : decode cX7_digest 40 = .ok (.getfield 157, 3) := by decide +kernel
theorem dX7_digest_43 : decode cX7_digest 43 = .ok (.invokestatic 185, 3) := by decide +kernel
theorem dX7_digest_46 : decode cX7_digest 46 = .ok (.lstore_n 1, 1) := by decide +kernel
theorem dX7_digest_47 : decode cX7_digest 47 = .ok (.lload_n 1, 1) := by decide +kernel
theorem dX7_digest_48 : decode cX7_digest 48 = .ok (.aload_n 0, 1) := by decide +kernel
theorem dX7_digest_49 : decode cX7_digest 49 = .ok (.getfield 12, 3) := by decide +kernel
theorem dX7_digest_52 : decode cX7_digest 52 = .ok (.getfield 153, 3) := by decide +kernel
theorem dX7_digest_55 : decode cX7_digest 55 = .ok (.getfield 165, 3) := by decide +kernel
theorem dX7_digest_58 : decode cX7_digest 58 = .ok (.invokestatic 185, 3) := by decide +kernel
theorem dX7_digest_61 : decode cX7_digest 61 = .ok (.lstore_n 1, 1) := by decide +kernel
theorem dX7_digest_62 : decode cX7_digest 62 = .ok (.lload_n 1, 1) := by decide +kernel
theorem dX7_digest_63 : decode cX7_digest 63 = .ok (.aload_n 0, 1) := by decide +kernel
theorem dX7_digest_64 : decode cX7_digest 64 = .ok (.getfield 12, 3) := by decide +kernel
theorem dX7_digest_67 : decode cX7_digest 67 = .ok (.getfield 153, 3) := by decide +kernel
theorem dX7_digest_70 : decode cX7_digest 70 = .ok (.getfield 166, 3) := by decide +kernel
theorem dX7_digest_73 : decode cX7_digest 73 = .ok (.aload_n 0, 1) := by decide +kernel
theorem dX7_digest_74 : decode cX7_digest 74 = .ok (.getfield 12, 3) := by decide +kernel
theorem dX7_digest_77 : decode cX7_digest 77 = .ok (.getfield 153, 3) := by decide +kernel
theorem dX7_digest_80 : decode cX7_digest 80 = .ok (.getfield 165, 3) := by decide +kernel
theorem dX7_digest_83 : decode cX7_digest 83 = .ok (.invokestatic 189, 3) := by decide +kernel
theorem dX7_digest_86 : decode cX7_digest 86 = .ok (.lstore_n 1, 1) := by decide +kernel
theorem dX7_digest_87 : decode cX7_digest 87 = .ok (.lload_n 1, 1) := by decide +kernel
theorem dX7_digest_88 : decode cX7_digest 88 = .ok (.aload_n 0, 1) := by decide +kernel
theorem dX7_digest_89 : decode cX7_digest 89 = .ok (.getfield 12, 3) := by decide +kernel
theorem dX7_digest_92 : decode cX7_digest 92 = .ok (.getfield 147, 3) := by decide +kernel
theorem dX7_digest_95 : decode cX7_digest 95 = .ok (.invokestatic 185, 3) := by decide +kernel
theorem dX7_digest_98 : decode cX7_digest 98 = .ok (.lstore_n 1, 1) := by decide +kernel
theorem dX7_digest_99 : decode cX7_digest 99 = .ok (.lload_n 1, 1) := by decide +kernel
theorem dX7_digest_100 : decode cX7_digest 100 = .ok (.aload_n 0, 1) := by decide +kernel
theorem dX7_digest_101 : decode cX7_digest 101 = .ok (.getfield 12, 3) := by decide +kernel
theorem dX7_digest_104 : decode cX7_digest 104 = .ok (.getfield 150, 3) := by decide +kernel
theorem dX7_digest_107 : decode cX7_digest 107 = .ok (.invokestatic 185, 3) := by decide +kernel
theorem dX7_digest_110 : decode cX7_digest 110 = .ok (.lstore_n 1, 1) := by decide +kernel
theorem dX7_digest_111 : decode cX7_digest 111 = .ok (.lload_n 1, 1) := by decide +kernel
theorem dX7_digest_112 : decode cX7_digest 112 = .ok (.aload_n 0, 1) := by decide +kernel
theorem dX7_digest_113 : decode cX7_digest 113 = .ok (.getfield 19, 3) := by decide +kernel
theorem dX7_digest_116 : decode cX7_digest 116 = .ok (.getfield 169, 3) := by decide +kernel
theorem dX7_digest_119 : decode cX7_digest 119 = .ok (.invokestatic 185, 3) := by decide +kernel
theorem dX7_digest_122 : decode cX7_digest 122 = .ok (.lreturn, 1) := by decide +kernel
theorem dX7_requireList_0 : decode cX7_requireList 0 = .ok (.iload_n 0, 1) := by decide +kernel
theorem dX7_requireList_1 : decode cX7_requireList 1 = .ok (.iconst 4, 1) := by decide +kernel
theorem dX7_requireList_2 : decode cX7_requireList 2 = .ok (.invokestatic 93, 3) := by decide +kernel
theorem dX7_requireList_5 : decode cX7_requireList 5 = .ok (.return_, 1) := by decide +kernel
theorem dX7_requireIndex_0 : decode cX7_requireIndex 0 = .ok (.iload_n 0, 1) := by decide +kernel
theorem dX7_requireIndex_1 : decode cX7_requireIndex 1 = .ok (.ifCond .lt 8, 3) := by decide +kernel
theorem dX7_requireIndex_4 : decode cX7_requireIndex 4 = .ok (.iload_n 0, 1) := by decide +kernel
theorem dX7_requireIndex_5 : decode cX7_requireIndex 5 = .ok (.iload_n 1, 1) := by decide +kernel
theorem dX7_requireIndex_6 : decode cX7_requireIndex 6 = .ok (.if_icmp .lt 13, 3) := by decide +kernel
theorem dX7_requireIndex_9 : decode cX7_requireIndex 9 = .ok (.new 193, 3) := by decide +kernel
theorem dX7_requireIndex_12 : decode cX7_requireIndex 12 = .ok (.dup, 1) := by decide +kernel
theorem dX7_requireIndex_13 : decode cX7_requireIndex 13 = .ok (.ldc 195, 2) := by decide +kernel
theorem dX7_requireIndex_15 : decode cX7_requireIndex 15 = .ok (.invokespecial 197, 3) := by decide +kernel
theorem dX7_requireIndex_18 : decode cX7_requireIndex 18 = .ok (.athrow, 1) := by decide +kernel
theorem dX7_requireIndex_19 : decode cX7_requireIndex 19 = .ok (.return_, 1) := by decide +kernel
theorem dX7_requireBetween_0 : decode cX7_requireBetween 0 = .ok (.iload_n 0, 1) := by decide +kernel
theorem dX7_requireBetween_1 : decode cX7_requireBetween 1 = .ok (.iload_n 1, 1) := by decide +kernel
theorem dX7_requireBetween_2 : decode cX7_requireBetween 2 = .ok (.if_icmp .lt 8, 3) := by decide +kernel
theorem dX7_requireBetween_5 : decode cX7_requireBetween 5 = .ok (.iload_n 0, 1) := by decide +kernel
theorem dX7_requireBetween_6 : decode cX7_requireBetween 6 = .ok (.iload_n 2, 1) := by decide +kernel
theorem dX7_requireBetween_7 : decode cX7_requireBetween 7 = .ok (.if_icmp .le 13, 3) := by decide +kernel
theorem dX7_requireBetween_10 : decode cX7_requireBetween 10 = .ok (.new 62, 3) := by decide +kernel
theorem dX7_requireBetween_13 : decode cX7_requireBetween 13 = .ok (.dup, 1) := by decide +kernel
theorem dX7_requireBetween_14 : decode cX7_requireBetween 14 = .ok (.ldc 198, 2) := by decide +kernel
theorem dX7_requireBetween_16 : decode cX7_requireBetween 16 = .ok (.invokespecial 66, 3) := by decide +kernel
theorem dX7_requireBetween_19 : decode cX7_requireBetween 19 = .ok (.athrow, 1) := by decide +kernel
theorem dX7_requireBetween_20 : decode cX7_requireBetween 20 = .ok (.return_, 1) := by decide +kernel
theorem dX7_requireRange_0 : decode cX7_requireRange 0 = .ok (.iload_n 0, 1) := by decide +kernel
theorem dX7_requireRange_1 : decode cX7_requireRange 1 = .ok (.iconst 0, 1) := by decide +kernel
theorem dX7_requireRange_2 : decode cX7_requireRange 2 = .ok (.sipush 511, 3) := by decide +kernel
theorem dX7_requireRange_5 : decode cX7_requireRange 5 = .ok (.invokestatic 101, 3) := by decide +kernel
theorem dX7_requireRange_8 : decode cX7_requireRange 8 = .ok (.iload_n 1, 1) := by decide +kernel
theorem dX7_requireRange_9 : decode cX7_requireRange 9 = .ok (.iconst 1, 1) := by decide +kernel
theorem dX7_requireRange_10 : decode cX7_requireRange 10 = .ok (.sipush 511, 3) := by decide +kernel
theorem dX7_requireRange_13 : decode cX7_requireRange 13 = .ok (.invokestatic 101, 3) := by decide +kernel
theorem dX7_requireRange_16 : decode cX7_requireRange 16 = .ok (.iload_n 2, 1) := by decide +kernel
theorem dX7_requireRange_17 : decode cX7_requireRange 17 = .ok (.iconst 1, 1) := by decide +kernel
theorem dX7_requireRange_18 : decode cX7_requireRange 18 = .ok (.bipush 64, 2) := by decide +kernel
theorem dX7_requireRange_20 : decode cX7_requireRange 20 = .ok (.invokestatic 101, 3) := by decide +kernel
theorem dX7_requireRange_23 : decode cX7_requireRange 23 = .ok (.iload_n 0, 1) := by decide +kernel
theorem dX7_requireRange_24 : decode cX7_requireRange 24 = .ok (.iload_n 1, 1) := by decide +kernel
theorem dX7_requireRange_25 : decode cX7_requireRange 25 = .ok (.iload_n 2, 1) := by decide +kernel
theorem dX7_requireRange_26 : decode cX7_requireRange 26 = .ok (.iconst 1, 1) := by decide +kernel
theorem dX7_requireRange_27 : decode cX7_requireRange 27 = .ok (.isub, 1) := by decide +kernel
theorem dX7_requireRange_28 : decode cX7_requireRange 28 = .ok (.imul, 1) := by decide +kernel
theorem dX7_requireRange_29 : decode cX7_requireRange 29 = .ok (.iadd, 1) := by decide +kernel
theorem dX7_requireRange_30 : decode cX7_requireRange 30 = .ok (.iconst 0, 1) := by decide +kernel
theorem dX7_requireRange_31 : decode cX7_requireRange 31 = .ok (.sipush 511, 3) := by decide +kernel
theorem dX7_requireRange_34 : decode cX7_requireRange 34 = .ok (.invokestatic 101, 3) := by decide +kernel
theorem dX7_requireRange_37 : decode cX7_requireRange 37 = .ok (.return_, 1) := by decide +kernel
theorem dX7_requireSet_0 : decode cX7_requireSet 0 = .ok (.iload_n 0, 1) := by decide +kernel
theorem dX7_requireSet_1 : decode cX7_requireSet 1 = .ok (.iconst 1, 1) := by decide +kernel
theorem dX7_requireSet_2 : decode cX7_requireSet 2 = .ok (.bipush 15, 2) := by decide +kernel
theorem dX7_requireSet_4 : decode cX7_requireSet 4 = .ok (.invokestatic 101, 3) := by decide +kernel
theorem dX7_requireSet_7 : decode cX7_requireSet 7 = .ok (.return_, 1) := by decide +kernel
theorem dX7_listAt_0 : decode cX7_listAt 0 = .ok (.iload_n 1, 1) := by decide +kernel
theorem dX7_listAt_1 : decode cX7_listAt 1 = .ok (.invokestatic 126, 3) := by decide +kernel
theorem dX7_listAt_4 : decode cX7_listAt 4 = .ok (.aload_n 0, 1) := by decide +kernel
theorem dX7_listAt_5 : decode cX7_listAt 5 = .ok (.getfield 12, 3) := by decide +kernel
theorem dX7_listAt_8 : decode cX7_listAt 8 = .ok (.getfield 177, 3) := by decide +kernel
theorem dX7_listAt_11 : decode cX7_listAt 11 = .ok (.iload_n 1, 1) := by decide +kernel
theorem dX7_listAt_12 : decode cX7_listAt 12 = .ok (.aaload, 1) := by decide +kernel
theorem dX7_listAt_13 : decode cX7_listAt 13 = .ok (.areturn, 1) := by decide +kernel
theorem dX7_recode_0 : decode cX7_recode 0 = .ok (.aload_n 0, 1) := by decide +kernel
theorem dX7_recode_1 : decode cX7_recode 1 = .ok (.getfield 26, 3) := by decide +kernel
theorem dX7_recode_4 : decode cX7_recode 4 = .ok (.aload_n 0, 1) := by decide +kernel
theorem dX7_recode_5 : decode cX7_recode 5 = .ok (.getfield 12, 3) := by decide +kernel
theorem dX7_recode_8 : decode cX7_recode 8 = .ok (.getfield 177, 3) := by decide +kernel
theorem dX7_recode_11 : decode cX7_recode 11 = .ok (.iload_n 1, 1) := by decide +kernel
theorem dX7_recode_12 : decode cX7_recode 12 = .ok (.aaload, 1) := by decide +kernel
theorem dX7_recode_13 : decode cX7_recode 13 = .ok (.invokevirtual 200, 3) := by decide +kernel
theorem dX7_recode_16 : decode cX7_recode 16 = .ok (.aload_n 0, 1) := by decide +kernel
theorem dX7_recode_17 : decode cX7_recode 17 = .ok (.getfield 12, 3) := by decide +kernel
theorem dX7_recode_20 : decode cX7_recode 20 = .ok (.getfield 153, 3) := by decide +kernel
theorem dX7_recode_23 : decode cX7_recode 23 = .ok (.iload_n 1, 1) := by decide +kernel
theorem dX7_recode_24 : decode cX7_recode 24 = .ok (.invokevirtual 203, 3) := by decide +kernel
theorem dX7_recode_27 : decode cX7_recode 27 = .ok (.return_, 1) := by decide +kernel
theorem dX7_writeResult_0 : decode cX7_writeResult 0 = .ok (.aload_n 0, 1) := by decide +kernel
theorem dX7_writeResult_1 : decode cX7_writeResult 1 = .ok (.getfield 12, 3) := by decide +kernel
theorem dX7_writeResult_4 : decode cX7_writeResult 4 = .ok (.getfield 177, 3) := by decide +kernel
theorem dX7_writeResult_7 : decode cX7_writeResult 7 = .ok (.iload_n 1, 1) := by decide +kernel
theorem dX7_writeResult_8 : decode cX7_writeResult 8 = .ok (.aaload, 1) := by decide +kernel
theorem dX7_writeResult_9 : decode cX7_writeResult 9 = .ok (.aload_n 0, 1) := by decide +kernel
theorem dX7_writeResult_10 : decode cX7_writeResult 10 = .ok (.getfield 41, 3) := by decide +kernel
theorem dX7_writeResult_13 : decode cX7_writeResult 13 = .ok (.iload_n 2, 1) := by decide +kernel
theorem dX7_writeResult_14 : decode cX7_writeResult 14 = .ok (.invokevirtual 206, 3) := by decide +kernel
theorem dX7_writeResult_17 : decode cX7_writeResult 17 = .ok (.aload_n 0, 1) := by decide +kernel
theorem dX7_writeResult_18 : decode cX7_writeResult 18 = .ok (.iload_n 1, 1) := by decide +kernel
theorem dX7_writeResult_19 : decode cX7_writeResult 19 = .ok (.invokevirtual 86, 3) := by decide +kernel
theorem dX7_writeResult_22 : decode cX7_writeResult 22 = .ok (.iload_n 2, 1) := by decide +kernel
theorem dX7_writeResult_23 : decode cX7_writeResult 23 = .ok (.ireturn, 1) := by decide +kernel
theorem dX7_mergeIntoResult_0 : decode cX7_mergeIntoResult 0 = .ok (.iconst 0, 1) := by decide +kernel
theorem dX7_mergeIntoResult_1 : decode cX7_mergeIntoResult 1 = .ok (.istore_n 3, 1) := by decide +kernel
theorem dX7_mergeIntoResult_2 : decode cX7_mergeIntoResult 2 = .ok (.iconst 0, 1) := by decide +kernel
theorem dX7_mergeIntoResult_3 : decode cX7_mergeIntoResult 3 = .ok (.istore 4, 2) := by decide +kernel
theorem dX7_mergeIntoResult_5 : decode cX7_mergeIntoResult 5 = .ok (.iconst 0, 1) := by decide +kernel
theorem dX7_mergeIntoResult_6 : decode cX7_mergeIntoResult 6 = .ok (.istore 5, 2) := by decide +kernel
theorem dX7_mergeIntoResult_8 : decode cX7_mergeIntoResult 8 = .ok (.iload 5, 2) := by decide +kernel
theorem dX7_mergeIntoResult_10 : decode cX7_mergeIntoResult 10 = .ok (.aload_n 0, 1) := by decide +kernel
theorem dX7_mergeIntoResult_11 : decode cX7_mergeIntoResult 11 = .ok (.getfield 41, 3) := by decide +kernel
theorem dX7_mergeIntoResult_14 : decode cX7_mergeIntoResult 14 = .ok (.arraylength, 1) := by decide +kernel
theorem dX7_mergeIntoResult_15 : decode cX7_mergeIntoResult 15 = .ok (.if_icmp .ge 123, 3) := by decide +kernel
theorem dX7_mergeIntoResult_18 : decode cX7_mergeIntoResult 18 = .ok (.iload_n 3, 1) := by decide +kernel
theorem dX7_mergeIntoResult_19 : decode cX7_mergeIntoResult 19 = .ok (.aload_n 1, 1) := by decide +kernel
theorem dX7_mergeIntoResult_20 : decode cX7_mergeIntoResult 20 = .ok (.getfield 69, 3) := by decide +kernel
theorem dX7_mergeIntoResult_23 : decode cX7_mergeIntoResult 23 = .ok (.if_icmp .lt 12, 3) := by decide +kernel
theorem dX7_mergeIntoResult_26 : decode cX7_mergeIntoResult 26 = .ok (.iload 4, 2) := by decide +kernel
theorem dX7_mergeIntoResult_28 : decode cX7_mergeIntoResult 28 = .ok (.aload_n 2, 1) := by decide +kernel
theorem dX7_mergeIntoResult_29 : decode cX7_mergeIntoResult 29 = .ok (.getfield 69, 3) := by decide +kernel
theorem dX7_mergeIntoResult_32 : decode cX7_mergeIntoResult 32 = .ok (.if_icmp .ge 106, 3) := by decide +kernel
theorem dX7_mergeIntoResult_35 : decode cX7_mergeIntoResult 35 = .ok (.iload_n 3, 1) := by decide +kernel
theorem dX7_mergeIntoResult_36 : decode cX7_mergeIntoResult 36 = .ok (.aload_n 1, 1) := by decide +kernel
theorem dX7_mergeIntoResult_37 : decode cX7_mergeIntoResult 37 = .ok (.getfield 69, 3) := by decide +kernel
theorem dX7_mergeIntoResult_40 : decode cX7_mergeIntoResult 40 = .ok (.if_icmp .ge 11, 3) := by decide +kernel
theorem dX7_mergeIntoResult_43 : decode cX7_mergeIntoResult 43 = .ok (.aload_n 1, 1) := by decide +kernel
theorem dX7_mergeIntoResult_44 : decode cX7_mergeIntoResult 44 = .ok (.iload_n 3, 1) := by decide +kernel
theorem dX7_mergeIntoResult_45 : decode cX7_mergeIntoResult 45 = .ok (.invokevirtual 97, 3) := by decide +kernel
theorem dX7_mergeIntoResult_48 : decode cX7_mergeIntoResult 48 = .ok (.goto 6, 3) := by decide +kernel
theorem dX7_mergeIntoResult_51 : decode cX7_mergeIntoResult 51 = .ok (.sipush 512, 3) := by decide +kernel
theorem dX7_mergeIntoResult_54 : decode cX7_mergeIntoResult 54 = .ok (.istore 6, 2) := by decide +kernel
theorem dX7_mergeIntoResult_56 : decode cX7_mergeIntoResult 56 = .ok (.iload 4, 2) := by decide +kernel
theorem dX7_mergeIntoResult_58 : decode cX7_mergeIntoResult 58 = .ok (.aload_n 2, 1) := by decide +kernel
theorem dX7_mergeIntoResult_59 : decode cX7_mergeIntoResult 59 = .ok (.getfield 69, 3) := by decide +kernel
theorem dX7_mergeIntoResult_62 : decode cX7_mergeIntoResult 62 = .ok (.if_icmp .ge 12, 3) := by decide +kernel
theorem dX7_mergeIntoResult_65 : decode cX7_mergeIntoResult 65 = .ok (.aload_n 2, 1) := by decide +kernel
theorem dX7_mergeIntoResult_66 : decode cX7_mergeIntoResult 66 = .ok (.iload 4, 2) := by decide +kernel
theorem dX7_mergeIntoResult_68 : decode cX7_mergeIntoResult 68 = .ok (.invokevirtual 97, 3) := by decide +kernel
theorem dX7_mergeIntoResult_71 : decode cX7_mergeIntoResult 71 = .ok (.goto 6, 3) := by decide +kernel
theorem dX7_mergeIntoResult_74 : decode cX7_mergeIntoResult 74 = .ok (.sipush 512, 3) := by decide +kernel
theorem dX7_mergeIntoResult_77 : decode cX7_mergeIntoResult 77 = .ok (.istore 7, 2) := by decide +kernel
theorem dX7_mergeIntoResult_79 : decode cX7_mergeIntoResult 79 = .ok (.aload_n 0, 1) := by decide +kernel
theorem dX7_mergeIntoResult_80 : decode cX7_mergeIntoResult 80 = .ok (.getfield 41, 3) := by decide +kernel
theorem dX7_mergeIntoResult_83 : decode cX7_mergeIntoResult 83 = .ok (.iload 5, 2) := by decide +kernel
theorem dX7_mergeIntoResult_85 : decode cX7_mergeIntoResult 85 = .ok (.iload 6, 2) := by decide +kernel
theorem dX7_mergeIntoResult_87 : decode cX7_mergeIntoResult 87 = .ok (.iload 7, 2) := by decide +kernel
theorem dX7_mergeIntoResult_89 : decode cX7_mergeIntoResult 89 = .ok (.if_icmp .gt 8, 3) := by decide +kernel
theorem dX7_mergeIntoResult_92 : decode cX7_mergeIntoResult 92 = .ok (.iload 6, 2) := by decide +kernel
theorem dX7_mergeIntoResult_94 : decode cX7_mergeIntoResult 94 = .ok (.goto 5, 3) := by decide +kernel
theorem dX7_mergeIntoResult_97 : decode cX7_mergeIntoResult 97 = .ok (.iload 7, 2) := by decide +kernel
theorem dX7_mergeIntoResult_99 : decode cX7_mergeIntoResult 99 = .ok (.iastore, 1) := by decide +kernel
theorem dX7_mergeIntoResult_100 : decode cX7_mergeIntoResult 100 = .ok (.iload_n 3, 1) := by decide +kernel
theorem dX7_mergeIntoResult_101 : decode cX7_mergeIntoResult 101 = .ok (.iload 6, 2) := by decide +kernel
theorem dX7_mergeIntoResult_103 : decode cX7_mergeIntoResult 103 = .ok (.iload 7, 2) := by decide +kernel
theorem dX7_mergeIntoResult_105 : decode cX7_mergeIntoResult 105 = .ok (.if_icmp .gt 7, 3) := by decide +kernel
theorem dX7_mergeIntoResult_108 : decode cX7_mergeIntoResult 108 = .ok (.iconst 1, 1) := by decide +kernel
theorem dX7_mergeIntoResult_109 : decode cX7_mergeIntoResult 109 = .ok (.goto 4, 3) := by decide +kernel
theorem dX7_mergeIntoResult_112 : decode cX7_mergeIntoResult 112 = .ok (.iconst 0, 1) := by decide +kernel
theorem dX7_mergeIntoResult_113 : decode cX7_mergeIntoResult 113 = .ok (.iadd, 1) := by decide +kernel
theorem dX7_mergeIntoResult_114 : decode cX7_mergeIntoResult 114 = .ok (.istore_n 3, 1) := by decide +kernel
theorem dX7_mergeIntoResult_115 : decode cX7_mergeIntoResult 115 = .ok (.iload 4, 2) := by decide +kernel
theorem dX7_mergeIntoResult_117 : decode cX7_mergeIntoResult 117 = .ok (.iload 7, 2) := by decide +kernel
theorem dX7_mergeIntoResult_119 : decode cX7_mergeIntoResult 119 = .ok (.iload 6, 2) := by decide +kernel
theorem dX7_mergeIntoResult_121 : decode cX7_mergeIntoResult 121 = .ok (.if_icmp .gt 7, 3) := by decide +kernel
theorem dX7_mergeIntoResult_124 : decode cX7_mergeIntoResult 124 = .ok (.iconst 1, 1) := by decide +kernel
theorem dX7_mergeIntoResult_125 : decode cX7_mergeIntoResult 125 = .ok (.goto 4, 3) := by decide +kernel
theorem dX7_mergeIntoResult_128 : decode cX7_mergeIntoResult 128 = .ok (.iconst 0, 1) := by decide +kernel
theorem dX7_mergeIntoResult_129 : decode cX7_mergeIntoResult 129 = .ok (.iadd, 1) := by decide +kernel
theorem dX7_mergeIntoResult_130 : decode cX7_mergeIntoResult 130 = .ok (.istore 4, 2) := by decide +kernel
theorem dX7_mergeIntoResult_132 : decode cX7_mergeIntoResult 132 = .ok (.iinc 5 1, 3) := by decide +kernel
theorem dX7_mergeIntoResult_135 : decode cX7_mergeIntoResult 135 = .ok (.goto (-127), 3) := by decide +kernel
theorem dX7_mergeIntoResult_138 : decode cX7_mergeIntoResult 138 = .ok (.iload 5, 2) := by decide +kernel
theorem dX7_mergeIntoResult_140 : decode cX7_mergeIntoResult 140 = .ok (.ireturn, 1) := by decide +kernel
theorem dX7_differenceIntoResult_0 : decode cX7_differenceIntoResult 0 = .ok (.iconst 0, 1) := by decide +kernel
theorem dX7_differenceIntoResult_1 : decode cX7_differenceIntoResult 1 = .ok (.istore_n 3, 1) := by decide +kernel
theorem dX7_differenceIntoResult_2 : decode cX7_differenceIntoResult 2 = .ok (.iconst 0, 1) := by decide +kernel
theorem dX7_differenceIntoResult_3 : decode cX7_differenceIntoResult 3 = .ok (.istore 4, 2) := by decide +kernel
theorem dX7_differenceIntoResult_5 : decode cX7_differenceIntoResult 5 = .ok (.iload 4, 2) := by decide +kernel
theorem dX7_differenceIntoResult_7 : decode cX7_differenceIntoResult 7 = .ok (.aload_n 1, 1) := by decide +kernel
theorem dX7_differenceIntoResult_8 : decode cX7_differenceIntoResult 8 = .ok (.getfield 69, 3) := by decide +kernel
theorem dX7_differenceIntoResult_11 : decode cX7_differenceIntoResult 11 = .ok (.if_icmp .ge 43, 3) := by decide +kernel
theorem dX7_differenceIntoResult_14 : decode cX7_differenceIntoResult 14 = .ok (.aload_n 1, 1) := by decide +kernel
theorem dX7_differenceIntoResult_15 : decode cX7_differenceIntoResult 15 = .ok (.iload 4, 2) := by decide +kernel
theorem dX7_differenceIntoResult_17 : decode cX7_differenceIntoResult 17 = .ok (.invokevirtual 97, 3) := by decide +kernel
theorem dX7_differenceIntoResult_20 : decode cX7_differenceIntoResult 20 = .ok (.istore 5, 2) := by decide +kernel
theorem dX7_differenceIntoResult_22 : decode cX7_differenceIntoResult 22 = .ok (.aload_n 2, 1) := by decide +kernel
theorem dX7_differenceIntoResult_23 : decode cX7_differenceIntoResult 23 = .ok (.aload_n 2, 1) := by decide +kernel
theorem dX7_differenceIntoResult_24 : decode cX7_differenceIntoResult 24 = .ok (.iload 5, 2) := by decide +kernel
theorem dX7_differenceIntoResult_26 : decode cX7_differenceIntoResult 26 = .ok (.invokevirtual 104, 3) := by decide +kernel
theorem dX7_differenceIntoResult_29 : decode cX7_differenceIntoResult 29 = .ok (.invokevirtual 97, 3) := by decide +kernel
theorem dX7_differenceIntoResult_32 : decode cX7_differenceIntoResult 32 = .ok (.iload 5, 2) := by decide +kernel
theorem dX7_differenceIntoResult_34 : decode cX7_differenceIntoResult 34 = .ok (.if_icmp .eq 14, 3) := by decide +kernel
theorem dX7_differenceIntoResult_37 : decode cX7_differenceIntoResult 37 = .ok (.aload_n 0, 1) := by decide +kernel
theorem dX7_differenceIntoResult_38 : decode cX7_differenceIntoResult 38 = .ok (.getfield 41, 3) := by decide +kernel
theorem dX7_differenceIntoResult_41 : decode cX7_differenceIntoResult 41 = .ok (.iload_n 3, 1) := by decide +kernel
theorem dX7_differenceIntoResult_42 : decode cX7_differenceIntoResult 42 = .ok (.iload 5, 2) := by decide +kernel
theorem dX7_differenceIntoResult_44 : decode cX7_differenceIntoResult 44 = .ok (.iastore, 1) := by decide +kernel
theorem dX7_differenceIntoResult_45 : decode cX7_differenceIntoResult 45 = .ok (.iinc 3 1, 3) := by decide +kernel
theorem dX7_differenceIntoResult_48 : decode cX7_differenceIntoResult 48 = .ok (.iinc 4 1, 3) := by decide +kernel
theorem dX7_differenceIntoResult_51 : decode cX7_differenceIntoResult 51 = .ok (.goto (-46), 3) := by decide +kernel
theorem dX7_differenceIntoResult_54 : decode cX7_differenceIntoResult 54 = .ok (.iload_n 3, 1) := by decide +kernel
theorem dX7_differenceIntoResult_55 : decode cX7_differenceIntoResult 55 = .ok (.ireturn, 1) := by decide +kernel
theorem dX7_findIntersection_0 : decode cX7_findIntersection 0 = .ok (.aload_n 0, 1) := by decide +kernel
theorem dX7_findIntersection_1 : decode cX7_findIntersection 1 = .ok (.iload_n 1, 1) := by decide +kernel
theorem dX7_findIntersection_2 : decode cX7_findIntersection 2 = .ok (.invokevirtual 210, 3) := by decide +kernel
theorem dX7_findIntersection_5 : decode cX7_findIntersection 5 = .ok (.istore_n 2, 1) := by decide +kernel
theorem dX7_findIntersection_6 : decode cX7_findIntersection 6 = .ok (.aload_n 0, 1) := by decide +kernel
theorem dX7_findIntersection_7 : decode cX7_findIntersection 7 = .ok (.getfield 37, 3) := by decide +kernel
theorem dX7_findIntersection_10 : decode cX7_findIntersection 10 = .ok (.iconst 0, 1) := by decide +kernel
theorem dX7_findIntersection_11 : decode cX7_findIntersection 11 = .ok (.iaload, 1) := by decide +kernel
theorem dX7_findIntersection_12 : decode cX7_findIntersection 12 = .ok (.istore_n 3, 1) := by decide +kernel
theorem dX7_findIntersection_13 : decode cX7_findIntersection 13 = .ok (.iconst 0, 1) := by decide +kernel
theorem dX7_findIntersection_14 : decode cX7_findIntersection 14 = .ok (.istore 4, 2) := by decide +kernel
theorem dX7_findIntersection_16 : decode cX7_findIntersection 16 = .ok (.aload_n 0, 1) := by decide +kernel
theorem dX7_findIntersection_17 : decode cX7_findIntersection 17 = .ok (.getfield 12, 3) := by decide +kernel
theorem dX7_findIntersection_20 : decode cX7_findIntersection 20 = .ok (.iload_n 3, 1) := by decide +kernel
theorem dX7_findIntersection_21 : decode cX7_findIntersection 21 = .ok (.iconst 0, 1) := by decide +kernel
theorem dX7_findIntersection_22 : decode cX7_findIntersection 22 = .ok (.invokevirtual 129, 3) := by decide +kernel
theorem dX7_findIntersection_25 : decode cX7_findIntersection 25 = .ok (.istore 5, 2) := by decide +kernel
theorem dX7_findIntersection_27 : decode cX7_findIntersection 27 = .ok (.iconst 0, 1) := by decide +kernel
theorem dX7_findIntersection_28 : decode cX7_findIntersection 28 = .ok (.istore 6, 2) := by decide +kernel
theorem dX7_findIntersection_30 : decode cX7_findIntersection 30 = .ok (.iload 6, 2) := by decide +kernel
theorem dX7_findIntersection_32 : decode cX7_findIntersection 32 = .ok (.bipush 64, 2) := by decide +kernel
theorem dX7_findIntersection_34 : decode cX7_findIntersection 34 = .ok (.if_icmp .ge 85, 3) := by decide +kernel
theorem dX7_findIntersection_37 : decode cX7_findIntersection 37 = .ok (.iload 5, 2) := by decide +kernel
theorem dX7_findIntersection_39 : decode cX7_findIntersection 39 = .ok (.iconst (-1), 1) := by decide +kernel
theorem dX7_findIntersection_40 : decode cX7_findIntersection 40 = .ok (.if_icmp .eq 79, 3) := by decide +kernel
theorem dX7_findIntersection_43 : decode cX7_findIntersection 43 = .ok (.aload_n 0, 1) := by decide +kernel
theorem dX7_findIntersection_44 : decode cX7_findIntersection 44 = .ok (.iload 5, 2) := by decide +kernel
theorem dX7_findIntersection_46 : decode cX7_findIntersection 46 = .ok (.iload_n 2, 1) := by decide +kernel
theorem dX7_findIntersection_47 : decode cX7_findIntersection 47 = .ok (.invokevirtual 213, 3) := by decide +kernel
theorem dX7_findIntersection_50 : decode cX7_findIntersection 50 = .ok (.istore 7, 2) := by decide +kernel
theorem dX7_findIntersection_52 : decode cX7_findIntersection 52 = .ok (.iload 7, 2) := by decide +kernel
theorem dX7_findIntersection_54 : decode cX7_findIntersection 54 = .ok (.iload 5, 2) := by decide +kernel
theorem dX7_findIntersection_56 : decode cX7_findIntersection 56 = .ok (.if_icmp .ne 35, 3) := by decide +kernel
theorem dX7_findIntersection_59 : decode cX7_findIntersection 59 = .ok (.aload_n 0, 1) := by decide +kernel
theorem dX7_findIntersection_60 : decode cX7_findIntersection 60 = .ok (.getfield 41, 3) := by decide +kernel
theorem dX7_findIntersection_63 : decode cX7_findIntersection 63 = .ok (.iload 4, 2) := by decide +kernel
theorem dX7_findIntersection_65 : decode cX7_findIntersection 65 = .ok (.iload 5, 2) := by decide +kernel
theorem dX7_findIntersection_67 : decode cX7_findIntersection 67 = .ok (.iastore, 1) := by decide +kernel
theorem dX7_findIntersection_68 : decode cX7_findIntersection 68 = .ok (.iinc 4 1, 3) := by decide +kernel
theorem dX7_findIntersection_71 : decode cX7_findIntersection 71 = .ok (.iload 5, 2) := by decide +kernel
theorem dX7_findIntersection_73 : decode cX7_findIntersection 73 = .ok (.iconst 1, 1) := by decide +kernel
theorem dX7_findIntersection_74 : decode cX7_findIntersection 74 = .ok (.iadd, 1) := by decide +kernel
theorem dX7_findIntersection_75 : decode cX7_findIntersection 75 = .ok (.sipush 512, 3) := by decide +kernel
theorem dX7_findIntersection_78 : decode cX7_findIntersection 78 = .ok (.if_icmp .ge 10, 3) := by decide +kernel
theorem dX7_findIntersection_81 : decode cX7_findIntersection 81 = .ok (.iload 5, 2) := by decide +kernel
theorem dX7_findIntersection_83 : decode cX7_findIntersection 83 = .ok (.iconst 1, 1) := by decide +kernel
theorem dX7_findIntersection_84 : decode cX7_findIntersection 84 = .ok (.iadd, 1) := by decide +kernel
theorem dX7_findIntersection_85 : decode cX7_findIntersection 85 = .ok (.goto 4, 3) := by decide +kernel
theorem dX7_findIntersection_88 : decode cX7_findIntersection 88 = .ok (.iconst (-1), 1) := by decide +kernel
theorem dX7_findIntersection_89 : decode cX7_findIntersection 89 = .ok (.istore 7, 2) := by decide +kernel
theorem dX7_findIntersection_91 : decode cX7_findIntersection 91 = .ok (.iload 7, 2) := by decide +kernel
theorem dX7_findIntersection_93 : decode cX7_findIntersection 93 = .ok (.iconst (-1), 1) := by decide +kernel
theorem dX7_findIntersection_94 : decode cX7_findIntersection 94 = .ok (.if_icmp .ne 7, 3) := by decide +kernel
theorem dX7_findIntersection_97 : decode cX7_findIntersection 97 = .ok (.iconst (-1), 1) := by decide +kernel
theorem dX7_findIntersection_98 : decode cX7_findIntersection 98 = .ok (.goto 13, 3) := by decide +kernel
theorem dX7_findIntersection_101 : decode cX7_findIntersection 101 = .ok (.aload_n 0, 1) := by decide +kernel
theorem dX7_findIntersection_102 : decode cX7_findIntersection 102 = .ok (.getfield 12, 3) := by decide +kernel
theorem dX7_findIntersection_105 : decode cX7_findIntersection 105 = .ok (.iload_n 3, 1) := by decide +kernel
theorem dX7_findIntersection_106 : decode cX7_findIntersection 106 = .ok (.iload 7, 2) := by decide +kernel
theorem dX7_findIntersection_108 : decode cX7_findIntersection 108 = .ok (.invokevirtual 129, 3) := by decide +kernel
theorem dX7_findIntersection_111 : decode cX7_findIntersection 111 = .ok (.istore 5, 2) := by decide +kernel
theorem dX7_findIntersection_113 : decode cX7_findIntersection 113 = .ok (.iinc 6 1, 3) := by decide +kernel
theorem dX7_findIntersection_116 : decode cX7_findIntersection 116 = .ok (.goto (-86), 3) := by decide +kernel
theorem dX7_findIntersection_119 : decode cX7_findIntersection 119 = .ok (.iload 4, 2) := by decide +kernel
theorem dX7_findIntersection_121 : decode cX7_findIntersection 121 = .ok (.ireturn, 1) := by decide +kernel
theorem dX7_askOthers_0 : decode cX7_askOthers 0 = .ok (.iload_n 1, 1) := by decide +kernel
theorem dX7_askOthers_1 : decode cX7_askOthers 1 = .ok (.istore_n 3, 1) := by decide +kernel
theorem dX7_askOthers_2 : decode cX7_askOthers 2 = .ok (.iconst 1, 1) := by decide +kernel
theorem dX7_askOthers_3 : decode cX7_askOthers 3 = .ok (.istore 4, 2) := by decide +kernel
theorem dX7_askOthers_5 : decode cX7_askOthers 5 = .ok (.iload 4, 2) := by decide +kernel
theorem dX7_askOthers_7 : decode cX7_askOthers 7 = .ok (.iload_n 2, 1) := by decide +kernel
theorem dX7_askOthers_8 : decode cX7_askOthers 8 = .ok (.if_icmp .ge 30, 3) := by decide +kernel
theorem dX7_askOthers_11 : decode cX7_askOthers 11 = .ok (.iload_n 3, 1) := by decide +kernel
theorem dX7_askOthers_12 : decode cX7_askOthers 12 = .ok (.iload_n 1, 1) := by decide +kernel
theorem dX7_askOthers_13 : decode cX7_askOthers 13 = .ok (.if_icmp .ne 25, 3) := by decide +kernel
theorem dX7_askOthers_16 : decode cX7_askOthers 16 = .ok (.aload_n 0, 1) := by decide +kernel
theorem dX7_askOthers_17 : decode cX7_askOthers 17 = .ok (.getfield 12, 3) := by decide +kernel
theorem dX7_askOthers_20 : decode cX7_askOthers 20 = .ok (.aload_n 0, 1) := by decide +kernel
theorem dX7_askOthers_21 : decode cX7_askOthers 21 = .ok (.getfield 37, 3) := by decide +kernel
theorem dX7_askOthers_24 : decode cX7_askOthers 24 = .ok (.iload 4, 2) := by decide +kernel
theorem dX7_askOthers_26 : decode cX7_askOthers 26 = .ok (.iaload, 1) := by decide +kernel
theorem dX7_askOthers_27 : decode cX7_askOthers 27 = .ok (.iload_n 1, 1) := by decide +kernel
theorem dX7_askOthers_28 : decode cX7_askOthers 28 = .ok (.invokevirtual 129, 3) := by decide +kernel
theorem dX7_askOthers_31 : decode cX7_askOthers 31 = .ok (.istore_n 3, 1) := by decide +kernel
theorem dX7_askOthers_32 : decode cX7_askOthers 32 = .ok (.iinc 4 1, 3) := by decide +kernel
theorem dX7_askOthers_35 : decode cX7_askOthers 35 = .ok (.goto (-30), 3) := by decide +kernel
theorem dX7_askOthers_38 : decode cX7_askOthers 38 = .ok (.iload_n 3, 1) := by decide +kernel
theorem dX7_askOthers_39 : decode cX7_askOthers 39 = .ok (.ireturn, 1) := by decide +kernel
theorem dX7_orderLists_0 : decode cX7_orderLists 0 = .ok (.iconst 0, 1) := by decide +kernel
theorem dX7_orderLists_1 : decode cX7_orderLists 1 = .ok (.istore_n 2, 1) := by decide +kernel
theorem dX7_orderLists_2 : decode cX7_orderLists 2 = .ok (.iconst 0, 1) := by decide +kernel
theorem dX7_orderLists_3 : decode cX7_orderLists 3 = .ok (.istore_n 3, 1) := by decide +kernel
theorem dX7_orderLists_4 : decode cX7_orderLists 4 = .ok (.iload_n 3, 1) := by decide +kernel
theorem dX7_orderLists_5 : decode cX7_orderLists 5 = .ok (.iconst 4, 1) := by decide +kernel
theorem dX7_orderLists_6 : decode cX7_orderLists 6 = .ok (.if_icmp .ge 93, 3) := by decide +kernel
theorem dX7_orderLists_9 : decode cX7_orderLists 9 = .ok (.iload_n 1, 1) := by decide +kernel
theorem dX7_orderLists_10 : decode cX7_orderLists 10 = .ok (.iload_n 3, 1) := by decide +kernel
theorem dX7_orderLists_11 : decode cX7_orderLists 11 = .ok (.ishr, 1) := by decide +kernel
theorem dX7_orderLists_12 : decode cX7_orderLists 12 = .ok (.iconst 1, 1) := by decide +kernel
theorem dX7_orderLists_13 : decode cX7_orderLists 13 = .ok (.iand, 1) := by decide +kernel
theorem dX7_orderLists_14 : decode cX7_orderLists 14 = .ok (.ifCond .eq 79, 3) := by decide +kernel
theorem dX7_orderLists_17 : decode cX7_orderLists 17 = .ok (.iload_n 2, 1) := by decide +kernel
theorem dX7_orderLists_18 : decode cX7_orderLists 18 = .ok (.istore 4, 2) := by decide +kernel
theorem dX7_orderLists_20 : decode cX7_orderLists 20 = .ok (.iload 4, 2) := by decide +kernel
theorem dX7_orderLists_22 : decode cX7_orderLists 22 = .ok (.ifCond .le 60, 3) := by decide +kernel
theorem dX7_orderLists_25 : decode cX7_orderLists 25 = .ok (.aload_n 0, 1) := by decide +kernel
theorem dX7_orderLists_26 : decode cX7_orderLists 26 = .ok (.getfield 12, 3) := by decide +kernel
theorem dX7_orderLists_29 : decode cX7_orderLists 29 = .ok (.getfield 177, 3) := by decide +kernel
theorem dX7_orderLists_32 : decode cX7_orderLists 32 = .ok (.aload_n 0, 1) := by decide +kernel
theorem dX7_orderLists_33 : decode cX7_orderLists 33 = .ok (.getfield 37, 3) := by decide +kernel
theorem dX7_orderLists_36 : decode cX7_orderLists 36 = .ok (.iload 4, 2) := by decide +kernel
theorem dX7_orderLists_38 : decode cX7_orderLists 38 = .ok (.iconst 1, 1) := by decide +kernel
theorem dX7_orderLists_39 : decode cX7_orderLists 39 = .ok (.isub, 1) := by decide +kernel
theorem dX7_orderLists_40 : decode cX7_orderLists 40 = .ok (.iaload, 1) := by decide +kernel
theorem dX7_orderLists_41 : decode cX7_orderLists 41 = .ok (.aaload, 1) := by decide +kernel
theorem dX7_orderLists_42 : decode cX7_orderLists 42 = .ok (.getfield 69, 3) := by decide +kernel
theorem dX7_orderLists_45 : decode cX7_orderLists 45 = .ok (.aload_n 0, 1) := by decide +kernel
theorem dX7_orderLists_46 : decode cX7_orderLists 46 = .ok (.getfield 12, 3) := by decide +kernel
theorem dX7_orderLists_49 : decode cX7_orderLists 49 = .ok (.getfield 177, 3) := by decide +kernel
theorem dX7_orderLists_52 : decode cX7_orderLists 52 = .ok (.iload_n 3, 1) := by decide +kernel
theorem dX7_orderLists_53 : decode cX7_orderLists 53 = .ok (.aaload, 1) := by decide +kernel
theorem dX7_orderLists_54 : decode cX7_orderLists 54 = .ok (.getfield 69, 3) := by decide +kernel
theorem dX7_orderLists_57 : decode cX7_orderLists 57 = .ok (.if_icmp .le 25, 3) := by decide +kernel
theorem dX7_orderLists_60 : decode cX7_orderLists 60 = .ok (.aload_n 0, 1) := by decide +kernel
theorem dX7_orderLists_61 : decode cX7_orderLists 61 = .ok (.getfield 37, 3) := by decide +kernel
theorem dX7_orderLists_64 : decode cX7_orderLists 64 = .ok (.iload 4, 2) := by decide +kernel
theorem dX7_orderLists_66 : decode cX7_orderLists 66 = .ok (.aload_n 0, 1) := by decide +kernel
theorem dX7_orderLists_67 : decode cX7_orderLists 67 = .ok (.getfield 37, 3) := by decide +kernel
theorem dX7_orderLists_70 : decode cX7_orderLists 70 = .ok (.iload 4, 2) := by decide +kernel
theorem dX7_orderLists_72 : decode cX7_orderLists 72 = .ok (.iconst 1, 1) := by decide +kernel
theorem dX7_orderLists_73 : decode cX7_orderLists 73 = .ok (.isub, 1) := by decide +kernel
theorem dX7_orderLists_74 : decode cX7_orderLists 74 = .ok (.iaload, 1) := by decide +kernel
theorem dX7_orderLists_75 : decode cX7_orderLists 75 = .ok (.iastore, 1) := by decide +kernel
theorem dX7_orderLists_76 : decode cX7_orderLists 76 = .ok (.iinc 4 (-1), 3) := by decide +kernel
theorem dX7_orderLists_79 : decode cX7_orderLists 79 = .ok (.goto (-59), 3) := by decide +kernel
theorem dX7_orderLists_82 : decode cX7_orderLists 82 = .ok (.aload_n 0, 1) := by decide +kernel
theorem dX7_orderLists_83 : decode cX7_orderLists 83 = .ok (.getfield 37, 3) := by decide +kernel
theorem dX7_orderLists_86 : decode cX7_orderLists 86 = .ok (.iload 4, 2) := by decide +kernel
theorem dX7_orderLists_88 : decode cX7_orderLists 88 = .ok (.iload_n 3, 1) := by decide +kernel
theorem dX7_orderLists_89 : decode cX7_orderLists 89 = .ok (.iastore, 1) := by decide +kernel
theorem dX7_orderLists_90 : decode cX7_orderLists 90 = .ok (.iinc 2 1, 3) := by decide +kernel
theorem dX7_orderLists_93 : decode cX7_orderLists 93 = .ok (.iinc 3 1, 3) := by decide +kernel
theorem dX7_orderLists_96 : decode cX7_orderLists 96 = .ok (.goto (-92), 3) := by decide +kernel
theorem dX7_orderLists_99 : decode cX7_orderLists 99 = .ok (.iload_n 2, 1) := by decide +kernel
theorem dX7_orderLists_100 : decode cX7_orderLists 100 = .ok (.ireturn, 1) := by decide +kernel
theorem dX7_mix_0 : decode cX7_mix 0 = .ok (.ldc2_w 216, 3) := by decide +kernel
theorem dX7_mix_3 : decode cX7_mix 3 = .ok (.lload_n 0, 1) := by decide +kernel
theorem dX7_mix_4 : decode cX7_mix 4 = .ok (.lmul, 1) := by decide +kernel
theorem dX7_mix_5 : decode cX7_mix 5 = .ok (.iload_n 2, 1) := by decide +kernel
theorem dX7_mix_6 : decode cX7_mix 6 = .ok (.i2l, 1) := by decide +kernel
theorem dX7_mix_7 : decode cX7_mix 7 = .ok (.ladd, 1) := by decide +kernel
theorem dX7_mix_8 : decode cX7_mix 8 = .ok (.lreturn, 1) := by decide +kernel
theorem dX7_mixRow_0 : decode cX7_mixRow 0 = .ok (.lload_n 0, 1) := by decide +kernel
theorem dX7_mixRow_1 : decode cX7_mixRow 1 = .ok (.lstore 4, 2) := by decide +kernel
theorem dX7_mixRow_3 : decode cX7_mixRow 3 = .ok (.iconst 0, 1) := by decide +kernel
theorem dX7_mixRow_4 : decode cX7_mixRow 4 = .ok (.istore 6, 2) := by decide +kernel
theorem dX7_mixRow_6 : decode cX7_mixRow 6 = .ok (.iload 6, 2) := by decide +kernel
theorem dX7_mixRow_8 : decode cX7_mixRow 8 = .ok (.iload_n 3, 1) := by decide +kernel
theorem dX7_mixRow_9 : decode cX7_mixRow 9 = .ok (.if_icmp .ge 20, 3) := by decide +kernel
theorem dX7_mixRow_12 : decode cX7_mixRow 12 = .ok (.lload 4, 2) := by decide +kernel
theorem dX7_mixRow_14 : decode cX7_mixRow 14 = .ok (.aload_n 2, 1) := by decide +kernel
theorem dX7_mixRow_15 : decode cX7_mixRow 15 = .ok (.iload 6, 2) := by decide +kernel
theorem dX7_mixRow_17 : decode cX7_mixRow 17 = .ok (.iaload, 1) := by decide +kernel
theorem dX7_mixRow_18 : decode cX7_mixRow 18 = .ok (.invokestatic 185, 3) := by decide +kernel
theorem dX7_mixRow_21 : decode cX7_mixRow 21 = .ok (.lstore 4, 2) := by decide +kernel
theorem dX7_mixRow_23 : decode cX7_mixRow 23 = .ok (.iinc 6 1, 3) := by decide +kernel
theorem dX7_mixRow_26 : decode cX7_mixRow 26 = .ok (.goto (-20), 3) := by decide +kernel
theorem dX7_mixRow_29 : decode cX7_mixRow 29 = .ok (.lload 4, 2) := by decide +kernel
theorem dX7_mixRow_31 : decode cX7_mixRow 31 = .ok (.lreturn, 1) := by decide +kernel
theorem dX7_mixList_0 : decode cX7_mixList 0 = .ok (.lload_n 1, 1) := by decide +kernel
theorem dX7_mixList_1 : decode cX7_mixList 1 = .ok (.aload_n 3, 1) := by decide +kernel
theorem dX7_mixList_2 : decode cX7_mixList 2 = .ok (.getfield 69, 3) := by decide +kernel
theorem dX7_mixList_5 : decode cX7_mixList 5 = .ok (.invokestatic 185, 3) := by decide +kernel
theorem dX7_mixList_8 : decode cX7_mixList 8 = .ok (.aload_n 3, 1) := by decide +kernel
theorem dX7_mixList_9 : decode cX7_mixList 9 = .ok (.getfield 218, 3) := by decide +kernel
theorem dX7_mixList_12 : decode cX7_mixList 12 = .ok (.aload_n 3, 1) := by decide +kernel
theorem dX7_mixList_13 : decode cX7_mixList 13 = .ok (.getfield 69, 3) := by decide +kernel
theorem dX7_mixList_16 : decode cX7_mixList 16 = .ok (.invokestatic 189, 3) := by decide +kernel
theorem dX7_mixList_19 : decode cX7_mixList 19 = .ok (.lstore 4, 2) := by decide +kernel
theorem dX7_mixList_21 : decode cX7_mixList 21 = .ok (.lload 4, 2) := by decide +kernel
theorem dX7_mixList_23 : decode cX7_mixList 23 = .ok (.aload_n 3, 1) := by decide +kernel
theorem dX7_mixList_24 : decode cX7_mixList 24 = .ok (.getfield 107, 3) := by decide +kernel
theorem dX7_mixList_27 : decode cX7_mixList 27 = .ok (.invokestatic 185, 3) := by decide +kernel
theorem dX7_mixList_30 : decode cX7_mixList 30 = .ok (.lstore 4, 2) := by decide +kernel
theorem dX7_mixList_32 : decode cX7_mixList 32 = .ok (.lload 4, 2) := by decide +kernel
theorem dX7_mixList_34 : decode cX7_mixList 34 = .ok (.aload_n 3, 1) := by decide +kernel
theorem dX7_mixList_35 : decode cX7_mixList 35 = .ok (.getfield 221, 3) := by decide +kernel
theorem dX7_mixList_38 : decode cX7_mixList 38 = .ok (.aload_n 3, 1) := by decide +kernel
theorem dX7_mixList_39 : decode cX7_mixList 39 = .ok (.getfield 107, 3) := by decide +kernel
theorem dX7_mixList_42 : decode cX7_mixList 42 = .ok (.bipush 6, 2) := by decide +kernel
theorem dX7_mixList_44 : decode cX7_mixList 44 = .ok (.imul, 1) := by decide +kernel
theorem dX7_mixList_45 : decode cX7_mixList 45 = .ok (.invokestatic 189, 3) := by decide +kernel
theorem dX7_mixList_48 : decode cX7_mixList 48 = .ok (.lstore 4, 2) := by decide +kernel
theorem dX7_mixList_50 : decode cX7_mixList 50 = .ok (.aload_n 0, 1) := by decide +kernel
theorem dX7_mixList_51 : decode cX7_mixList 51 = .ok (.getfield 33, 3) := by decide +kernel
theorem dX7_mixList_54 : decode cX7_mixList 54 = .ok (.aload_n 3, 1) := by decide +kernel
theorem dX7_mixList_55 : decode cX7_mixList 55 = .ok (.invokevirtual 116, 3) := by decide +kernel
theorem dX7_mixList_58 : decode cX7_mixList 58 = .ok (.lload 4, 2) := by decide +kernel
theorem dX7_mixList_60 : decode cX7_mixList 60 = .ok (.aload_n 0, 1) := by decide +kernel
theorem dX7_mixList_61 : decode cX7_mixList 61 = .ok (.getfield 33, 3) := by decide +kernel
theorem dX7_mixList_64 : decode cX7_mixList 64 = .ok (.getfield 224, 3) := by decide +kernel
theorem dX7_mixList_67 : decode cX7_mixList 67 = .ok (.aload_n 0, 1) := by decide +kernel
theorem dX7_mixList_68 : decode cX7_mixList 68 = .ok (.getfield 33, 3) := by decide +kernel
theorem dX7_mixList_71 : decode cX7_mixList 71 = .ok (.getfield 227, 3) := by decide +kernel
theorem dX7_mixList_74 : decode cX7_mixList 74 = .ok (.invokestatic 189, 3) := by decide +kernel
theorem dX7_mixList_77 : decode cX7_mixList 77 = .ok (.lreturn, 1) := by decide +kernel
end
section
theorem dX8_init_0 : decode cX8_init 0 = .ok (.aload_n 0, 1) := by decide +kernel
theorem dX8_init_1 : decode cX8_init 1 = .ok (.invokespecial 1, 3) := by decide +kernel
theorem dX8_init_4 : decode cX8_init 4 = .ok (.aload_n 0, 1) := by decide +kernel
theorem dX8_init_5 : decode cX8_init 5 = .ok (.sipush 272, 3) := by decide +kernel
theorem dX8_init_8 : decode cX8_init 8 = .ok (.newarray .int, 2) := by decide +kernel
theorem dX8_init_10 : decode cX8_init 10 = .ok (.putfield 7, 3) := by decide +kernel
theorem dX8_init_13 : decode cX8_init 13 = .ok (.aload_n 0, 1) := by decide +kernel
theorem dX8_init_14 : decode cX8_init 14 = .ok (.sipush 1088, 3) := by decide +kernel
theorem dX8_init_17 : decode cX8_init 17 = .ok (.newarray .int, 2) := by decide +kernel
theorem dX8_init_19 : decode cX8_init 19 = .ok (.putfield 13, 3) := by decide +kernel
theorem dX8_init_22 : decode cX8_init 22 = .ok (.aload_n 0, 1) := by decide +kernel
theorem dX8_init_23 : decode cX8_init 23 = .ok (.sipush 260, 3) := by decide +kernel
theorem dX8_init_26 : decode cX8_init 26 = .ok (.newarray .int, 2) := by decide +kernel
theorem dX8_init_28 : decode cX8_init 28 = .ok (.putfield 16, 3) := by decide +kernel
theorem dX8_init_31 : decode cX8_init 31 = .ok (.aload_n 0, 1) := by decide +kernel
theorem dX8_init_32 : decode cX8_init 32 = .ok (.iconst 4, 1) := by decide +kernel
theorem dX8_init_33 : decode cX8_init 33 = .ok (.newarray .int, 2) := by decide +kernel
theorem dX8_init_35 : decode cX8_init 35 = .ok (.putfield 19, 3) := by decide +kernel
theorem dX8_init_38 : decode cX8_init 38 = .ok (.aload_n 0, 1) := by decide +kernel
theorem dX8_init_39 : decode cX8_init 39 = .ok (.iconst 4, 1) := by decide +kernel
theorem dX8_init_40 : decode cX8_init 40 = .ok (.newarray .boolean, 2) := by decide +kernel
theorem dX8_init_42 : decode cX8_init 42 = .ok (.putfield 22, 3) := by decide +kernel
theorem dX8_init_45 : decode cX8_init 45 = .ok (.aload_n 0, 1) := by decide +kernel
theorem dX8_init_46 : decode cX8_init 46 = .ok (.bipush 65, 2) := by decide +kernel
theorem dX8_init_48 : decode cX8_init 48 = .ok (.newarray .int, 2) := by decide +kernel
theorem dX8_init_50 : decode cX8_init 50 = .ok (.putfield 26, 3) := by decide +kernel
theorem dX8_init_53 : decode cX8_init 53 = .ok (.aload_n 0, 1) := by decide +kernel
theorem dX8_init_54 : decode cX8_init 54 = .ok (.bipush 65, 2) := by decide +kernel
theorem dX8_init_56 : decode cX8_init 56 = .ok (.newarray .int, 2) := by decide +kernel
theorem dX8_init_58 : decode cX8_init 58 = .ok (.putfield 29, 3) := by decide +kernel
theorem dX8_init_61 : decode cX8_init 61 = .ok (.aload_n 0, 1) := by decide +kernel
theorem dX8_init_62 : decode cX8_init 62 = .ok (.bipush 65, 2) := by decide +kernel
theorem dX8_init_64 : decode cX8_init 64 = .ok (.newarray .int, 2) := by decide +kernel
theorem dX8_init_66 : decode cX8_init 66 = .ok (.putfield 32, 3) := by decide +kernel
theorem dX8_init_69 : decode cX8_init 69 = .ok (.aload_n 0, 1) := by decide +kernel
theorem dX8_init_70 : decode cX8_init 70 = .ok (.sipush 128, 3) := by decide +kernel
theorem dX8_init_73 : decode cX8_init 73 = .ok (.newarray .int, 2) := by decide +kernel
theorem dX8_init_75 : decode cX8_init 75 = .ok (.putfield 35, 3) := by decide +kernel
theorem dX8_init_78 : decode cX8_init 78 = .ok (.aload_n 0, 1) := by decide +kernel
theorem dX8_init_79 : decode cX8_init 79 = .ok (.iconst 4, 1) := by decide +kernel
theorem dX8_init_80 : decode cX8_init 80 = .ok (.newarray .int, 2) := by decide +kernel
theorem dX8_init_82 : decode cX8_init 82 = .ok (.putfield 38, 3) := by decide +kernel
theorem dX8_init_85 : decode cX8_init 85 = .ok (.aload_n 0, 1) := by decide +kernel
theorem dX8_init_86 : decode cX8_init 86 = .ok (.getfield 7, 3) := by decide +kernel
theorem dX8_init_89 : decode cX8_init 89 = .ok (.sipush 260, 3) := by decide +kernel
theorem dX8_init_92 : decode cX8_init 92 = .ok (.iconst 4, 1) := by decide +kernel
theorem dX8_init_93 : decode cX8_init 93 = .ok (.iastore, 1) := by decide +kernel
theorem dX8_init_94 : decode cX8_init 94 = .ok (.return_, 1) := by decide +kernel
theorem dX8_thrown_0 : decode cX8_thrown 0 = .ok (.aload_n 0, 1) := by decide +kernel
theorem dX8_thrown_1 : decode cX8_thrown 1 = .ok (.getfield 41, 3) := by decide +kernel
theorem dX8_thrown_4 : decode cX8_thrown 4 = .ok (.ireturn, 1) := by decide +kernel
theorem dX8_in_0 : decode cX8_in 0 = .ok (.iload_n 0, 1) := by decide +kernel
theorem dX8_in_1 : decode cX8_in 1 = .ok (.iload_n 1, 1) := by decide +kernel
theorem dX8_in_2 : decode cX8_in 2 = .ok (.if_icmp .lt 12, 3) := by decide +kernel
theorem dX8_in_5 : decode cX8_in 5 = .ok (.iload_n 0, 1) := by decide +kernel
theorem dX8_in_6 : decode cX8_in 6 = .ok (.iload_n 2, 1) := by decide +kernel
theorem dX8_in_7 : decode cX8_in 7 = .ok (.if_icmp .gt 7, 3) := by decide +kernel
theorem dX8_in_10 : decode cX8_in 10 = .ok (.iconst 1, 1) := by decide +kernel
theorem dX8_in_11 : decode cX8_in 11 = .ok (.goto 4, 3) := by decide +kernel
theorem dX8_in_14 : decode cX8_in 14 = .ok (.iconst 0, 1) := by decide +kernel
theorem dX8_in_15 : decode cX8_in 15 = .ok (.ireturn, 1) := by decide +kernel
theorem dX8_fails_0 : decode cX8_fails 0 = .ok (.aload_n 0, 1) := by decide +kernel
theorem dX8_fails_1 : decode cX8_fails 1 = .ok (.iload_n 1, 1) := by decide +kernel
theorem dX8_fails_2 : decode cX8_fails 2 = .ok (.putfield 41, 3) := by decide +kernel
theorem dX8_fails_5 : decode cX8_fails 5 = .ok (.iconst 0, 1) := by decide +kernel
theorem dX8_fails_6 : decode cX8_fails 6 = .ok (.ireturn, 1) := by decide +kernel
theorem dX8_isList_0 : decode cX8_isList 0 = .ok (.iload_n 0, 1) := by decide +kernel
theorem dX8_isList_1 : decode cX8_isList 1 = .ok (.iconst 0, 1) := by decide +kernel
theorem dX8_isList_2 : decode cX8_isList 2 = .ok (.iconst 3, 1) := by decide +kernel
theorem dX8_isList_3 : decode cX8_isList 3 = .ok (.invokestatic 45, 3) := by decide +kernel
theorem dX8_isList_6 : decode cX8_isList 6 = .ok (.ireturn, 1) := by decide +kernel
theorem dX8_doc_0 : decode cX8_doc 0 = .ok (.aload_n 0, 1) := by decide +kernel
theorem dX8_doc_1 : decode cX8_doc 1 = .ok (.getfield 7, 3) := by decide +kernel
theorem dX8_doc_4 : decode cX8_doc 4 = .ok (.iconst 4, 1) := by decide +kernel
theorem dX8_doc_5 : decode cX8_doc 5 = .ok (.bipush 64, 2) := by decide +kernel
theorem dX8_doc_7 : decode cX8_doc 7 = .ok (.iload_n 1, 1) := by decide +kernel
theorem dX8_doc_8 : decode cX8_doc 8 = .ok (.imul, 1) := by decide +kernel
theorem dX8_doc_9 : decode cX8_doc 9 = .ok (.iadd, 1) := by decide +kernel
theorem dX8_doc_10 : decode cX8_doc 10 = .ok (.iload_n 2, 1) := by decide +kernel
theorem dX8_doc_11 : decode cX8_doc 11 = .ok (.iadd, 1) := by decide +kernel
theorem dX8_doc_12 : decode cX8_doc 12 = .ok (.iaload, 1) := by decide +kernel
theorem dX8_doc_13 : decode cX8_doc 13 = .ok (.ireturn, 1) := by decide +kernel
theorem dX8_save_0 : decode cX8_save 0 = .ok (.aload_n 0, 1) := by decide +kernel
theorem dX8_save_1 : decode cX8_save 1 = .ok (.getfield 49, 3) := by decide +kernel
theorem dX8_save_4 : decode cX8_save 4 = .ok (.iconst 4, 1) := by decide +kernel
theorem dX8_save_5 : decode cX8_save 5 = .ok (.if_icmp .ne 44, 3) := by decide +kernel
theorem dX8_save_8 : decode cX8_save 8 = .ok (.iconst 0, 1) := by decide +kernel
theorem dX8_save_9 : decode cX8_save 9 = .ok (.istore_n 1, 1) := by decide +kernel
theorem dX8_save_10 : decode cX8_save 10 = .ok (.iload_n 1, 1) := by decide +kernel
theorem dX8_save_11 : decode cX8_save 11 = .ok (.sipush 816, 3) := by decide +kernel
theorem dX8_save_14 : decode cX8_save 14 = .ok (.if_icmp .ge 25, 3) := by decide +kernel
theorem dX8_save_17 : decode cX8_save 17 = .ok (.aload_n 0, 1) := by decide +kernel
theorem dX8_save_18 : decode cX8_save 18 = .ok (.getfield 13, 3) := by decide +kernel
theorem dX8_save_21 : decode cX8_save 21 = .ok (.iload_n 1, 1) := by decide +kernel
theorem dX8_save_22 : decode cX8_save 22 = .ok (.aload_n 0, 1) := by decide +kernel
theorem dX8_save_23 : decode cX8_save 23 = .ok (.getfield 13, 3) := by decide +kernel
theorem dX8_save_26 : decode cX8_save 26 = .ok (.iload_n 1, 1) := by decide +kernel
theorem dX8_save_27 : decode cX8_save 27 = .ok (.sipush 272, 3) := by decide +kernel
theorem dX8_save_30 : decode cX8_save 30 = .ok (.iadd, 1) := by decide +kernel
theorem dX8_save_31 : decode cX8_save 31 = .ok (.iaload, 1) := by decide +kernel
theorem dX8_save_32 : decode cX8_save 32 = .ok (.iastore, 1) := by decide +kernel
theorem dX8_save_33 : decode cX8_save 33 = .ok (.iinc 1 1, 3) := by decide +kernel
theorem dX8_save_36 : decode cX8_save 36 = .ok (.goto (-26), 3) := by decide +kernel
theorem dX8_save_39 : decode cX8_save 39 = .ok (.aload_n 0, 1) := by decide +kernel
theorem dX8_save_40 : decode cX8_save 40 = .ok (.dup, 1) := by decide +kernel
theorem dX8_save_41 : decode cX8_save 41 = .ok (.getfield 49, 3) := by decide +kernel
theorem dX8_save_44 : decode cX8_save 44 = .ok (.iconst 1, 1) := by decide +kernel
theorem dX8_save_45 : decode cX8_save 45 = .ok (.isub, 1) := by decide +kernel
theorem dX8_save_46 : decode cX8_save 46 = .ok (.putfield 49, 3) := by decide +kernel
theorem dX8_save_49 : decode cX8_save 49 = .ok (.iconst 0, 1) := by decide +kernel
theorem dX8_save_50 : decode cX8_save 50 = .ok (.istore_n 1, 1) := by decide +kernel
theorem dX8_save_51 : decode cX8_save 51 = .ok (.iload_n 1, 1) := by decide +kernel
theorem dX8_save_52 : decode cX8_save 52 = .ok (.sipush 272, 3) := by decide +kernel
theorem dX8_save_55 : decode cX8_save 55 = .ok (.if_icmp .ge 30, 3) := by decide +kernel
theorem dX8_save_58 : decode cX8_save 58 = .ok (.aload_n 0, 1) := by decide +kernel
theorem dX8_save_59 : decode cX8_save 59 = .ok (.getfield 13, 3) := by decide +kernel
theorem dX8_save_62 : decode cX8_save 62 = .ok (.sipush 272, 3) := by decide +kernel
theorem dX8_save_65 : decode cX8_save 65 = .ok (.aload_n 0, 1) := by decide +kernel
theorem dX8_save_66 : decode cX8_save 66 = .ok (.getfield 49, 3) := by decide +kernel
theorem dX8_save_69 : decode cX8_save 69 = .ok (.imul, 1) := by decide +kernel
theorem dX8_save_70 : decode cX8_save 70 = .ok (.iload_n 1, 1) := by decide +kernel
theorem dX8_save_71 : decode cX8_save 71 = .ok (.iadd, 1) := by decide +kernel
theorem dX8_save_72 : decode cX8_save 72 = .ok (.aload_n 0, 1) := by decide +kernel
theorem dX8_save_73 : decode cX8_save 73 = .ok (.getfield 7, 3) := by decide +kernel
theorem dX8_save_76 : decode cX8_save 76 = .ok (.iload_n 1, 1) := by decide +kernel
theorem dX8_save_77 : decode cX8_save 77 = .ok (.iaload, 1) := by decide +kernel
theorem dX8_save_78 : decode cX8_save 78 = .ok (.iastore, 1) := by decide +kernel
theorem dX8_save_79 : decode cX8_save 79 = .ok (.iinc 1 1, 3) := by decide +kernel
theorem dX8_save_82 : decode cX8_save 82 = .ok (.goto (-31), 3) := by decide +kernel
theorem dX8_save_85 : decode cX8_save 85 = .ok (.aload_n 0, 1) := by decide +kernel
theorem dX8_save_86 : decode cX8_save 86 = .ok (.dup, 1) := by decide +kernel
theorem dX8_save_87 : decode cX8_save 87 = .ok (.getfield 49, 3) := by decide +kernel
theorem dX8_save_90 : decode cX8_save 90 = .ok (.iconst 1, 1) := by decide +kernel
theorem dX8_save_91 : decode cX8_save 91 = .ok (.iadd, 1) := by decide +kernel
theorem dX8_save_92 : decode cX8_save 92 = .ok (.putfield 49, 3) := by decide +kernel
theorem dX8_save_95 : decode cX8_save 95 = .ok (.return_, 1) := by decide +kernel
theorem dX8_drop_0 : decode cX8_drop 0 = .ok (.aload_n 0, 1) := by decide +kernel
theorem dX8_drop_1 : decode cX8_drop 1 = .ok (.getfield 7, 3) := by decide +kernel
theorem dX8_drop_4 : decode cX8_drop 4 = .ok (.sipush 261, 3) := by decide +kernel
theorem dX8_drop_7 : decode cX8_drop 7 = .ok (.dup2, 1) := by decide +kernel
theorem dX8_drop_8 : decode cX8_drop 8 = .ok (.iaload, 1) := by decide +kernel
theorem dX8_drop_9 : decode cX8_drop 9 = .ok (.iconst 1, 1) := by decide +kernel
theorem dX8_drop_10 : decode cX8_drop 10 = .ok (.isub, 1) := by decide +kernel
theorem dX8_drop_11 : decode cX8_drop 11 = .ok (.iastore, 1) := by decide +kernel
theorem dX8_drop_12 : decode cX8_drop 12 = .ok (.iload_n 1, 1) := by decide +kernel
theorem dX8_drop_13 : decode cX8_drop 13 = .ok (.istore_n 2, 1) := by decide +kernel
theorem dX8_drop_14 : decode cX8_drop 14 = .ok (.iload_n 2, 1) := by decide +kernel
theorem dX8_drop_15 : decode cX8_drop 15 = .ok (.aload_n 0, 1) := by decide +kernel
theorem dX8_drop_16 : decode cX8_drop 16 = .ok (.getfield 7, 3) := by decide +kernel
theorem dX8_drop_19 : decode cX8_drop 19 = .ok (.sipush 261, 3) := by decide +kernel
theorem dX8_drop_22 : decode cX8_drop 22 = .ok (.iaload, 1) := by decide +kernel
theorem dX8_drop_23 : decode cX8_drop 23 = .ok (.if_icmp .ge 31, 3) := by decide +kernel
theorem dX8_drop_26 : decode cX8_drop 26 = .ok (.aload_n 0, 1) := by decide +kernel
theorem dX8_drop_27 : decode cX8_drop 27 = .ok (.getfield 7, 3) := by decide +kernel
theorem dX8_drop_30 : decode cX8_drop 30 = .ok (.sipush 262, 3) := by decide +kernel
theorem dX8_drop_33 : decode cX8_drop 33 = .ok (.iload_n 2, 1) := by decide +kernel
theorem dX8_drop_34 : decode cX8_drop 34 = .ok (.iadd, 1) := by decide +kernel
theorem dX8_drop_35 : decode cX8_drop 35 = .ok (.aload_n 0, 1) := by decide +kernel
theorem dX8_drop_36 : decode cX8_drop 36 = .ok (.getfield 7, 3) := by decide +kernel
theorem dX8_drop_39 : decode cX8_drop 39 = .ok (.sipush 262, 3) := by decide +kernel
theorem dX8_drop_42 : decode cX8_drop 42 = .ok (.iload_n 2, 1) := by decide +kernel
theorem dX8_drop_43 : decode cX8_drop 43 = .ok (.iadd, 1) := by decide +kernel
theorem dX8_drop_44 : decode cX8_drop 44 = .ok (.iconst 1, 1) := by decide +kernel
theorem dX8_drop_45 : decode cX8_drop 45 = .ok (.iadd, 1) := by decide +kernel
theorem dX8_drop_46 : decode cX8_drop 46 = .ok (.iaload, 1) := by decide +kernel
theorem dX8_drop_47 : decode cX8_drop 47 = .ok (.iastore, 1) := by decide +kernel
theorem dX8_drop_48 : decode cX8_drop 48 = .ok (.iinc 2 1, 3) := by decide +kernel
theorem dX8_drop_51 : decode cX8_drop 51 = .ok (.goto (-37), 3) := by decide +kernel
theorem dX8_drop_54 : decode cX8_drop 54 = .ok (.return_, 1) := by decide +kernel
theorem dX8_changes_0 : decode cX8_changes 0 = .ok (.aload_n 0, 1) := by decide +kernel
theorem dX8_changes_1 : decode cX8_changes 1 = .ok (.getfield 22, 3) := by decide +kernel
theorem dX8_changes_4 : decode cX8_changes 4 = .ok (.iload_n 1, 1) := by decide +kernel
theorem dX8_changes_5 : decode cX8_changes 5 = .ok (.iconst 0, 1) := by decide +kernel
theorem dX8_changes_6 : decode cX8_changes 6 = .ok (.bastore, 1) := by decide +kernel
theorem dX8_changes_7 : decode cX8_changes 7 = .ok (.aload_n 0, 1) := by decide +kernel
theorem dX8_changes_8 : decode cX8_changes 8 = .ok (.getfield 7, 3) := by decide +kernel
theorem dX8_changes_11 : decode cX8_changes 11 = .ok (.sipush 261, 3) := by decide +kernel
theorem dX8_changes_14 : decode cX8_changes 14 = .ok (.iaload, 1) := by decide +kernel
theorem dX8_changes_15 : decode cX8_changes 15 = .ok (.iconst 1, 1) := by decide +kernel
theorem dX8_changes_16 : decode cX8_changes 16 = .ok (.isub, 1) := by decide +kernel
theorem dX8_changes_17 : decode cX8_changes 17 = .ok (.istore_n 2, 1) := by decide +kernel
theorem dX8_changes_18 : decode cX8_changes 18 = .ok (.iload_n 2, 1) := by decide +kernel
theorem dX8_changes_19 : decode cX8_changes 19 = .ok (.ifCond .lt 31, 3) := by decide +kernel
theorem dX8_changes_22 : decode cX8_changes 22 = .ok (.aload_n 0, 1) := by decide +kernel
theorem dX8_changes_23 : decode cX8_changes 23 = .ok (.getfield 7, 3) := by decide +kernel
theorem dX8_changes_26 : decode cX8_changes 26 = .ok (.sipush 262, 3) := by decide +kernel
theorem dX8_changes_29 : decode cX8_changes 29 = .ok (.iload_n 2, 1) := by decide +kernel
theorem dX8_changes_30 : decode cX8_changes 30 = .ok (.iadd, 1) := by decide +kernel
theorem dX8_changes_31 : decode cX8_changes 31 = .ok (.iaload, 1) := by decide +kernel
theorem dX8_changes_32 : decode cX8_changes 32 = .ok (.bipush 100, 2) := by decide +kernel
theorem dX8_changes_34 : decode cX8_changes 34 = .ok (.idiv, 1) := by decide +kernel
theorem dX8_changes_35 : decode cX8_changes 35 = .ok (.iload_n 1, 1) := by decide +kernel
theorem dX8_changes_36 : decode cX8_changes 36 = .ok (.if_icmp .ne 8, 3) := by decide +kernel
theorem dX8_changes_39 : decode cX8_changes 39 = .ok (.aload_n 0, 1) := by decide +kernel
theorem dX8_changes_40 : decode cX8_changes 40 = .ok (.iload_n 2, 1) := by decide +kernel
theorem dX8_changes_41 : decode cX8_changes 41 = .ok (.invokevirtual 52, 3) := by decide +kernel
theorem dX8_changes_44 : decode cX8_changes 44 = .ok (.iinc 2 (-1), 3) := by decide +kernel
theorem dX8_changes_47 : decode cX8_changes 47 = .ok (.goto (-29), 3) := by decide +kernel
theorem dX8_changes_50 : decode cX8_changes 50 = .ok (.return_, 1) := by decide +kernel
theorem dX8_add_0 : decode cX8_add 0 = .ok (.aload_n 0, 1) := by decide +kernel
theorem dX8_add_1 : decode cX8_add 1 = .ok (.getfield 7, 3) := by decide +kernel
theorem dX8_add_4 : decode cX8_add 4 = .ok (.iconst 4, 1) := by decide +kernel
theorem dX8_add_5 : decode cX8_add 5 = .ok (.bipush 64, 2) := by decide +kernel
theorem dX8_add_7 : decode cX8_add 7 = .ok (.iload_n 1, 1) := by decide +kernel
theorem dX8_add_8 : decode cX8_add 8 = .ok (.imul, 1) := by decide +kernel
theorem dX8_add_9 : decode cX8_add 9 = .ok (.iadd, 1) := by decide +kernel
theorem dX8_add_10 : decode cX8_add 10 = .ok (.aload_n 0, 1) := by decide +kernel
theorem dX8_add_11 : decode cX8_add 11 = .ok (.getfield 7, 3) := by decide +kernel
theorem dX8_add_14 : decode cX8_add 14 = .ok (.iload_n 1, 1) := by decide +kernel
theorem dX8_add_15 : decode cX8_add 15 = .ok (.iaload, 1) := by decide +kernel
theorem dX8_add_16 : decode cX8_add 16 = .ok (.iadd, 1) := by decide +kernel
theorem dX8_add_17 : decode cX8_add 17 = .ok (.iload_n 2, 1) := by decide +kernel
theorem dX8_add_18 : decode cX8_add 18 = .ok (.iastore, 1) := by decide +kernel
theorem dX8_add_19 : decode cX8_add 19 = .ok (.aload_n 0, 1) := by decide +kernel
theorem dX8_add_20 : decode cX8_add 20 = .ok (.getfield 7, 3) := by decide +kernel
theorem dX8_add_23 : decode cX8_add 23 = .ok (.iload_n 1, 1) := by decide +kernel
theorem dX8_add_24 : decode cX8_add 24 = .ok (.dup2, 1) := by decide +kernel
theorem dX8_add_25 : decode cX8_add 25 = .ok (.iaload, 1) := by decide +kernel
theorem dX8_add_26 : decode cX8_add 26 = .ok (.iconst 1, 1) := by decide +kernel
theorem dX8_add_27 : decode cX8_add 27 = .ok (.iadd, 1) := by decide +kernel
theorem dX8_add_28 : decode cX8_add 28 = .ok (.iastore, 1) := by decide +kernel
theorem dX8_add_29 : decode cX8_add 29 = .ok (.return_, 1) := by decide +kernel
theorem dX8_isBehind_0 : decode cX8_isBehind 0 = .ok (.aload_n 0, 1) := by decide +kernel
theorem dX8_isBehind_1 : decode cX8_isBehind 1 = .ok (.getfield 7, 3) := by decide +kernel
theorem dX8_isBehind_4 : decode cX8_isBehind 4 = .ok (.iload_n 1, 1) := by decide +kernel
theorem dX8_isBehind_5 : decode cX8_isBehind 5 = .ok (.iaload, 1) := by decide +kernel
theorem dX8_isBehind_6 : decode cX8_isBehind 6 = .ok (.ifCond .eq 20, 3) := by decide +kernel
theorem dX8_isBehind_9 : decode cX8_isBehind 9 = .ok (.aload_n 0, 1) := by decide +kernel
theorem dX8_isBehind_10 : decode cX8_isBehind 10 = .ok (.iload_n 1, 1) := by decide +kernel
theorem dX8_isBehind_11 : decode cX8_isBehind 11 = .ok (.aload_n 0, 1) := by decide +kernel
theorem dX8_isBehind_12 : decode cX8_isBehind 12 = .ok (.getfield 7, 3) := by decide +kernel
theorem dX8_isBehind_15 : decode cX8_isBehind 15 = .ok (.iload_n 1, 1) := by decide +kernel
theorem dX8_isBehind_16 : decode cX8_isBehind 16 = .ok (.iaload, 1) := by decide +kernel
theorem dX8_isBehind_17 : decode cX8_isBehind 17 = .ok (.iconst 1, 1) := by decide +kernel
theorem dX8_isBehind_18 : decode cX8_isBehind 18 = .ok (.isub, 1) := by decide +kernel
theorem dX8_isBehind_19 : decode cX8_isBehind 19 = .ok (.invokevirtual 56, 3) := by decide +kernel
theorem dX8_isBehind_22 : decode cX8_isBehind 22 = .ok (.iload_n 2, 1) := by decide +kernel
theorem dX8_isBehind_23 : decode cX8_isBehind 23 = .ok (.if_icmp .ge 7, 3) := by decide +kernel
theorem dX8_isBehind_26 : decode cX8_isBehind 26 = .ok (.iconst 1, 1) := by decide +kernel
theorem dX8_isBehind_27 : decode cX8_isBehind 27 = .ok (.goto 4, 3) := by decide +kernel
theorem dX8_isBehind_30 : decode cX8_isBehind 30 = .ok (.iconst 0, 1) := by decide +kernel
theorem dX8_isBehind_31 : decode cX8_isBehind 31 = .ok (.ireturn, 1) := by decide +kernel
theorem dX8_append_0 : decode cX8_append 0 = .ok (.aload_n 0, 1) := by decide +kernel
theorem dX8_append_1 : decode cX8_append 1 = .ok (.iconst 0, 1) := by decide +kernel
theorem dX8_append_2 : decode cX8_append 2 = .ok (.putfield 41, 3) := by decide +kernel
theorem dX8_append_5 : decode cX8_append 5 = .ok (.iload_n 1, 1) := by decide +kernel
theorem dX8_append_6 : decode cX8_append 6 = .ok (.invokestatic 60, 3) := by decide +kernel
theorem dX8_append_9 : decode cX8_append 9 = .ok (.ifCond .ne 9, 3) := by decide +kernel
theorem dX8_append_12 : decode cX8_append 12 = .ok (.aload_n 0, 1) := by decide +kernel
theorem dX8_append_13 : decode cX8_append 13 = .ok (.iconst 1, 1) := by decide +kernel
theorem dX8_append_14 : decode cX8_append 14 = .ok (.invokevirtual 64, 3) := by decide +kernel
theorem dX8_append_17 : decode cX8_append 17 = .ok (.ireturn, 1) := by decide +kernel
theorem dX8_append_18 : decode cX8_append 18 = .ok (.iload_n 2, 1) := by decide +kernel
theorem dX8_append_19 : decode cX8_append 19 = .ok (.iconst 0, 1) := by decide +kernel
theorem dX8_append_20 : decode cX8_append 20 = .ok (.sipush 511, 3) := by decide +kernel
theorem dX8_append_23 : decode cX8_append 23 = .ok (.invokestatic 45, 3) := by decide +kernel
theorem dX8_append_26 : decode cX8_append 26 = .ok (.ifCond .eq 12, 3) := by decide +kernel
theorem dX8_append_29 : decode cX8_append 29 = .ok (.aload_n 0, 1) := by decide +kernel
theorem dX8_append_30 : decode cX8_append 30 = .ok (.iload_n 1, 1) := by decide +kernel
theorem dX8_append_31 : decode cX8_append 31 = .ok (.iload_n 2, 1) := by decide +kernel
theorem dX8_append_32 : decode cX8_append 32 = .ok (.invokevirtual 68, 3) := by decide +kernel
theorem dX8_append_35 : decode cX8_append 35 = .ok (.ifCond .ne 9, 3) := by decide +kernel
theorem dX8_append_38 : decode cX8_append 38 = .ok (.aload_n 0, 1) := by decide +kernel
theorem dX8_append_39 : decode cX8_append 39 = .ok (.iconst 2, 1) := by decide +kernel
theorem dX8_append_40 : decode cX8_append 40 = .ok (.invokevirtual 64, 3) := by decide +kernel
theorem dX8_append_43 : decode cX8_append 43 = .ok (.ireturn, 1) := by decide +kernel
theorem dX8_append_44 : decode cX8_append 44 = .ok (.aload_n 0, 1) := by decide +kernel
theorem dX8_append_45 : decode cX8_append 45 = .ok (.getfield 7, 3) := by decide +kernel
theorem dX8_append_48 : decode cX8_append 48 = .ok (.iload_n 1, 1) := by decide +kernel
theorem dX8_append_49 : decode cX8_append 49 = .ok (.iaload, 1) := by decide +kernel
theorem dX8_append_50 : decode cX8_append 50 = .ok (.bipush 64, 2) := by decide +kernel
theorem dX8_append_52 : decode cX8_append 52 = .ok (.if_icmp .ne 9, 3) := by decide +kernel
theorem dX8_append_55 : decode cX8_append 55 = .ok (.aload_n 0, 1) := by decide +kernel
theorem dX8_append_56 : decode cX8_append 56 = .ok (.iconst 3, 1) := by decide +kernel
theorem dX8_append_57 : decode cX8_append 57 = .ok (.invokevirtual 64, 3) := by decide +kernel
theorem dX8_append_60 : decode cX8_append 60 = .ok (.ireturn, 1) := by decide +kernel
theorem dX8_append_61 : decode cX8_append 61 = .ok (.aload_n 0, 1) := by decide +kernel
theorem dX8_append_62 : decode cX8_append 62 = .ok (.invokevirtual 72, 3) := by decide +kernel
theorem dX8_append_65 : decode cX8_append 65 = .ok (.aload_n 0, 1) := by decide +kernel
theorem dX8_append_66 : decode cX8_append 66 = .ok (.iload_n 1, 1) := by decide +kernel
theorem dX8_append_67 : decode cX8_append 67 = .ok (.invokevirtual 75, 3) := by decide +kernel
theorem dX8_append_70 : decode cX8_append 70 = .ok (.aload_n 0, 1) := by decide +kernel
theorem dX8_append_71 : decode cX8_append 71 = .ok (.iload_n 1, 1) := by decide +kernel
theorem dX8_append_72 : decode cX8_append 72 = .ok (.iload_n 2, 1) := by decide +kernel
theorem dX8_append_73 : decode cX8_append 73 = .ok (.invokevirtual 78, 3) := by decide +kernel
theorem dX8_append_76 : decode cX8_append 76 = .ok (.aload_n 0, 1) := by decide +kernel
theorem dX8_append_77 : decode cX8_append 77 = .ok (.getfield 7, 3) := by decide +kernel
theorem dX8_append_80 : decode cX8_append 80 = .ok (.iload_n 1, 1) := by decide +kernel
theorem dX8_append_81 : decode cX8_append 81 = .ok (.iaload, 1) := by decide +kernel
theorem dX8_append_82 : decode cX8_append 82 = .ok (.ireturn, 1) := by decide +kernel
theorem dX8_appendRange_0 : decode cX8_appendRange 0 = .ok (.aload_n 0, 1) := by decide +kernel
theorem dX8_appendRange_1 : decode cX8_appendRange 1 = .ok (.iconst 0, 1) := by decide +kernel
theorem dX8_appendRange_2 : decode cX8_appendRange 2 = .ok (.putfield 41, 3) := by decide +kernel
theorem dX8_appendRange_5 : decode cX8_appendRange 5 = .ok (.iload_n 1, 1) := by decide +kernel
theorem dX8_appendRange_6 : decode cX8_appendRange 6 = .ok (.invokestatic 60, 3) := by decide +kernel
theorem dX8_appendRange_9 : decode cX8_appendRange 9 = .ok (.ifCond .ne 9, 3) := by decide +kernel
theorem dX8_appendRange_12 : decode cX8_appendRange 12 = .ok (.aload_n 0, 1) := by decide +kernel
theorem dX8_appendRange_13 : decode cX8_appendRange 13 = .ok (.iconst 1, 1) := by decide +kernel
theorem dX8_appendRange_14 : decode cX8_appendRange 14 = .ok (.invokevirtual 64, 3) := by decide +kernel
theorem dX8_appendRange_17 : decode cX8_appendRange 17 = .ok (.ireturn, 1) := by decide +kernel
theorem dX8_appendRange_18 : decode cX8_appendRange 18 = .ok (.iload_n 2, 1) := by decide +kernel
theorem dX8_appendRange_19 : decode cX8_appendRange 19 = .ok (.iconst 0, 1) := by decide +kernel
theorem dX8_appendRange_20 : decode cX8_appendRange 20 = .ok (.sipush 511, 3) := by decide +kernel
theorem dX8_appendRange_23 : decode cX8_appendRange 23 = .ok (.invokestatic 45, 3) := by decide +kernel
theorem dX8_appendRange_26 : decode cX8_appendRange 26 = .ok (.ifCond .eq 48, 3) := by decide +kernel
theorem dX8_appendRange_29 : decode cX8_appendRange 29 = .ok (.iload_n 3, 1) := by decide +kernel
theorem dX8_appendRange_30 : decode cX8_appendRange 30 = .ok (.iconst 1, 1) := by decide +kernel
theorem dX8_appendRange_31 : decode cX8_appendRange 31 = .ok (.sipush 511, 3) := by decide +kernel
theorem dX8_appendRange_34 : decode cX8_appendRange 34 = .ok (.invokestatic 45, 3) := by decide +kernel
theorem dX8_appendRange_37 : decode cX8_appendRange 37 = .ok (.ifCond .eq 37, 3) := by decide +kernel
theorem dX8_appendRange_40 : decode cX8_appendRange 40 = .ok (.iload 4, 2) := by decide +kernel
theorem dX8_appendRange_42 : decode cX8_appendRange 42 = .ok (.iconst 1, 1) := by decide +kernel
theorem dX8_appendRange_43 : decode cX8_appendRange 43 = .ok (.bipush 64, 2) := by decide +kernel
theorem dX8_appendRange_45 : decode cX8_appendRange 45 = .ok (.invokestatic 45, 3) := by decide +kernel
theorem dX8_appendRange_48 : decode cX8_appendRange 48 = .ok (.ifCond .eq 26, 3) := by decide +kernel
theorem dX8_appendRange_51 : decode cX8_appendRange 51 = .ok (.iload_n 2, 1) := by decide +kernel
theorem dX8_appendRange_52 : decode cX8_appendRange 52 = .ok (.iload_n 3, 1) := by decide +kernel
theorem dX8_appendRange_53 : decode cX8_appendRange 53 = .ok (.iload 4, 2) := by decide +kernel
theorem dX8_appendRange_55 : decode cX8_appendRange 55 = .ok (.iconst 1, 1) := by decide +kernel
theorem dX8_appendRange_56 : decode cX8_appendRange 56 = .ok (.isub, 1) := by decide +kernel
theorem dX8_appendRange_57 : decode cX8_appendRange 57 = .ok (.imul, 1) := by decide +kernel
theorem dX8_appendRange_58 : decode cX8_appendRange 58 = .ok (.iadd, 1) := by decide +kernel
theorem dX8_appendRange_59 : decode cX8_appendRange 59 = .ok (.sipush 511, 3) := by decide +kernel
theorem dX8_appendRange_62 : decode cX8_appendRange 62 = .ok (.if_icmp .gt 12, 3) := by decide +kernel
theorem dX8_appendRange_65 : decode cX8_appendRange 65 = .ok (.aload_n 0, 1) := by decide +kernel
theorem dX8_appendRange_66 : decode cX8_appendRange 66 = .ok (.iload_n 1, 1) := by decide +kernel
theorem dX8_appendRange_67 : decode cX8_appendRange 67 = .ok (.iload_n 2, 1) := by decide +kernel
theorem dX8_appendRange_68 : decode cX8_appendRange 68 = .ok (.invokevirtual 68, 3) := by decide +kernel
theorem dX8_appendRange_71 : decode cX8_appendRange 71 = .ok (.ifCond .ne 9, 3) := by decide +kernel
theorem dX8_appendRange_74 : decode cX8_appendRange 74 = .ok (.aload_n 0, 1) := by decide +kernel
theorem dX8_appendRange_75 : decode cX8_appendRange 75 = .ok (.iconst 2, 1) := by decide +kernel
theorem dX8_appendRange_76 : decode cX8_appendRange 76 = .ok (.invokevirtual 64, 3) := by decide +kernel
theorem dX8_appendRange_79 : decode cX8_appendRange 79 = .ok (.ireturn, 1) := by decide +kernel
theorem dX8_appendRange_80 : decode cX8_appendRange 80 = .ok (.aload_n 0, 1) := by decide +kernel
theorem dX8_appendRange_81 : decode cX8_appendRange 81 = .ok (.getfield 7, 3) := by decide +kernel
theorem dX8_appendRange_84 : decode cX8_appendRange 84 = .ok (.iload_n 1, 1) := by decide +kernel
theorem dX8_appendRange_85 : decode cX8_appendRange 85 = .ok (.iaload, 1) := by decide +kernel
theorem dX8_appendRange_86 : decode cX8_appendRange 86 = .ok (.iload 4, 2) := by decide +kernel
theorem dX8_appendRange_88 : decode cX8_appendRange 88 = .ok (.iadd, 1) := by decide +kernel
theorem dX8_appendRange_89 : decode cX8_appendRange 89 = .ok (.bipush 64, 2) := by decide +kernel
theorem dX8_appendRange_91 : decode cX8_appendRange 91 = .ok (.if_icmp .le 9, 3) := by decide +kernel
theorem dX8_appendRange_94 : decode cX8_appendRange 94 = .ok (.aload_n 0, 1) := by decide +kernel
theorem dX8_appendRange_95 : decode cX8_appendRange 95 = .ok (.iconst 3, 1) := by decide +kernel
theorem dX8_appendRange_96 : decode cX8_appendRange 96 = .ok (.invokevirtual 64, 3) := by decide +kernel
theorem dX8_appendRange_99 : decode cX8_appendRange 99 = .ok (.ireturn, 1) := by decide +kernel
theorem dX8_appendRange_100 : decode cX8_appendRange 100 = .ok (.aload_n 0, 1) := by decide +kernel
theorem dX8_appendRange_101 : decode cX8_appendRange 101 = .ok (.invokevirtual 72, 3) := by decide +kernel
theorem dX8_appendRange_104 : decode cX8_appendRange 104 = .ok (.aload_n 0, 1) := by decide +kernel
theorem dX8_appendRange_105 : decode cX8_appendRange 105 = .ok (.iload_n 1, 1) := by decide +kernel
theorem dX8_appendRange_106 : decode cX8_appendRange 106 = .ok (.invokevirtual 75, 3) := by decide +kernel
theorem dX8_appendRange_109 : decode cX8_appendRange 109 = .ok (.iconst 0, 1) := by decide +kernel
theorem dX8_appendRange_110 : decode cX8_appendRange 110 = .ok (.istore 5, 2) := by decide +kernel
theorem dX8_appendRange_112 : decode cX8_appendRange 112 = .ok (.iload 5, 2) := by decide +kernel
theorem dX8_appendRange_114 : decode cX8_appendRange 114 = .ok (.iload 4, 2) := by decide +kernel
theorem dX8_appendRange_116 : decode cX8_appendRange 116 = .ok (.if_icmp .ge 20, 3) := by decide +kernel
theorem dX8_appendRange_119 : decode cX8_appendRange 119 = .ok (.aload_n 0, 1) := by decide +kernel
theorem dX8_appendRange_120 : decode cX8_appendRange 120 = .ok (.iload_n 1, 1) := by decide +kernel
theorem dX8_appendRange_121 : decode cX8_appendRange 121 = .ok (.iload_n 2, 1) := by decide +kernel
theorem dX8_appendRange_122 : decode cX8_appendRange 122 = .ok (.iload_n 3, 1) := by decide +kernel
theorem dX8_appendRange_123 : decode cX8_appendRange 123 = .ok (.iload 5, 2) := by decide +kernel
theorem dX8_appendRange_125 : decode cX8_appendRange 125 = .ok (.imul, 1) := by decide +kernel
theorem dX8_appendRange_126 : decode cX8_appendRange 126 = .ok (.iadd, 1) := by decide +kernel
theorem dX8_appendRange_127 : decode cX8_appendRange 127 = .ok (.invokevirtual 78, 3) := by decide +kernel
theorem dX8_appendRange_130 : decode cX8_appendRange 130 = .ok (.iinc 5 1, 3) := by decide +kernel
theorem dX8_appendRange_133 : decode cX8_appendRange 133 = .ok (.goto (-21), 3) := by decide +kernel
theorem dX8_appendRange_136 : decode cX8_appendRange 136 = .ok (.aload_n 0, 1) := by decide +kernel
theorem dX8_appendRange_137 : decode cX8_appendRange 137 = .ok (.getfield 7, 3) := by decide +kernel
theorem dX8_appendRange_140 : decode cX8_appendRange 140 = .ok (.iload_n 1, 1) := by decide +kernel
theorem dX8_appendRange_141 : decode cX8_appendRange 141 = .ok (.iaload, 1) := by decide +kernel
theorem dX8_appendRange_142 : decode cX8_appendRange 142 = .ok (.ireturn, 1) := by decide +kernel
theorem dX8_clear_0 : decode cX8_clear 0 = .ok (.aload_n 0, 1) := by decide +kernel
theorem dX8_clear_1 : decode cX8_clear 1 = .ok (.iconst 0, 1) := by decide +kernel
theorem dX8_clear_2 : decode cX8_clear 2 = .ok (.putfield 41, 3) := by decide +kernel
theorem dX8_clear_5 : decode cX8_clear 5 = .ok (.iload_n 1, 1) := by decide +kernel
theorem dX8_clear_6 : decode cX8_clear 6 = .ok (.invokestatic 60, 3) := by decide +kernel
theorem dX8_clear_9 : decode cX8_clear 9 = .ok (.ifCond .ne 9, 3) := by decide +kernel
theorem dX8_clear_12 : decode cX8_clear 12 = .ok (.aload_n 0, 1) := by decide +kernel
theorem dX8_clear_13 : decode cX8_clear 13 = .ok (.iconst 1, 1) := by decide +kernel
theorem dX8_clear_14 : decode cX8_clear 14 = .ok (.invokevirtual 64, 3) := by decide +kernel
theorem dX8_clear_17 : decode cX8_clear 17 = .ok (.ireturn, 1) := by decide +kernel
theorem dX8_clear_18 : decode cX8_clear 18 = .ok (.aload_n 0, 1) := by decide +kernel
theorem dX8_clear_19 : decode cX8_clear 19 = .ok (.invokevirtual 72, 3) := by decide +kernel
theorem dX8_clear_22 : decode cX8_clear 22 = .ok (.aload_n 0, 1) := by decide +kernel
theorem dX8_clear_23 : decode cX8_clear 23 = .ok (.iload_n 1, 1) := by decide +kernel
theorem dX8_clear_24 : decode cX8_clear 24 = .ok (.invokevirtual 75, 3) := by decide +kernel
theorem dX8_clear_27 : decode cX8_clear 27 = .ok (.aload_n 0, 1) := by decide +kernel
theorem dX8_clear_28 : decode cX8_clear 28 = .ok (.getfield 7, 3) := by decide +kernel
theorem dX8_clear_31 : decode cX8_clear 31 = .ok (.iload_n 1, 1) := by decide +kernel
theorem dX8_clear_32 : decode cX8_clear 32 = .ok (.iaload, 1) := by decide +kernel
theorem dX8_clear_33 : decode cX8_clear 33 = .ok (.istore_n 2, 1) := by decide +kernel
theorem dX8_clear_34 : decode cX8_clear 34 = .ok (.aload_n 0, 1) := by decide +kernel
theorem dX8_clear_35 : decode cX8_clear 35 = .ok (.getfield 7, 3) := by decide +kernel
theorem dX8_clear_38 : decode cX8_clear 38 = .ok (.iload_n 1, 1) := by decide +kernel
theorem dX8_clear_39 : decode cX8_clear 39 = .ok (.iconst 0, 1) := by decide +kernel
theorem dX8_clear_40 : decode cX8_clear 40 = .ok (.iastore, 1) := by decide +kernel
theorem dX8_clear_41 : decode cX8_clear 41 = .ok (.iload_n 2, 1) := by decide +kernel
theorem dX8_clear_42 : decode cX8_clear 42 = .ok (.ireturn, 1) := by decide +kernel
theorem dX8_size_0 : decode cX8_size 0 = .ok (.aload_n 0, 1) := by decide +kernel
theorem dX8_size_1 : decode cX8_size 1 = .ok (.iconst 0, 1) := by decide +kernel
theorem dX8_size_2 : decode cX8_size 2 = .ok (.putfield 41, 3) := by decide +kernel
theorem dX8_size_5 : decode cX8_size 5 = .ok (.iload_n 1, 1) := by decide +kernel
theorem dX8_size_6 : decode cX8_size 6 = .ok (.invokestatic 60, 3) := by decide +kernel
theorem dX8_size_9 : decode cX8_size 9 = .ok (.ifCond .eq 12, 3) := by decide +kernel
theorem dX8_size_12 : decode cX8_size 12 = .ok (.aload_n 0, 1) := by decide +kernel
theorem dX8_size_13 : decode cX8_size 13 = .ok (.getfield 7, 3) := by decide +kernel
theorem dX8_size_16 : decode cX8_size 16 = .ok (.iload_n 1, 1) := by decide +kernel
theorem dX8_size_17 : decode cX8_size 17 = .ok (.iaload, 1) := by decide +kernel
theorem dX8_size_18 : decode cX8_size 18 = .ok (.goto 8, 3) := by decide +kernel
theorem dX8_size_21 : decode cX8_size 21 = .ok (.aload_n 0, 1) := by decide +kernel
theorem dX8_size_22 : decode cX8_size 22 = .ok (.iconst 1, 1) := by decide +kernel
theorem dX8_size_23 : decode cX8_size 23 = .ok (.invokevirtual 64, 3) := by decide +kernel
theorem dX8_size_26 : decode cX8_size 26 = .ok (.ireturn, 1) := by decide +kernel
theorem dX8_document_0 : decode cX8_document 0 = .ok (.aload_n 0, 1) := by decide +kernel
theorem dX8_document_1 : decode cX8_document 1 = .ok (.iconst 0, 1) := by decide +kernel
theorem dX8_document_2 : decode cX8_document 2 = .ok (.putfield 41, 3) := by decide +kernel
theorem dX8_document_5 : decode cX8_document 5 = .ok (.iload_n 1, 1) := by decide +kernel
theorem dX8_document_6 : decode cX8_document 6 = .ok (.invokestatic 60, 3) := by decide +kernel
theorem dX8_document_9 : decode cX8_document 9 = .ok (.ifCond .eq 28, 3) := by decide +kernel
theorem dX8_document_12 : decode cX8_document 12 = .ok (.iload_n 2, 1) := by decide +kernel
theorem dX8_document_13 : decode cX8_document 13 = .ok (.iconst 0, 1) := by decide +kernel
theorem dX8_document_14 : decode cX8_document 14 = .ok (.aload_n 0, 1) := by decide +kernel
theorem dX8_document_15 : decode cX8_document 15 = .ok (.getfield 7, 3) := by decide +kernel
theorem dX8_document_18 : decode cX8_document 18 = .ok (.iload_n 1, 1) := by decide +kernel
theorem dX8_document_19 : decode cX8_document 19 = .ok (.iaload, 1) := by decide +kernel
theorem dX8_document_20 : decode cX8_document 20 = .ok (.iconst 1, 1) := by decide +kernel
theorem dX8_document_21 : decode cX8_document 21 = .ok (.isub, 1) := by decide +kernel
theorem dX8_document_22 : decode cX8_document 22 = .ok (.invokestatic 45, 3) := by decide +kernel
theorem dX8_document_25 : decode cX8_document 25 = .ok (.ifCond .eq 12, 3) := by decide +kernel
theorem dX8_document_28 : decode cX8_document 28 = .ok (.aload_n 0, 1) := by decide +kernel
theorem dX8_document_29 : decode cX8_document 29 = .ok (.iload_n 1, 1) := by decide +kernel
theorem dX8_document_30 : decode cX8_document 30 = .ok (.iload_n 2, 1) := by decide +kernel
theorem dX8_document_31 : decode cX8_document 31 = .ok (.invokevirtual 56, 3) := by decide +kernel
theorem dX8_document_34 : decode cX8_document 34 = .ok (.goto 8, 3) := by decide +kernel
theorem dX8_document_37 : decode cX8_document 37 = .ok (.aload_n 0, 1) := by decide +kernel
theorem dX8_document_38 : decode cX8_document 38 = .ok (.iconst 1, 1) := by decide +kernel
theorem dX8_document_39 : decode cX8_document 39 = .ok (.invokevirtual 64, 3) := by decide +kernel
theorem dX8_document_42 : decode cX8_document 42 = .ok (.ireturn, 1) := by decide +kernel
theorem dX8_rank_0 : decode cX8_rank 0 = .ok (.aload_n 0, 1) := by decide +kernel
theorem dX8_rank_1 : decode cX8_rank 1 = .ok (.iconst 0, 1) := by decide +kernel
theorem dX8_rank_2 : decode cX8_rank 2 = .ok (.putfield 41, 3) := by decide +kernel
theorem dX8_rank_5 : decode cX8_rank 5 = .ok (.iload_n 1, 1) := by decide +kernel
theorem dX8_rank_6 : decode cX8_rank 6 = .ok (.invokestatic 60, 3) := by decide +kernel
theorem dX8_rank_9 : decode cX8_rank 9 = .ok (.ifCond .ne 9, 3) := by decide +kernel
theorem dX8_rank_12 : decode cX8_rank 12 = .ok (.aload_n 0, 1) := by decide +kernel
theorem dX8_rank_13 : decode cX8_rank 13 = .ok (.iconst 1, 1) := by decide +kernel
theorem dX8_rank_14 : decode cX8_rank 14 = .ok (.invokevirtual 64, 3) := by decide +kernel
theorem dX8_rank_17 : decode cX8_rank 17 = .ok (.ireturn, 1) := by decide +kernel
theorem dX8_rank_18 : decode cX8_rank 18 = .ok (.iload_n 2, 1) := by decide +kernel
theorem dX8_rank_19 : decode cX8_rank 19 = .ok (.iconst 0, 1) := by decide +kernel
theorem dX8_rank_20 : decode cX8_rank 20 = .ok (.sipush 512, 3) := by decide +kernel
theorem dX8_rank_23 : decode cX8_rank 23 = .ok (.invokestatic 45, 3) := by decide +kernel
theorem dX8_rank_26 : decode cX8_rank 26 = .ok (.ifCond .ne 9, 3) := by decide +kernel
theorem dX8_rank_29 : decode cX8_rank 29 = .ok (.aload_n 0, 1) := by decide +kernel
theorem dX8_rank_30 : decode cX8_rank 30 = .ok (.iconst 2, 1) := by decide +kernel
theorem dX8_rank_31 : decode cX8_rank 31 = .ok (.invokevirtual 64, 3) := by decide +kernel
theorem dX8_rank_34 : decode cX8_rank 34 = .ok (.ireturn, 1) := by decide +kernel
theorem dX8_rank_35 : decode cX8_rank 35 = .ok (.iconst 0, 1) := by decide +kernel
theorem dX8_rank_36 : decode cX8_rank 36 = .ok (.istore_n 3, 1) := by decide +kernel
theorem dX8_rank_37 : decode cX8_rank 37 = .ok (.iconst 0, 1) := by decide +kernel
theorem dX8_rank_38 : decode cX8_rank 38 = .ok (.istore 4, 2) := by decide +kernel
theorem dX8_rank_40 : decode cX8_rank 40 = .ok (.iload 4, 2) := by decide +kernel
theorem dX8_rank_42 : decode cX8_rank 42 = .ok (.aload_n 0, 1) := by decide +kernel
theorem dX8_rank_43 : decode cX8_rank 43 = .ok (.getfield 7, 3) := by decide +kernel
theorem dX8_rank_46 : decode cX8_rank 46 = .ok (.iload_n 1, 1) := by decide +kernel
theorem dX8_rank_47 : decode cX8_rank 47 = .ok (.iaload, 1) := by decide +kernel
theorem dX8_rank_48 : decode cX8_rank 48 = .ok (.if_icmp .ge 28, 3) := by decide +kernel
theorem dX8_rank_51 : decode cX8_rank 51 = .ok (.iload_n 3, 1) := by decide +kernel
theorem dX8_rank_52 : decode cX8_rank 52 = .ok (.aload_n 0, 1) := by decide +kernel
theorem dX8_rank_53 : decode cX8_rank 53 = .ok (.iload_n 1, 1) := by decide +kernel
theorem dX8_rank_54 : decode cX8_rank 54 = .ok (.iload 4, 2) := by decide +kernel
theorem dX8_rank_56 : decode cX8_rank 56 = .ok (.invokevirtual 56, 3) := by decide +kernel
theorem dX8_rank_59 : decode cX8_rank 59 = .ok (.iload_n 2, 1) := by decide +kernel
theorem dX8_rank_60 : decode cX8_rank 60 = .ok (.if_icmp .ge 7, 3) := by decide +kernel
theorem dX8_rank_63 : decode cX8_rank 63 = .ok (.iconst 1, 1) := by decide +kernel
theorem dX8_rank_64 : decode cX8_rank 64 = .ok (.goto 4, 3) := by decide +kernel
theorem dX8_rank_67 : decode cX8_rank 67 = .ok (.iconst 0, 1) := by decide +kernel
theorem dX8_rank_68 : decode cX8_rank 68 = .ok (.iadd, 1) := by decide +kernel
theorem dX8_rank_69 : decode cX8_rank 69 = .ok (.istore_n 3, 1) := by decide +kernel
theorem dX8_rank_70 : decode cX8_rank 70 = .ok (.iinc 4 1, 3) := by decide +kernel
theorem dX8_rank_73 : decode cX8_rank 73 = .ok (.goto (-33), 3) := by decide +kernel
theorem dX8_rank_76 : decode cX8_rank 76 = .ok (.iload_n 3, 1) := by decide +kernel
theorem dX8_rank_77 : decode cX8_rank 77 = .ok (.ireturn, 1) := by decide +kernel
theorem dX8_lowBits_0 : decode cX8_lowBits 0 = .ok (.iconst 0, 1) := by decide +kernel
theorem dX8_lowBits_1 : decode cX8_lowBits 1 = .ok (.istore_n 2, 1) := by decide +kernel
theorem dX8_lowBits_2 : decode cX8_lowBits 2 = .ok (.iload_n 0, 1) := by decide +kernel
theorem dX8_lowBits_3 : decode cX8_lowBits 3 = .ok (.iload_n 2, 1) := by decide +kernel
theorem dX8_lowBits_4 : decode cX8_lowBits 4 = .ok (.iconst 1, 1) := by decide +kernel
theorem dX8_lowBits_5 : decode cX8_lowBits 5 = .ok (.iadd, 1) := by decide +kernel
theorem dX8_lowBits_6 : decode cX8_lowBits 6 = .ok (.ishl, 1) := by decide +kernel
theorem dX8_lowBits_7 : decode cX8_lowBits 7 = .ok (.iload_n 1, 1) := by decide +kernel
theorem dX8_lowBits_8 : decode cX8_lowBits 8 = .ok (.if_icmp .gt 9, 3) := by decide +kernel
theorem dX8_lowBits_11 : decode cX8_lowBits 11 = .ok (.iinc 2 1, 3) := by decide +kernel
theorem dX8_lowBits_14 : decode cX8_lowBits 14 = .ok (.goto (-12), 3) := by decide +kernel
theorem dX8_lowBits_17 : decode cX8_lowBits 17 = .ok (.iload_n 2, 1) := by decide +kernel
theorem dX8_lowBits_18 : decode cX8_lowBits 18 = .ok (.ireturn, 1) := by decide +kernel
theorem dX8_sparse_0 : decode cX8_sparse 0 = .ok (.iload_n 0, 1) := by decide +kernel
theorem dX8_sparse_1 : decode cX8_sparse 1 = .ok (.iload_n 1, 1) := by decide +kernel
theorem dX8_sparse_2 : decode cX8_sparse 2 = .ok (.invokestatic 82, 3) := by decide +kernel
theorem dX8_sparse_5 : decode cX8_sparse 5 = .ok (.istore_n 2, 1) := by decide +kernel
theorem dX8_sparse_6 : decode cX8_sparse 6 = .ok (.iload_n 0, 1) := by decide +kernel
theorem dX8_sparse_7 : decode cX8_sparse 7 = .ok (.iload_n 1, 1) := by decide +kernel
theorem dX8_sparse_8 : decode cX8_sparse 8 = .ok (.iconst 1, 1) := by decide +kernel
theorem dX8_sparse_9 : decode cX8_sparse 9 = .ok (.isub, 1) := by decide +kernel
theorem dX8_sparse_10 : decode cX8_sparse 10 = .ok (.iload_n 2, 1) := by decide +kernel
theorem dX8_sparse_11 : decode cX8_sparse 11 = .ok (.ishr, 1) := by decide +kernel
theorem dX8_sparse_12 : decode cX8_sparse 12 = .ok (.iadd, 1) := by decide +kernel
theorem dX8_sparse_13 : decode cX8_sparse 13 = .ok (.iconst 1, 1) := by decide +kernel
theorem dX8_sparse_14 : decode cX8_sparse 14 = .ok (.iadd, 1) := by decide +kernel
theorem dX8_sparse_15 : decode cX8_sparse 15 = .ok (.iload_n 0, 1) := by decide +kernel
theorem dX8_sparse_16 : decode cX8_sparse 16 = .ok (.iload_n 2, 1) := by decide +kernel
theorem dX8_sparse_17 : decode cX8_sparse 17 = .ok (.imul, 1) := by decide +kernel
theorem dX8_sparse_18 : decode cX8_sparse 18 = .ok (.iadd, 1) := by decide +kernel
theorem dX8_sparse_19 : decode cX8_sparse 19 = .ok (.ireturn, 1) := by decide +kernel
theorem dX8_kindOf_0 : decode cX8_kindOf 0 = .ok (.iload_n 0, 1) := by decide +kernel
theorem dX8_kindOf_1 : decode cX8_kindOf 1 = .ok (.iload_n 1, 1) := by decide +kernel
theorem dX8_kindOf_2 : decode cX8_kindOf 2 = .ok (.if_icmp .ne 7, 3) := by decide +kernel
theorem dX8_kindOf_5 : decode cX8_kindOf 5 = .ok (.iconst 0, 1) := by decide +kernel
theorem dX8_kindOf_6 : decode cX8_kindOf 6 = .ok (.goto 17, 3) := by decide +kernel
theorem dX8_kindOf_9 : decode cX8_kindOf 9 = .ok (.iload_n 1, 1) := by decide +kernel
theorem dX8_kindOf_10 : decode cX8_kindOf 10 = .ok (.iload_n 0, 1) := by decide +kernel
theorem dX8_kindOf_11 : decode cX8_kindOf 11 = .ok (.iload_n 1, 1) := by decide +kernel
theorem dX8_kindOf_12 : decode cX8_kindOf 12 = .ok (.invokestatic 85, 3) := by decide +kernel
theorem dX8_kindOf_15 : decode cX8_kindOf 15 = .ok (.if_icmp .gt 7, 3) := by decide +kernel
theorem dX8_kindOf_18 : decode cX8_kindOf 18 = .ok (.iconst 1, 1) := by decide +kernel
theorem dX8_kindOf_19 : decode cX8_kindOf 19 = .ok (.goto 4, 3) := by decide +kernel
theorem dX8_kindOf_22 : decode cX8_kindOf 22 = .ok (.iconst 2, 1) := by decide +kernel
theorem dX8_kindOf_23 : decode cX8_kindOf 23 = .ok (.ireturn, 1) := by decide +kernel
theorem dX8_sizeOf_0 : decode cX8_sizeOf 0 = .ok (.aload_n 0, 1) := by decide +kernel
theorem dX8_sizeOf_1 : decode cX8_sizeOf 1 = .ok (.iload_n 1, 1) := by decide +kernel
theorem dX8_sizeOf_2 : decode cX8_sizeOf 2 = .ok (.iload_n 3, 1) := by decide +kernel
theorem dX8_sizeOf_3 : decode cX8_sizeOf 3 = .ok (.iconst 1, 1) := by decide +kernel
theorem dX8_sizeOf_4 : decode cX8_sizeOf 4 = .ok (.isub, 1) := by decide +kernel
theorem dX8_sizeOf_5 : decode cX8_sizeOf 5 = .ok (.invokevirtual 56, 3) := by decide +kernel
theorem dX8_sizeOf_8 : decode cX8_sizeOf 8 = .ok (.aload_n 0, 1) := by decide +kernel
theorem dX8_sizeOf_9 : decode cX8_sizeOf 9 = .ok (.iload_n 1, 1) := by decide +kernel
theorem dX8_sizeOf_10 : decode cX8_sizeOf 10 = .ok (.iload_n 2, 1) := by decide +kernel
theorem dX8_sizeOf_11 : decode cX8_sizeOf 11 = .ok (.invokevirtual 56, 3) := by decide +kernel
theorem dX8_sizeOf_14 : decode cX8_sizeOf 14 = .ok (.isub, 1) := by decide +kernel
theorem dX8_sizeOf_15 : decode cX8_sizeOf 15 = .ok (.iconst 1, 1) := by decide +kernel
theorem dX8_sizeOf_16 : decode cX8_sizeOf 16 = .ok (.iadd, 1) := by decide +kernel
theorem dX8_sizeOf_17 : decode cX8_sizeOf 17 = .ok (.istore 4, 2) := by decide +kernel
theorem dX8_sizeOf_19 : decode cX8_sizeOf 19 = .ok (.iload_n 3, 1) := by decide +kernel
theorem dX8_sizeOf_20 : decode cX8_sizeOf 20 = .ok (.iload_n 2, 1) := by decide +kernel
theorem dX8_sizeOf_21 : decode cX8_sizeOf 21 = .ok (.isub, 1) := by decide +kernel
theorem dX8_sizeOf_22 : decode cX8_sizeOf 22 = .ok (.iload 4, 2) := by decide +kernel
theorem dX8_sizeOf_24 : decode cX8_sizeOf 24 = .ok (.invokestatic 88, 3) := by decide +kernel
theorem dX8_sizeOf_27 : decode cX8_sizeOf 27 = .ok (.istore 5, 2) := by decide +kernel
theorem dX8_sizeOf_29 : decode cX8_sizeOf 29 = .ok (.bipush 26, 2) := by decide +kernel
theorem dX8_sizeOf_31 : decode cX8_sizeOf 31 = .ok (.iload 5, 2) := by decide +kernel
theorem dX8_sizeOf_33 : decode cX8_sizeOf 33 = .ok (.ifCond .ne 7, 3) := by decide +kernel
theorem dX8_sizeOf_36 : decode cX8_sizeOf 36 = .ok (.iconst 0, 1) := by decide +kernel
theorem dX8_sizeOf_37 : decode cX8_sizeOf 37 = .ok (.goto 22, 3) := by decide +kernel
theorem dX8_sizeOf_40 : decode cX8_sizeOf 40 = .ok (.iload 5, 2) := by decide +kernel
theorem dX8_sizeOf_42 : decode cX8_sizeOf 42 = .ok (.iconst 1, 1) := by decide +kernel
theorem dX8_sizeOf_43 : decode cX8_sizeOf 43 = .ok (.if_icmp .ne 8, 3) := by decide +kernel
theorem dX8_sizeOf_46 : decode cX8_sizeOf 46 = .ok (.iload 4, 2) := by decide +kernel
theorem dX8_sizeOf_48 : decode cX8_sizeOf 48 = .ok (.goto 11, 3) := by decide +kernel
theorem dX8_sizeOf_51 : decode cX8_sizeOf 51 = .ok (.iload_n 3, 1) := by decide +kernel
theorem dX8_sizeOf_52 : decode cX8_sizeOf 52 = .ok (.iload_n 2, 1) := by decide +kernel
theorem dX8_sizeOf_53 : decode cX8_sizeOf 53 = .ok (.isub, 1) := by decide +kernel
theorem dX8_sizeOf_54 : decode cX8_sizeOf 54 = .ok (.iload 4, 2) := by decide +kernel
theorem dX8_sizeOf_56 : decode cX8_sizeOf 56 = .ok (.invokestatic 85, 3) := by decide +kernel
theorem dX8_sizeOf_59 : decode cX8_sizeOf 59 = .ok (.iadd, 1) := by decide +kernel
theorem dX8_sizeOf_60 : decode cX8_sizeOf 60 = .ok (.ireturn, 1) := by decide +kernel
theorem dX8_lay_0 : decode cX8_lay 0 = .ok (.aload_n 0, 1) := by decide +kernel
theorem dX8_lay_1 : decode cX8_lay 1 = .ok (.getfield 22, 3) := by decide +kernel
theorem dX8_lay_4 : decode cX8_lay 4 = .ok (.iload_n 1, 1) := by decide +kernel
theorem dX8_lay_5 : decode cX8_lay 5 = .ok (.baload, 1) := by decide +kernel
theorem dX8_lay_6 : decode cX8_lay 6 = .ok (.ifCond .eq 4, 3) := by decide +kernel
theorem dX8_lay_9 : decode cX8_lay 9 = .ok (.return_, 1) := by decide +kernel
theorem dX8_lay_10 : decode cX8_lay 10 = .ok (.aload_n 0, 1) := by decide +kernel
theorem dX8_lay_11 : decode cX8_lay 11 = .ok (.getfield 22, 3) := by decide +kernel
theorem dX8_lay_14 : decode cX8_lay 14 = .ok (.iload_n 1, 1) := by decide +kernel
theorem dX8_lay_15 : decode cX8_lay 15 = .ok (.iconst 1, 1) := by decide +kernel
theorem dX8_lay_16 : decode cX8_lay 16 = .ok (.bastore, 1) := by decide +kernel
theorem dX8_lay_17 : decode cX8_lay 17 = .ok (.aload_n 0, 1) := by decide +kernel
theorem dX8_lay_18 : decode cX8_lay 18 = .ok (.getfield 7, 3) := by decide +kernel
theorem dX8_lay_21 : decode cX8_lay 21 = .ok (.iload_n 1, 1) := by decide +kernel
theorem dX8_lay_22 : decode cX8_lay 22 = .ok (.iaload, 1) := by decide +kernel
theorem dX8_lay_23 : decode cX8_lay 23 = .ok (.istore_n 2, 1) := by decide +kernel
theorem dX8_lay_24 : decode cX8_lay 24 = .ok (.aload_n 0, 1) := by decide +kernel
theorem dX8_lay_25 : decode cX8_lay 25 = .ok (.getfield 26, 3) := by decide +kernel
theorem dX8_lay_28 : decode cX8_lay 28 = .ok (.iload_n 2, 1) := by decide +kernel
theorem dX8_lay_29 : decode cX8_lay 29 = .ok (.iconst 0, 1) := by decide +kernel
theorem dX8_lay_30 : decode cX8_lay 30 = .ok (.iastore, 1) := by decide +kernel
theorem dX8_lay_31 : decode cX8_lay 31 = .ok (.aload_n 0, 1) := by decide +kernel
theorem dX8_lay_32 : decode cX8_lay 32 = .ok (.getfield 29, 3) := by decide +kernel
theorem dX8_lay_35 : decode cX8_lay 35 = .ok (.iload_n 2, 1) := by decide +kernel
theorem dX8_lay_36 : decode cX8_lay 36 = .ok (.iconst 0, 1) := by decide +kernel
theorem dX8_lay_37 : decode cX8_lay 37 = .ok (.iastore, 1) := by decide +kernel
theorem dX8_lay_38 : decode cX8_lay 38 = .ok (.iload_n 2, 1) := by decide +kernel
theorem dX8_lay_39 : decode cX8_lay 39 = .ok (.iconst 1, 1) := by decide +kernel
theorem dX8_lay_40 : decode cX8_lay 40 = .ok (.isub, 1) := by decide +kernel
theorem dX8_lay_41 : decode cX8_lay 41 = .ok (.istore_n 3, 1) := by decide +kernel
theorem dX8_lay_42 : decode cX8_lay 42 = .ok (.iload_n 3, 1) := by decide +kernel
theorem dX8_lay_43 : decode cX8_lay 43 = .ok (.ifCond .lt 123, 3) := by decide +kernel
theorem dX8_lay_46 : decode cX8_lay 46 = .ok (.aload_n 0, 1) := by decide +kernel
theorem dX8_lay_47 : decode cX8_lay 47 = .ok (.getfield 26, 3) := by decide +kernel
theorem dX8_lay_50 : decode cX8_lay 50 = .ok (.iload_n 3, 1) := by decide +kernel
theorem dX8_lay_51 : decode cX8_lay 51 = .ok (.ldc 91, 2) := by decide +kernel
theorem dX8_lay_53 : decode cX8_lay 53 = .ok (.iastore, 1) := by decide +kernel
theorem dX8_lay_54 : decode cX8_lay 54 = .ok (.iload_n 3, 1) := by decide +kernel
theorem dX8_lay_55 : decode cX8_lay 55 = .ok (.iconst 1, 1) := by decide +kernel
theorem dX8_lay_56 : decode cX8_lay 56 = .ok (.iadd, 1) := by decide +kernel
theorem dX8_lay_57 : decode cX8_lay 57 = .ok (.istore 4, 2) := by decide +kernel
theorem dX8_lay_59 : decode cX8_lay 59 = .ok (.iload 4, 2) := by decide +kernel
theorem dX8_lay_61 : decode cX8_lay 61 = .ok (.iload_n 2, 1) := by decide +kernel
theorem dX8_lay_62 : decode cX8_lay 62 = .ok (.if_icmp .gt 98, 3) := by decide +kernel
theorem dX8_lay_65 : decode cX8_lay 65 = .ok (.aload_n 0, 1) := by decide +kernel
theorem dX8_lay_66 : decode cX8_lay 66 = .ok (.iload_n 1, 1) := by decide +kernel
theorem dX8_lay_67 : decode cX8_lay 67 = .ok (.iload_n 3, 1) := by decide +kernel
theorem dX8_lay_68 : decode cX8_lay 68 = .ok (.iload 4, 2) := by decide +kernel
theorem dX8_lay_70 : decode cX8_lay 70 = .ok (.invokevirtual 92, 3) := by decide +kernel
theorem dX8_lay_73 : decode cX8_lay 73 = .ok (.aload_n 0, 1) := by decide +kernel
theorem dX8_lay_74 : decode cX8_lay 74 = .ok (.getfield 26, 3) := by decide +kernel
theorem dX8_lay_77 : decode cX8_lay 77 = .ok (.iload 4, 2) := by decide +kernel
theorem dX8_lay_79 : decode cX8_lay 79 = .ok (.iaload, 1) := by decide +kernel
theorem dX8_lay_80 : decode cX8_lay 80 = .ok (.iadd, 1) := by decide +kernel
theorem dX8_lay_81 : decode cX8_lay 81 = .ok (.istore 5, 2) := by decide +kernel
theorem dX8_lay_83 : decode cX8_lay 83 = .ok (.iload 5, 2) := by decide +kernel
theorem dX8_lay_85 : decode cX8_lay 85 = .ok (.aload_n 0, 1) := by decide +kernel
theorem dX8_lay_86 : decode cX8_lay 86 = .ok (.getfield 26, 3) := by decide +kernel
theorem dX8_lay_89 : decode cX8_lay 89 = .ok (.iload_n 3, 1) := by decide +kernel
theorem dX8_lay_90 : decode cX8_lay 90 = .ok (.iaload, 1) := by decide +kernel
theorem dX8_lay_91 : decode cX8_lay 91 = .ok (.if_icmp .lt 32, 3) := by decide +kernel
theorem dX8_lay_94 : decode cX8_lay 94 = .ok (.iload 5, 2) := by decide +kernel
theorem dX8_lay_96 : decode cX8_lay 96 = .ok (.aload_n 0, 1) := by decide +kernel
theorem dX8_lay_97 : decode cX8_lay 97 = .ok (.getfield 26, 3) := by decide +kernel
theorem dX8_lay_100 : decode cX8_lay 100 = .ok (.iload_n 3, 1) := by decide +kernel
theorem dX8_lay_101 : decode cX8_lay 101 = .ok (.iaload, 1) := by decide +kernel
theorem dX8_lay_102 : decode cX8_lay 102 = .ok (.if_icmp .ne 52, 3) := by decide +kernel
theorem dX8_lay_105 : decode cX8_lay 105 = .ok (.aload_n 0, 1) := by decide +kernel
theorem dX8_lay_106 : decode cX8_lay 106 = .ok (.getfield 29, 3) := by decide +kernel
theorem dX8_lay_109 : decode cX8_lay 109 = .ok (.iload 4, 2) := by decide +kernel
theorem dX8_lay_111 : decode cX8_lay 111 = .ok (.iaload, 1) := by decide +kernel
theorem dX8_lay_112 : decode cX8_lay 112 = .ok (.iconst 1, 1) := by decide +kernel
theorem dX8_lay_113 : decode cX8_lay 113 = .ok (.iadd, 1) := by decide +kernel
theorem dX8_lay_114 : decode cX8_lay 114 = .ok (.aload_n 0, 1) := by decide +kernel
theorem dX8_lay_115 : decode cX8_lay 115 = .ok (.getfield 29, 3) := by decide +kernel
theorem dX8_lay_118 : decode cX8_lay 118 = .ok (.iload_n 3, 1) := by decide +kernel
theorem dX8_lay_119 : decode cX8_lay 119 = .ok (.iaload, 1) := by decide +kernel
theorem dX8_lay_120 : decode cX8_lay 120 = .ok (.if_icmp .ge 34, 3) := by decide +kernel
theorem dX8_lay_123 : decode cX8_lay 123 = .ok (.aload_n 0, 1) := by decide +kernel
theorem dX8_lay_124 : decode cX8_lay 124 = .ok (.getfield 26, 3) := by decide +kernel
theorem dX8_lay_127 : decode cX8_lay 127 = .ok (.iload_n 3, 1) := by decide +kernel
theorem dX8_lay_128 : decode cX8_lay 128 = .ok (.iload 5, 2) := by decide +kernel
theorem dX8_lay_130 : decode cX8_lay 130 = .ok (.iastore, 1) := by decide +kernel
theorem dX8_lay_131 : decode cX8_lay 131 = .ok (.aload_n 0, 1) := by decide +kernel
theorem dX8_lay_132 : decode cX8_lay 132 = .ok (.getfield 29, 3) := by decide +kernel
theorem dX8_lay_135 : decode cX8_lay 135 = .ok (.iload_n 3, 1) := by decide +kernel
theorem dX8_lay_136 : decode cX8_lay 136 = .ok (.aload_n 0, 1) := by decide +kernel
theorem dX8_lay_137 : decode cX8_lay 137 = .ok (.getfield 29, 3) := by decide +kernel
theorem dX8_lay_140 : decode cX8_lay 140 = .ok (.iload 4, 2) := by decide +kernel
theorem dX8_lay_142 : decode cX8_lay 142 = .ok (.iaload, 1) := by decide +kernel
theorem dX8_lay_143 : decode cX8_lay 143 = .ok (.iconst 1, 1) := by decide +kernel
theorem dX8_lay_144 : decode cX8_lay 144 = .ok (.iadd, 1) := by decide +kernel
theorem dX8_lay_145 : decode cX8_lay 145 = .ok (.iastore, 1) := by decide +kernel
theorem dX8_lay_146 : decode cX8_lay 146 = .ok (.aload_n 0, 1) := by decide +kernel
theorem dX8_lay_147 : decode cX8_lay 147 = .ok (.getfield 32, 3) := by decide +kernel
theorem dX8_lay_150 : decode cX8_lay 150 = .ok (.iload_n 3, 1) := by decide +kernel
theorem dX8_lay_151 : decode cX8_lay 151 = .ok (.iload 4, 2) := by decide +kernel
theorem dX8_lay_153 : decode cX8_lay 153 = .ok (.iastore, 1) := by decide +kernel
theorem dX8_lay_154 : decode cX8_lay 154 = .ok (.iinc 4 1, 3) := by decide +kernel
theorem dX8_lay_157 : decode cX8_lay 157 = .ok (.goto (-98), 3) := by decide +kernel
theorem dX8_lay_160 : decode cX8_lay 160 = .ok (.iinc 3 (-1), 3) := by decide +kernel
theorem dX8_lay_163 : decode cX8_lay 163 = .ok (.goto (-121), 3) := by decide +kernel
theorem dX8_lay_166 : decode cX8_lay 166 = .ok (.bipush 65, 2) := by decide +kernel
theorem dX8_lay_168 : decode cX8_lay 168 = .ok (.iload_n 1, 1) := by decide +kernel
theorem dX8_lay_169 : decode cX8_lay 169 = .ok (.imul, 1) := by decide +kernel
theorem dX8_lay_170 : decode cX8_lay 170 = .ok (.istore_n 3, 1) := by decide +kernel
theorem dX8_lay_171 : decode cX8_lay 171 = .ok (.aload_n 0, 1) := by decide +kernel
theorem dX8_lay_172 : decode cX8_lay 172 = .ok (.getfield 16, 3) := by decide +kernel
theorem dX8_lay_175 : decode cX8_lay 175 = .ok (.iload_n 3, 1) := by decide +kernel
theorem dX8_lay_176 : decode cX8_lay 176 = .ok (.iconst 0, 1) := by decide +kernel
theorem dX8_lay_177 : decode cX8_lay 177 = .ok (.iastore, 1) := by decide +kernel
theorem dX8_lay_178 : decode cX8_lay 178 = .ok (.aload_n 0, 1) := by decide +kernel
theorem dX8_lay_179 : decode cX8_lay 179 = .ok (.getfield 19, 3) := by decide +kernel
theorem dX8_lay_182 : decode cX8_lay 182 = .ok (.iload_n 1, 1) := by decide +kernel
theorem dX8_lay_183 : decode cX8_lay 183 = .ok (.iconst 0, 1) := by decide +kernel
theorem dX8_lay_184 : decode cX8_lay 184 = .ok (.iastore, 1) := by decide +kernel
theorem dX8_lay_185 : decode cX8_lay 185 = .ok (.aload_n 0, 1) := by decide +kernel
theorem dX8_lay_186 : decode cX8_lay 186 = .ok (.getfield 16, 3) := by decide +kernel
theorem dX8_lay_189 : decode cX8_lay 189 = .ok (.iload_n 3, 1) := by decide +kernel
theorem dX8_lay_190 : decode cX8_lay 190 = .ok (.aload_n 0, 1) := by decide +kernel
theorem dX8_lay_191 : decode cX8_lay 191 = .ok (.getfield 19, 3) := by decide +kernel
theorem dX8_lay_194 : decode cX8_lay 194 = .ok (.iload_n 1, 1) := by decide +kernel
theorem dX8_lay_195 : decode cX8_lay 195 = .ok (.iaload, 1) := by decide +kernel
theorem dX8_lay_196 : decode cX8_lay 196 = .ok (.iadd, 1) := by decide +kernel
theorem dX8_lay_197 : decode cX8_lay 197 = .ok (.iaload, 1) := by decide +kernel
theorem dX8_lay_198 : decode cX8_lay 198 = .ok (.iload_n 2, 1) := by decide +kernel
theorem dX8_lay_199 : decode cX8_lay 199 = .ok (.if_icmp .ge 49, 3) := by decide +kernel
theorem dX8_lay_202 : decode cX8_lay 202 = .ok (.aload_n 0, 1) := by decide +kernel
theorem dX8_lay_203 : decode cX8_lay 203 = .ok (.getfield 16, 3) := by decide +kernel
theorem dX8_lay_206 : decode cX8_lay 206 = .ok (.iload_n 3, 1) := by decide +kernel
theorem dX8_lay_207 : decode cX8_lay 207 = .ok (.aload_n 0, 1) := by decide +kernel
theorem dX8_lay_208 : decode cX8_lay 208 = .ok (.getfield 19, 3) := by decide +kernel
theorem dX8_lay_211 : decode cX8_lay 211 = .ok (.iload_n 1, 1) := by decide +kernel
theorem dX8_lay_212 : decode cX8_lay 212 = .ok (.iaload, 1) := by decide +kernel
theorem dX8_lay_213 : decode cX8_lay 213 = .ok (.iadd, 1) := by decide +kernel
theorem dX8_lay_214 : decode cX8_lay 214 = .ok (.iconst 1, 1) := by decide +kernel
theorem dX8_lay_215 : decode cX8_lay 215 = .ok (.iadd, 1) := by decide +kernel
theorem dX8_lay_216 : decode cX8_lay 216 = .ok (.aload_n 0, 1) := by decide +kernel
theorem dX8_lay_217 : decode cX8_lay 217 = .ok (.getfield 32, 3) := by decide +kernel
theorem dX8_lay_220 : decode cX8_lay 220 = .ok (.aload_n 0, 1) := by decide +kernel
theorem dX8_lay_221 : decode cX8_lay 221 = .ok (.getfield 16, 3) := by decide +kernel
theorem dX8_lay_224 : decode cX8_lay 224 = .ok (.iload_n 3, 1) := by decide +kernel
theorem dX8_lay_225 : decode cX8_lay 225 = .ok (.aload_n 0, 1) := by decide +kernel
theorem dX8_lay_226 : decode cX8_lay 226 = .ok (.getfield 19, 3) := by decide +kernel
theorem dX8_lay_229 : decode cX8_lay 229 = .ok (.iload_n 1, 1) := by decide +kernel
theorem dX8_lay_230 : decode cX8_lay 230 = .ok (.iaload, 1) := by decide +kernel
theorem dX8_lay_231 : decode cX8_lay 231 = .ok (.iadd, 1) := by decide +kernel
theorem dX8_lay_232 : decode cX8_lay 232 = .ok (.iaload, 1) := by decide +kernel
theorem dX8_lay_233 : decode cX8_lay 233 = .ok (.iaload, 1) := by decide +kernel
theorem dX8_lay_234 : decode cX8_lay 234 = .ok (.iastore, 1) := by decide +kernel
theorem dX8_lay_235 : decode cX8_lay 235 = .ok (.aload_n 0, 1) := by decide +kernel
theorem dX8_lay_236 : decode cX8_lay 236 = .ok (.getfield 19, 3) := by decide +kernel
theorem dX8_lay_239 : decode cX8_lay 239 = .ok (.iload_n 1, 1) := by decide +kernel
theorem dX8_lay_240 : decode cX8_lay 240 = .ok (.dup2, 1) := by decide +kernel
theorem dX8_lay_241 : decode cX8_lay 241 = .ok (.iaload, 1) := by decide +kernel
theorem dX8_lay_242 : decode cX8_lay 242 = .ok (.iconst 1, 1) := by decide +kernel
theorem dX8_lay_243 : decode cX8_lay 243 = .ok (.iadd, 1) := by decide +kernel
theorem dX8_lay_244 : decode cX8_lay 244 = .ok (.iastore, 1) := by decide +kernel
theorem dX8_lay_245 : decode cX8_lay 245 = .ok (.goto (-60), 3) := by decide +kernel
theorem dX8_lay_248 : decode cX8_lay 248 = .ok (.return_, 1) := by decide +kernel
theorem dX8_beginOf_0 : decode cX8_beginOf 0 = .ok (.aload_n 0, 1) := by decide +kernel
theorem dX8_beginOf_1 : decode cX8_beginOf 1 = .ok (.getfield 16, 3) := by decide +kernel
theorem dX8_beginOf_4 : decode cX8_beginOf 4 = .ok (.bipush 65, 2) := by decide +kernel
theorem dX8_beginOf_6 : decode cX8_beginOf 6 = .ok (.iload_n 1, 1) := by decide +kernel
theorem dX8_beginOf_7 : decode cX8_beginOf 7 = .ok (.imul, 1) := by decide +kernel
theorem dX8_beginOf_8 : decode cX8_beginOf 8 = .ok (.iload_n 2, 1) := by decide +kernel
theorem dX8_beginOf_9 : decode cX8_beginOf 9 = .ok (.iadd, 1) := by decide +kernel
theorem dX8_beginOf_10 : decode cX8_beginOf 10 = .ok (.iaload, 1) := by decide +kernel
theorem dX8_beginOf_11 : decode cX8_beginOf 11 = .ok (.ireturn, 1) := by decide +kernel
theorem dX8_documentsIn_0 : decode cX8_documentsIn 0 = .ok (.aload_n 0, 1) := by decide +kernel
theorem dX8_documentsIn_1 : decode cX8_documentsIn 1 = .ok (.iload_n 1, 1) := by decide +kernel
theorem dX8_documentsIn_2 : decode cX8_documentsIn 2 = .ok (.iload_n 2, 1) := by decide +kernel
theorem dX8_documentsIn_3 : decode cX8_documentsIn 3 = .ok (.iconst 1, 1) := by decide +kernel
theorem dX8_documentsIn_4 : decode cX8_documentsIn 4 = .ok (.iadd, 1) := by decide +kernel
theorem dX8_documentsIn_5 : decode cX8_documentsIn 5 = .ok (.invokevirtual 96, 3) := by decide +kernel
theorem dX8_documentsIn_8 : decode cX8_documentsIn 8 = .ok (.aload_n 0, 1) := by decide +kernel
theorem dX8_documentsIn_9 : decode cX8_documentsIn 9 = .ok (.iload_n 1, 1) := by decide +kernel
theorem dX8_documentsIn_10 : decode cX8_documentsIn 10 = .ok (.iload_n 2, 1) := by decide +kernel
theorem dX8_documentsIn_11 : decode cX8_documentsIn 11 = .ok (.invokevirtual 96, 3) := by decide +kernel
theorem dX8_documentsIn_14 : decode cX8_documentsIn 14 = .ok (.isub, 1) := by decide +kernel
theorem dX8_documentsIn_15 : decode cX8_documentsIn 15 = .ok (.ireturn, 1) := by decide +kernel
theorem dX8_firstIn_0 : decode cX8_firstIn 0 = .ok (.aload_n 0, 1) := by decide +kernel
theorem dX8_firstIn_1 : decode cX8_firstIn 1 = .ok (.iload_n 1, 1) := by decide +kernel
theorem dX8_firstIn_2 : decode cX8_firstIn 2 = .ok (.aload_n 0, 1) := by decide +kernel
theorem dX8_firstIn_3 : decode cX8_firstIn 3 = .ok (.iload_n 1, 1) := by decide +kernel
theorem dX8_firstIn_4 : decode cX8_firstIn 4 = .ok (.iload_n 2, 1) := by decide +kernel
theorem dX8_firstIn_5 : decode cX8_firstIn 5 = .ok (.invokevirtual 96, 3) := by decide +kernel
theorem dX8_firstIn_8 : decode cX8_firstIn 8 = .ok (.invokevirtual 56, 3) := by decide +kernel
theorem dX8_firstIn_11 : decode cX8_firstIn 11 = .ok (.ireturn, 1) := by decide +kernel
theorem dX8_lastIn_0 : decode cX8_lastIn 0 = .ok (.aload_n 0, 1) := by decide +kernel
theorem dX8_lastIn_1 : decode cX8_lastIn 1 = .ok (.iload_n 1, 1) := by decide +kernel
theorem dX8_lastIn_2 : decode cX8_lastIn 2 = .ok (.aload_n 0, 1) := by decide +kernel
theorem dX8_lastIn_3 : decode cX8_lastIn 3 = .ok (.iload_n 1, 1) := by decide +kernel
theorem dX8_lastIn_4 : decode cX8_lastIn 4 = .ok (.iload_n 2, 1) := by decide +kernel
theorem dX8_lastIn_5 : decode cX8_lastIn 5 = .ok (.iconst 1, 1) := by decide +kernel
theorem dX8_lastIn_6 : decode cX8_lastIn 6 = .ok (.iadd, 1) := by decide +kernel
theorem dX8_lastIn_7 : decode cX8_lastIn 7 = .ok (.invokevirtual 96, 3) := by decide +kernel
theorem dX8_lastIn_10 : decode cX8_lastIn 10 = .ok (.iconst 1, 1) := by decide +kernel
theorem dX8_lastIn_11 : decode cX8_lastIn 11 = .ok (.isub, 1) := by decide +kernel
theorem dX8_lastIn_12 : decode cX8_lastIn 12 = .ok (.invokevirtual 56, 3) := by decide +kernel
theorem dX8_lastIn_15 : decode cX8_lastIn 15 = .ok (.ireturn, 1) := by decide +kernel
theorem dX8_widthOf_0 : decode cX8_widthOf 0 = .ok (.aload_n 0, 1) := by decide +kernel
theorem dX8_widthOf_1 : decode cX8_widthOf 1 = .ok (.iload_n 1, 1) := by decide +kernel
theorem dX8_widthOf_2 : decode cX8_widthOf 2 = .ok (.iload_n 2, 1) := by decide +kernel
theorem dX8_widthOf_3 : decode cX8_widthOf 3 = .ok (.invokevirtual 99, 3) := by decide +kernel
theorem dX8_widthOf_6 : decode cX8_widthOf 6 = .ok (.aload_n 0, 1) := by decide +kernel
theorem dX8_widthOf_7 : decode cX8_widthOf 7 = .ok (.iload_n 1, 1) := by decide +kernel
theorem dX8_widthOf_8 : decode cX8_widthOf 8 = .ok (.iload_n 2, 1) := by decide +kernel
theorem dX8_widthOf_9 : decode cX8_widthOf 9 = .ok (.invokevirtual 102, 3) := by decide +kernel
theorem dX8_widthOf_12 : decode cX8_widthOf 12 = .ok (.isub, 1) := by decide +kernel
theorem dX8_widthOf_13 : decode cX8_widthOf 13 = .ok (.iconst 1, 1) := by decide +kernel
theorem dX8_widthOf_14 : decode cX8_widthOf 14 = .ok (.iadd, 1) := by decide +kernel
theorem dX8_widthOf_15 : decode cX8_widthOf 15 = .ok (.ireturn, 1) := by decide +kernel
theorem dX8_kindIn_0 : decode cX8_kindIn 0 = .ok (.aload_n 0, 1) := by decide +kernel
theorem dX8_kindIn_1 : decode cX8_kindIn 1 = .ok (.iload_n 1, 1) := by decide +kernel
theorem dX8_kindIn_2 : decode cX8_kindIn 2 = .ok (.iload_n 2, 1) := by decide +kernel
theorem dX8_kindIn_3 : decode cX8_kindIn 3 = .ok (.invokevirtual 105, 3) := by decide +kernel
theorem dX8_kindIn_6 : decode cX8_kindIn 6 = .ok (.aload_n 0, 1) := by decide +kernel
theorem dX8_kindIn_7 : decode cX8_kindIn 7 = .ok (.iload_n 1, 1) := by decide +kernel
theorem dX8_kindIn_8 : decode cX8_kindIn 8 = .ok (.iload_n 2, 1) := by decide +kernel
theorem dX8_kindIn_9 : decode cX8_kindIn 9 = .ok (.invokevirtual 108, 3) := by decide +kernel
theorem dX8_kindIn_12 : decode cX8_kindIn 12 = .ok (.invokestatic 88, 3) := by decide +kernel
theorem dX8_kindIn_15 : decode cX8_kindIn 15 = .ok (.ireturn, 1) := by decide +kernel
theorem dX8_lowIn_0 : decode cX8_lowIn 0 = .ok (.aload_n 0, 1) := by decide +kernel
theorem dX8_lowIn_1 : decode cX8_lowIn 1 = .ok (.iload_n 1, 1) := by decide +kernel
theorem dX8_lowIn_2 : decode cX8_lowIn 2 = .ok (.iload_n 2, 1) := by decide +kernel
theorem dX8_lowIn_3 : decode cX8_lowIn 3 = .ok (.invokevirtual 111, 3) := by decide +kernel
theorem dX8_lowIn_6 : decode cX8_lowIn 6 = .ok (.iconst 2, 1) := by decide +kernel
theorem dX8_lowIn_7 : decode cX8_lowIn 7 = .ok (.if_icmp .ne 21, 3) := by decide +kernel
theorem dX8_lowIn_10 : decode cX8_lowIn 10 = .ok (.aload_n 0, 1) := by decide +kernel
theorem dX8_lowIn_11 : decode cX8_lowIn 11 = .ok (.iload_n 1, 1) := by decide +kernel
theorem dX8_lowIn_12 : decode cX8_lowIn 12 = .ok (.iload_n 2, 1) := by decide +kernel
theorem dX8_lowIn_13 : decode cX8_lowIn 13 = .ok (.invokevirtual 105, 3) := by decide +kernel
theorem dX8_lowIn_16 : decode cX8_lowIn 16 = .ok (.aload_n 0, 1) := by decide +kernel
theorem dX8_lowIn_17 : decode cX8_lowIn 17 = .ok (.iload_n 1, 1) := by decide +kernel
theorem dX8_lowIn_18 : decode cX8_lowIn 18 = .ok (.iload_n 2, 1) := by decide +kernel
theorem dX8_lowIn_19 : decode cX8_lowIn 19 = .ok (.invokevirtual 108, 3) := by decide +kernel
theorem dX8_lowIn_22 : decode cX8_lowIn 22 = .ok (.invokestatic 82, 3) := by decide +kernel
theorem dX8_lowIn_25 : decode cX8_lowIn 25 = .ok (.goto 4, 3) := by decide +kernel
theorem dX8_lowIn_28 : decode cX8_lowIn 28 = .ok (.iconst 0, 1) := by decide +kernel
theorem dX8_lowIn_29 : decode cX8_lowIn 29 = .ok (.ireturn, 1) := by decide +kernel
theorem dX8_partitions_0 : decode cX8_partitions 0 = .ok (.aload_n 0, 1) := by decide +kernel
theorem dX8_partitions_1 : decode cX8_partitions 1 = .ok (.iconst 0, 1) := by decide +kernel
theorem dX8_partitions_2 : decode cX8_partitions 2 = .ok (.putfield 41, 3) := by decide +kernel
theorem dX8_partitions_5 : decode cX8_partitions 5 = .ok (.iload_n 1, 1) := by decide +kernel
theorem dX8_partitions_6 : decode cX8_partitions 6 = .ok (.invokestatic 60, 3) := by decide +kernel
theorem dX8_partitions_9 : decode cX8_partitions 9 = .ok (.ifCond .ne 9, 3) := by decide +kernel
theorem dX8_partitions_12 : decode cX8_partitions 12 = .ok (.aload_n 0, 1) := by decide +kernel
theorem dX8_partitions_13 : decode cX8_partitions 13 = .ok (.iconst 1, 1) := by decide +kernel
theorem dX8_partitions_14 : decode cX8_partitions 14 = .ok (.invokevirtual 64, 3) := by decide +kernel
theorem dX8_partitions_17 : decode cX8_partitions 17 = .ok (.ireturn, 1) := by decide +kernel
theorem dX8_partitions_18 : decode cX8_partitions 18 = .ok (.aload_n 0, 1) := by decide +kernel
theorem dX8_partitions_19 : decode cX8_partitions 19 = .ok (.iload_n 1, 1) := by decide +kernel
theorem dX8_partitions_20 : decode cX8_partitions 20 = .ok (.invokevirtual 114, 3) := by decide +kernel
theorem dX8_partitions_23 : decode cX8_partitions 23 = .ok (.aload_n 0, 1) := by decide +kernel
theorem dX8_partitions_24 : decode cX8_partitions 24 = .ok (.getfield 19, 3) := by decide +kernel
theorem dX8_partitions_27 : decode cX8_partitions 27 = .ok (.iload_n 1, 1) := by decide +kernel
theorem dX8_partitions_28 : decode cX8_partitions 28 = .ok (.iaload, 1) := by decide +kernel
theorem dX8_partitions_29 : decode cX8_partitions 29 = .ok (.ireturn, 1) := by decide +kernel
theorem dX8_property_0 : decode cX8_property 0 = .ok (.iload_n 3, 1) := by decide +kernel
theorem dX8_property_1 : decode cX8_property 1 = .ok (.tableswitch 83 0 4 #[35, 42, 49, 56, 63], 35) := by decide +kernel
theorem dX8_property_36 : decode cX8_property 36 = .ok (.aload_n 0, 1) := by decide +kernel
theorem dX8_property_37 : decode cX8_property 37 = .ok (.iload_n 1, 1) := by decide +kernel
theorem dX8_property_38 : decode cX8_property 38 = .ok (.iload_n 2, 1) := by decide +kernel
theorem dX8_property_39 : decode cX8_property 39 = .ok (.invokevirtual 111, 3) := by decide +kernel
theorem dX8_property_42 : decode cX8_property 42 = .ok (.ireturn, 1) := by decide +kernel
theorem dX8_property_43 : decode cX8_property 43 = .ok (.aload_n 0, 1) := by decide +kernel
theorem dX8_property_44 : decode cX8_property 44 = .ok (.iload_n 1, 1) := by decide +kernel
theorem dX8_property_45 : decode cX8_property 45 = .ok (.iload_n 2, 1) := by decide +kernel
theorem dX8_property_46 : decode cX8_property 46 = .ok (.invokevirtual 105, 3) := by decide +kernel
theorem dX8_property_49 : decode cX8_property 49 = .ok (.ireturn, 1) := by decide +kernel
theorem dX8_property_50 : decode cX8_property 50 = .ok (.aload_n 0, 1) := by decide +kernel
theorem dX8_property_51 : decode cX8_property 51 = .ok (.iload_n 1, 1) := by decide +kernel
theorem dX8_property_52 : decode cX8_property 52 = .ok (.iload_n 2, 1) := by decide +kernel
theorem dX8_property_53 : decode cX8_property 53 = .ok (.invokevirtual 102, 3) := by decide +kernel
theorem dX8_property_56 : decode cX8_property 56 = .ok (.ireturn, 1) := by decide +kernel
theorem dX8_property_57 : decode cX8_property 57 = .ok (.aload_n 0, 1) := by decide +kernel
theorem dX8_property_58 : decode cX8_property 58 = .ok (.iload_n 1, 1) := by decide +kernel
theorem dX8_property_59 : decode cX8_property 59 = .ok (.iload_n 2, 1) := by decide +kernel
theorem dX8_property_60 : decode cX8_property 60 = .ok (.invokevirtual 99, 3) := by decide +kernel
theorem dX8_property_63 : decode cX8_property 63 = .ok (.ireturn, 1) := by decide +kernel
theorem dX8_property_64 : decode cX8_property 64 = .ok (.aload_n 0, 1) := by decide +kernel
theorem dX8_property_65 : decode cX8_property 65 = .ok (.iload_n 1, 1) := by decide +kernel
theorem dX8_property_66 : decode cX8_property 66 = .ok (.aload_n 0, 1) := by decide +kernel
theorem dX8_property_67 : decode cX8_property 67 = .ok (.iload_n 1, 1) := by decide +kernel
theorem dX8_property_68 : decode cX8_property 68 = .ok (.iload_n 2, 1) := by decide +kernel
theorem dX8_property_69 : decode cX8_property 69 = .ok (.invokevirtual 96, 3) := by decide +kernel
theorem dX8_property_72 : decode cX8_property 72 = .ok (.aload_n 0, 1) := by decide +kernel
theorem dX8_property_73 : decode cX8_property 73 = .ok (.iload_n 1, 1) := by decide +kernel
theorem dX8_property_74 : decode cX8_property 74 = .ok (.iload_n 2, 1) := by decide +kernel
theorem dX8_property_75 : decode cX8_property 75 = .ok (.iconst 1, 1) := by decide +kernel
theorem dX8_property_76 : decode cX8_property 76 = .ok (.iadd, 1) := by decide +kernel
theorem dX8_property_77 : decode cX8_property 77 = .ok (.invokevirtual 96, 3) := by decide +kernel
theorem dX8_property_80 : decode cX8_property 80 = .ok (.invokevirtual 92, 3) := by decide +kernel
theorem dX8_property_83 : decode cX8_property 83 = .ok (.ireturn, 1) := by decide +kernel
theorem dX8_property_84 : decode cX8_property 84 = .ok (.aload_n 0, 1) := by decide +kernel
theorem dX8_property_85 : decode cX8_property 85 = .ok (.iload_n 1, 1) := by decide +kernel
theorem dX8_property_86 : decode cX8_property 86 = .ok (.iload_n 2, 1) := by decide +kernel
theorem dX8_property_87 : decode cX8_property 87 = .ok (.invokevirtual 117, 3) := by decide +kernel
theorem dX8_property_90 : decode cX8_property 90 = .ok (.ireturn, 1) := by decide +kernel
theorem dX8_partition_0 : decode cX8_partition 0 = .ok (.aload_n 0, 1) := by decide +kernel
theorem dX8_partition_1 : decode cX8_partition 1 = .ok (.iconst 0, 1) := by decide +kernel
theorem dX8_partition_2 : decode cX8_partition 2 = .ok (.putfield 41, 3) := by decide +kernel
theorem dX8_partition_5 : decode cX8_partition 5 = .ok (.iload_n 1, 1) := by decide +kernel
theorem dX8_partition_6 : decode cX8_partition 6 = .ok (.invokestatic 60, 3) := by decide +kernel
theorem dX8_partition_9 : decode cX8_partition 9 = .ok (.ifCond .ne 9, 3) := by decide +kernel
theorem dX8_partition_12 : decode cX8_partition 12 = .ok (.aload_n 0, 1) := by decide +kernel
theorem dX8_partition_13 : decode cX8_partition 13 = .ok (.iconst 1, 1) := by decide +kernel
theorem dX8_partition_14 : decode cX8_partition 14 = .ok (.invokevirtual 64, 3) := by decide +kernel
theorem dX8_partition_17 : decode cX8_partition 17 = .ok (.ireturn, 1) := by decide +kernel
theorem dX8_partition_18 : decode cX8_partition 18 = .ok (.aload_n 0, 1) := by decide +kernel
theorem dX8_partition_19 : decode cX8_partition 19 = .ok (.iload_n 1, 1) := by decide +kernel
theorem dX8_partition_20 : decode cX8_partition 20 = .ok (.invokevirtual 114, 3) := by decide +kernel
theorem dX8_partition_23 : decode cX8_partition 23 = .ok (.iload_n 2, 1) := by decide +kernel
theorem dX8_partition_24 : decode cX8_partition 24 = .ok (.iconst 0, 1) := by decide +kernel
theorem dX8_partition_25 : decode cX8_partition 25 = .ok (.aload_n 0, 1) := by decide +kernel
theorem dX8_partition_26 : decode cX8_partition 26 = .ok (.getfield 19, 3) := by decide +kernel
theorem dX8_partition_29 : decode cX8_partition 29 = .ok (.iload_n 1, 1) := by decide +kernel
theorem dX8_partition_30 : decode cX8_partition 30 = .ok (.iaload, 1) := by decide +kernel
theorem dX8_partition_31 : decode cX8_partition 31 = .ok (.iconst 1, 1) := by decide +kernel
theorem dX8_partition_32 : decode cX8_partition 32 = .ok (.isub, 1) := by decide +kernel
theorem dX8_partition_33 : decode cX8_partition 33 = .ok (.invokestatic 45, 3) := by decide +kernel
theorem dX8_partition_36 : decode cX8_partition 36 = .ok (.ifCond .ne 9, 3) := by decide +kernel
theorem dX8_partition_39 : decode cX8_partition 39 = .ok (.aload_n 0, 1) := by decide +kernel
theorem dX8_partition_40 : decode cX8_partition 40 = .ok (.iconst 1, 1) := by decide +kernel
theorem dX8_partition_41 : decode cX8_partition 41 = .ok (.invokevirtual 64, 3) := by decide +kernel
theorem dX8_partition_44 : decode cX8_partition 44 = .ok (.ireturn, 1) := by decide +kernel
theorem dX8_partition_45 : decode cX8_partition 45 = .ok (.iload_n 3, 1) := by decide +kernel
theorem dX8_partition_46 : decode cX8_partition 46 = .ok (.iconst 0, 1) := by decide +kernel
theorem dX8_partition_47 : decode cX8_partition 47 = .ok (.iconst 5, 1) := by decide +kernel
theorem dX8_partition_48 : decode cX8_partition 48 = .ok (.invokestatic 45, 3) := by decide +kernel
theorem dX8_partition_51 : decode cX8_partition 51 = .ok (.ifCond .eq 13, 3) := by decide +kernel
theorem dX8_partition_54 : decode cX8_partition 54 = .ok (.aload_n 0, 1) := by decide +kernel
theorem dX8_partition_55 : decode cX8_partition 55 = .ok (.iload_n 1, 1) := by decide +kernel
theorem dX8_partition_56 : decode cX8_partition 56 = .ok (.iload_n 2, 1) := by decide +kernel
theorem dX8_partition_57 : decode cX8_partition 57 = .ok (.iload_n 3, 1) := by decide +kernel
theorem dX8_partition_58 : decode cX8_partition 58 = .ok (.invokevirtual 120, 3) := by decide +kernel
theorem dX8_partition_61 : decode cX8_partition 61 = .ok (.goto 8, 3) := by decide +kernel
theorem dX8_partition_64 : decode cX8_partition 64 = .ok (.aload_n 0, 1) := by decide +kernel
theorem dX8_partition_65 : decode cX8_partition 65 = .ok (.iconst 2, 1) := by decide +kernel
theorem dX8_partition_66 : decode cX8_partition 66 = .ok (.invokevirtual 64, 3) := by decide +kernel
theorem dX8_partition_69 : decode cX8_partition 69 = .ok (.ireturn, 1) := by decide +kernel
theorem dX8_bitsOf_0 : decode cX8_bitsOf 0 = .ok (.aload_n 0, 1) := by decide +kernel
theorem dX8_bitsOf_1 : decode cX8_bitsOf 1 = .ok (.iload_n 1, 1) := by decide +kernel
theorem dX8_bitsOf_2 : decode cX8_bitsOf 2 = .ok (.invokevirtual 114, 3) := by decide +kernel
theorem dX8_bitsOf_5 : decode cX8_bitsOf 5 = .ok (.iconst 0, 1) := by decide +kernel
theorem dX8_bitsOf_6 : decode cX8_bitsOf 6 = .ok (.istore_n 2, 1) := by decide +kernel
theorem dX8_bitsOf_7 : decode cX8_bitsOf 7 = .ok (.iconst 0, 1) := by decide +kernel
theorem dX8_bitsOf_8 : decode cX8_bitsOf 8 = .ok (.istore_n 3, 1) := by decide +kernel
theorem dX8_bitsOf_9 : decode cX8_bitsOf 9 = .ok (.iload_n 3, 1) := by decide +kernel
theorem dX8_bitsOf_10 : decode cX8_bitsOf 10 = .ok (.aload_n 0, 1) := by decide +kernel
theorem dX8_bitsOf_11 : decode cX8_bitsOf 11 = .ok (.getfield 19, 3) := by decide +kernel
theorem dX8_bitsOf_14 : decode cX8_bitsOf 14 = .ok (.iload_n 1, 1) := by decide +kernel
theorem dX8_bitsOf_15 : decode cX8_bitsOf 15 = .ok (.iaload, 1) := by decide +kernel
theorem dX8_bitsOf_16 : decode cX8_bitsOf 16 = .ok (.if_icmp .ge 19, 3) := by decide +kernel
theorem dX8_bitsOf_19 : decode cX8_bitsOf 19 = .ok (.iload_n 2, 1) := by decide +kernel
theorem dX8_bitsOf_20 : decode cX8_bitsOf 20 = .ok (.aload_n 0, 1) := by decide +kernel
theorem dX8_bitsOf_21 : decode cX8_bitsOf 21 = .ok (.iload_n 1, 1) := by decide +kernel
theorem dX8_bitsOf_22 : decode cX8_bitsOf 22 = .ok (.iload_n 3, 1) := by decide +kernel
theorem dX8_bitsOf_23 : decode cX8_bitsOf 23 = .ok (.iconst 4, 1) := by decide +kernel
theorem dX8_bitsOf_24 : decode cX8_bitsOf 24 = .ok (.invokevirtual 120, 3) := by decide +kernel
theorem dX8_bitsOf_27 : decode cX8_bitsOf 27 = .ok (.iadd, 1) := by decide +kernel
theorem dX8_bitsOf_28 : decode cX8_bitsOf 28 = .ok (.istore_n 2, 1) := by decide +kernel
theorem dX8_bitsOf_29 : decode cX8_bitsOf 29 = .ok (.iinc 3 1, 3) := by decide +kernel
theorem dX8_bitsOf_32 : decode cX8_bitsOf 32 = .ok (.goto (-23), 3) := by decide +kernel
theorem dX8_bitsOf_35 : decode cX8_bitsOf 35 = .ok (.iload_n 2, 1) := by decide +kernel
theorem dX8_bitsOf_36 : decode cX8_bitsOf 36 = .ok (.ireturn, 1) := by decide +kernel
theorem dX8_codeLength_0 : decode cX8_codeLength 0 = .ok (.aload_n 0, 1) := by decide +kernel
theorem dX8_codeLength_1 : decode cX8_codeLength 1 = .ok (.iconst 0, 1) := by decide +kernel
theorem dX8_codeLength_2 : decode cX8_codeLength 2 = .ok (.putfield 41, 3) := by decide +kernel
theorem dX8_codeLength_5 : decode cX8_codeLength 5 = .ok (.iload_n 1, 1) := by decide +kernel
theorem dX8_codeLength_6 : decode cX8_codeLength 6 = .ok (.invokestatic 60, 3) := by decide +kernel
theorem dX8_codeLength_9 : decode cX8_codeLength 9 = .ok (.ifCond .eq 11, 3) := by decide +kernel
theorem dX8_codeLength_12 : decode cX8_codeLength 12 = .ok (.aload_n 0, 1) := by decide +kernel
theorem dX8_codeLength_13 : decode cX8_codeLength 13 = .ok (.iload_n 1, 1) := by decide +kernel
theorem dX8_codeLength_14 : decode cX8_codeLength 14 = .ok (.invokevirtual 123, 3) := by decide +kernel
theorem dX8_codeLength_17 : decode cX8_codeLength 17 = .ok (.goto 8, 3) := by decide +kernel
theorem dX8_codeLength_20 : decode cX8_codeLength 20 = .ok (.aload_n 0, 1) := by decide +kernel
theorem dX8_codeLength_21 : decode cX8_codeLength 21 = .ok (.iconst 1, 1) := by decide +kernel
theorem dX8_codeLength_22 : decode cX8_codeLength 22 = .ok (.invokevirtual 64, 3) := by decide +kernel
theorem dX8_codeLength_25 : decode cX8_codeLength 25 = .ok (.ireturn, 1) := by decide +kernel
theorem dX8_headerBit_0 : decode cX8_headerBit 0 = .ok (.iload_n 3, 1) := by decide +kernel
theorem dX8_headerBit_1 : decode cX8_headerBit 1 = .ok (.iconst 2, 1) := by decide +kernel
theorem dX8_headerBit_2 : decode cX8_headerBit 2 = .ok (.if_icmp .ge 14, 3) := by decide +kernel
theorem dX8_headerBit_5 : decode cX8_headerBit 5 = .ok (.aload_n 0, 1) := by decide +kernel
theorem dX8_headerBit_6 : decode cX8_headerBit 6 = .ok (.iload_n 1, 1) := by decide +kernel
theorem dX8_headerBit_7 : decode cX8_headerBit 7 = .ok (.iload_n 2, 1) := by decide +kernel
theorem dX8_headerBit_8 : decode cX8_headerBit 8 = .ok (.invokevirtual 111, 3) := by decide +kernel
theorem dX8_headerBit_11 : decode cX8_headerBit 11 = .ok (.iload_n 3, 1) := by decide +kernel
theorem dX8_headerBit_12 : decode cX8_headerBit 12 = .ok (.ishr, 1) := by decide +kernel
theorem dX8_headerBit_13 : decode cX8_headerBit 13 = .ok (.goto 57, 3) := by decide +kernel
theorem dX8_headerBit_16 : decode cX8_headerBit 16 = .ok (.iload_n 3, 1) := by decide +kernel
theorem dX8_headerBit_17 : decode cX8_headerBit 17 = .ok (.bipush 8, 2) := by decide +kernel
theorem dX8_headerBit_19 : decode cX8_headerBit 19 = .ok (.if_icmp .ge 18, 3) := by decide +kernel
theorem dX8_headerBit_22 : decode cX8_headerBit 22 = .ok (.aload_n 0, 1) := by decide +kernel
theorem dX8_headerBit_23 : decode cX8_headerBit 23 = .ok (.iload_n 1, 1) := by decide +kernel
theorem dX8_headerBit_24 : decode cX8_headerBit 24 = .ok (.iload_n 2, 1) := by decide +kernel
theorem dX8_headerBit_25 : decode cX8_headerBit 25 = .ok (.invokevirtual 105, 3) := by decide +kernel
theorem dX8_headerBit_28 : decode cX8_headerBit 28 = .ok (.iconst 1, 1) := by decide +kernel
theorem dX8_headerBit_29 : decode cX8_headerBit 29 = .ok (.isub, 1) := by decide +kernel
theorem dX8_headerBit_30 : decode cX8_headerBit 30 = .ok (.iload_n 3, 1) := by decide +kernel
theorem dX8_headerBit_31 : decode cX8_headerBit 31 = .ok (.iconst 2, 1) := by decide +kernel
theorem dX8_headerBit_32 : decode cX8_headerBit 32 = .ok (.isub, 1) := by decide +kernel
theorem dX8_headerBit_33 : decode cX8_headerBit 33 = .ok (.ishr, 1) := by decide +kernel
theorem dX8_headerBit_34 : decode cX8_headerBit 34 = .ok (.goto 36, 3) := by decide +kernel
theorem dX8_headerBit_37 : decode cX8_headerBit 37 = .ok (.iload_n 3, 1) := by decide +kernel
theorem dX8_headerBit_38 : decode cX8_headerBit 38 = .ok (.bipush 17, 2) := by decide +kernel
theorem dX8_headerBit_40 : decode cX8_headerBit 40 = .ok (.if_icmp .ge 17, 3) := by decide +kernel
theorem dX8_headerBit_43 : decode cX8_headerBit 43 = .ok (.aload_n 0, 1) := by decide +kernel
theorem dX8_headerBit_44 : decode cX8_headerBit 44 = .ok (.iload_n 1, 1) := by decide +kernel
theorem dX8_headerBit_45 : decode cX8_headerBit 45 = .ok (.iload_n 2, 1) := by decide +kernel
theorem dX8_headerBit_46 : decode cX8_headerBit 46 = .ok (.invokevirtual 102, 3) := by decide +kernel
theorem dX8_headerBit_49 : decode cX8_headerBit 49 = .ok (.iload_n 3, 1) := by decide +kernel
theorem dX8_headerBit_50 : decode cX8_headerBit 50 = .ok (.bipush 8, 2) := by decide +kernel
theorem dX8_headerBit_52 : decode cX8_headerBit 52 = .ok (.isub, 1) := by decide +kernel
theorem dX8_headerBit_53 : decode cX8_headerBit 53 = .ok (.ishr, 1) := by decide +kernel
theorem dX8_headerBit_54 : decode cX8_headerBit 54 = .ok (.goto 16, 3) := by decide +kernel
theorem dX8_headerBit_57 : decode cX8_headerBit 57 = .ok (.aload_n 0, 1) := by decide +kernel
theorem dX8_headerBit_58 : decode cX8_headerBit 58 = .ok (.iload_n 1, 1) := by decide +kernel
theorem dX8_headerBit_59 : decode cX8_headerBit 59 = .ok (.iload_n 2, 1) := by decide +kernel
theorem dX8_headerBit_60 : decode cX8_headerBit 60 = .ok (.invokevirtual 108, 3) := by decide +kernel
theorem dX8_headerBit_63 : decode cX8_headerBit 63 = .ok (.iconst 1, 1) := by decide +kernel
theorem dX8_headerBit_64 : decode cX8_headerBit 64 = .ok (.isub, 1) := by decide +kernel
theorem dX8_headerBit_65 : decode cX8_headerBit 65 = .ok (.iload_n 3, 1) := by decide +kernel
theorem dX8_headerBit_66 : decode cX8_headerBit 66 = .ok (.bipush 17, 2) := by decide +kernel
theorem dX8_headerBit_68 : decode cX8_headerBit 68 = .ok (.isub, 1) := by decide +kernel
theorem dX8_headerBit_69 : decode cX8_headerBit 69 = .ok (.ishr, 1) := by decide +kernel
theorem dX8_headerBit_70 : decode cX8_headerBit 70 = .ok (.istore 4, 2) := by decide +kernel
theorem dX8_headerBit_72 : decode cX8_headerBit 72 = .ok (.iload 4, 2) := by decide +kernel
theorem dX8_headerBit_74 : decode cX8_headerBit 74 = .ok (.iconst 1, 1) := by decide +kernel
theorem dX8_headerBit_75 : decode cX8_headerBit 75 = .ok (.iand, 1) := by decide +kernel
theorem dX8_headerBit_76 : decode cX8_headerBit 76 = .ok (.ireturn, 1) := by decide +kernel
theorem dX8_bodyBit_0 : decode cX8_bodyBit 0 = .ok (.aload_n 0, 1) := by decide +kernel
theorem dX8_bodyBit_1 : decode cX8_bodyBit 1 = .ok (.iload_n 1, 1) := by decide +kernel
theorem dX8_bodyBit_2 : decode cX8_bodyBit 2 = .ok (.iload_n 2, 1) := by decide +kernel
theorem dX8_bodyBit_3 : decode cX8_bodyBit 3 = .ok (.invokevirtual 102, 3) := by decide +kernel
theorem dX8_bodyBit_6 : decode cX8_bodyBit 6 = .ok (.istore 4, 2) := by decide +kernel
theorem dX8_bodyBit_8 : decode cX8_bodyBit 8 = .ok (.aload_n 0, 1) := by decide +kernel
theorem dX8_bodyBit_9 : decode cX8_bodyBit 9 = .ok (.iload_n 1, 1) := by decide +kernel
theorem dX8_bodyBit_10 : decode cX8_bodyBit 10 = .ok (.iload_n 2, 1) := by decide +kernel
theorem dX8_bodyBit_11 : decode cX8_bodyBit 11 = .ok (.invokevirtual 96, 3) := by decide +kernel
theorem dX8_bodyBit_14 : decode cX8_bodyBit 14 = .ok (.istore 5, 2) := by decide +kernel
theorem dX8_bodyBit_16 : decode cX8_bodyBit 16 = .ok (.aload_n 0, 1) := by decide +kernel
theorem dX8_bodyBit_17 : decode cX8_bodyBit 17 = .ok (.iload_n 1, 1) := by decide +kernel
theorem dX8_bodyBit_18 : decode cX8_bodyBit 18 = .ok (.iload_n 2, 1) := by decide +kernel
theorem dX8_bodyBit_19 : decode cX8_bodyBit 19 = .ok (.invokevirtual 105, 3) := by decide +kernel
theorem dX8_bodyBit_22 : decode cX8_bodyBit 22 = .ok (.istore 6, 2) := by decide +kernel
theorem dX8_bodyBit_24 : decode cX8_bodyBit 24 = .ok (.aload_n 0, 1) := by decide +kernel
theorem dX8_bodyBit_25 : decode cX8_bodyBit 25 = .ok (.iload_n 1, 1) := by decide +kernel
theorem dX8_bodyBit_26 : decode cX8_bodyBit 26 = .ok (.iload_n 2, 1) := by decide +kernel
theorem dX8_bodyBit_27 : decode cX8_bodyBit 27 = .ok (.invokevirtual 117, 3) := by decide +kernel
theorem dX8_bodyBit_30 : decode cX8_bodyBit 30 = .ok (.istore 7, 2) := by decide +kernel
theorem dX8_bodyBit_32 : decode cX8_bodyBit 32 = .ok (.iload 6, 2) := by decide +kernel
theorem dX8_bodyBit_34 : decode cX8_bodyBit 34 = .ok (.aload_n 0, 1) := by decide +kernel
theorem dX8_bodyBit_35 : decode cX8_bodyBit 35 = .ok (.iload_n 1, 1) := by decide +kernel
theorem dX8_bodyBit_36 : decode cX8_bodyBit 36 = .ok (.iload_n 2, 1) := by decide +kernel
theorem dX8_bodyBit_37 : decode cX8_bodyBit 37 = .ok (.invokevirtual 108, 3) := by decide +kernel
theorem dX8_bodyBit_40 : decode cX8_bodyBit 40 = .ok (.iconst 1, 1) := by decide +kernel
theorem dX8_bodyBit_41 : decode cX8_bodyBit 41 = .ok (.isub, 1) := by decide +kernel
theorem dX8_bodyBit_42 : decode cX8_bodyBit 42 = .ok (.iload 7, 2) := by decide +kernel
theorem dX8_bodyBit_44 : decode cX8_bodyBit 44 = .ok (.ishr, 1) := by decide +kernel
theorem dX8_bodyBit_45 : decode cX8_bodyBit 45 = .ok (.iadd, 1) := by decide +kernel
theorem dX8_bodyBit_46 : decode cX8_bodyBit 46 = .ok (.iconst 1, 1) := by decide +kernel
theorem dX8_bodyBit_47 : decode cX8_bodyBit 47 = .ok (.iadd, 1) := by decide +kernel
theorem dX8_bodyBit_48 : decode cX8_bodyBit 48 = .ok (.istore 8, 2) := by decide +kernel
theorem dX8_bodyBit_50 : decode cX8_bodyBit 50 = .ok (.iconst 0, 1) := by decide +kernel
theorem dX8_bodyBit_51 : decode cX8_bodyBit 51 = .ok (.istore 9, 2) := by decide +kernel
theorem dX8_bodyBit_53 : decode cX8_bodyBit 53 = .ok (.aload_n 0, 1) := by decide +kernel
theorem dX8_bodyBit_54 : decode cX8_bodyBit 54 = .ok (.iload_n 1, 1) := by decide +kernel
theorem dX8_bodyBit_55 : decode cX8_bodyBit 55 = .ok (.iload_n 2, 1) := by decide +kernel
theorem dX8_bodyBit_56 : decode cX8_bodyBit 56 = .ok (.invokevirtual 111, 3) := by decide +kernel
theorem dX8_bodyBit_59 : decode cX8_bodyBit 59 = .ok (.iconst 2, 1) := by decide +kernel
theorem dX8_bodyBit_60 : decode cX8_bodyBit 60 = .ok (.if_icmp .ne 38, 3) := by decide +kernel
theorem dX8_bodyBit_63 : decode cX8_bodyBit 63 = .ok (.iload_n 3, 1) := by decide +kernel
theorem dX8_bodyBit_64 : decode cX8_bodyBit 64 = .ok (.iload 8, 2) := by decide +kernel
theorem dX8_bodyBit_66 : decode cX8_bodyBit 66 = .ok (.if_icmp .lt 32, 3) := by decide +kernel
theorem dX8_bodyBit_69 : decode cX8_bodyBit 69 = .ok (.aload_n 0, 1) := by decide +kernel
theorem dX8_bodyBit_70 : decode cX8_bodyBit 70 = .ok (.iload_n 1, 1) := by decide +kernel
theorem dX8_bodyBit_71 : decode cX8_bodyBit 71 = .ok (.iload 5, 2) := by decide +kernel
theorem dX8_bodyBit_73 : decode cX8_bodyBit 73 = .ok (.iload_n 3, 1) := by decide +kernel
theorem dX8_bodyBit_74 : decode cX8_bodyBit 74 = .ok (.iload 8, 2) := by decide +kernel
theorem dX8_bodyBit_76 : decode cX8_bodyBit 76 = .ok (.isub, 1) := by decide +kernel
theorem dX8_bodyBit_77 : decode cX8_bodyBit 77 = .ok (.iload 7, 2) := by decide +kernel
theorem dX8_bodyBit_79 : decode cX8_bodyBit 79 = .ok (.idiv, 1) := by decide +kernel
theorem dX8_bodyBit_80 : decode cX8_bodyBit 80 = .ok (.iadd, 1) := by decide +kernel
theorem dX8_bodyBit_81 : decode cX8_bodyBit 81 = .ok (.invokevirtual 56, 3) := by decide +kernel
theorem dX8_bodyBit_84 : decode cX8_bodyBit 84 = .ok (.iload 4, 2) := by decide +kernel
theorem dX8_bodyBit_86 : decode cX8_bodyBit 86 = .ok (.isub, 1) := by decide +kernel
theorem dX8_bodyBit_87 : decode cX8_bodyBit 87 = .ok (.iload_n 3, 1) := by decide +kernel
theorem dX8_bodyBit_88 : decode cX8_bodyBit 88 = .ok (.iload 8, 2) := by decide +kernel
theorem dX8_bodyBit_90 : decode cX8_bodyBit 90 = .ok (.isub, 1) := by decide +kernel
theorem dX8_bodyBit_91 : decode cX8_bodyBit 91 = .ok (.iload 7, 2) := by decide +kernel
theorem dX8_bodyBit_93 : decode cX8_bodyBit 93 = .ok (.irem, 1) := by decide +kernel
theorem dX8_bodyBit_94 : decode cX8_bodyBit 94 = .ok (.ishr, 1) := by decide +kernel
theorem dX8_bodyBit_95 : decode cX8_bodyBit 95 = .ok (.iconst 1, 1) := by decide +kernel
theorem dX8_bodyBit_96 : decode cX8_bodyBit 96 = .ok (.iand, 1) := by decide +kernel
theorem dX8_bodyBit_97 : decode cX8_bodyBit 97 = .ok (.ireturn, 1) := by decide +kernel
theorem dX8_bodyBit_98 : decode cX8_bodyBit 98 = .ok (.iconst 0, 1) := by decide +kernel
theorem dX8_bodyBit_99 : decode cX8_bodyBit 99 = .ok (.istore 10, 2) := by decide +kernel
theorem dX8_bodyBit_101 : decode cX8_bodyBit 101 = .ok (.iload 10, 2) := by decide +kernel
theorem dX8_bodyBit_103 : decode cX8_bodyBit 103 = .ok (.iload 6, 2) := by decide +kernel
theorem dX8_bodyBit_105 : decode cX8_bodyBit 105 = .ok (.if_icmp .ge 61, 3) := by decide +kernel
theorem dX8_bodyBit_108 : decode cX8_bodyBit 108 = .ok (.aload_n 0, 1) := by decide +kernel
theorem dX8_bodyBit_109 : decode cX8_bodyBit 109 = .ok (.iload_n 1, 1) := by decide +kernel
theorem dX8_bodyBit_110 : decode cX8_bodyBit 110 = .ok (.iload 5, 2) := by decide +kernel
theorem dX8_bodyBit_112 : decode cX8_bodyBit 112 = .ok (.iload 10, 2) := by decide +kernel
theorem dX8_bodyBit_114 : decode cX8_bodyBit 114 = .ok (.iadd, 1) := by decide +kernel
theorem dX8_bodyBit_115 : decode cX8_bodyBit 115 = .ok (.invokevirtual 56, 3) := by decide +kernel
theorem dX8_bodyBit_118 : decode cX8_bodyBit 118 = .ok (.iload 4, 2) := by decide +kernel
theorem dX8_bodyBit_120 : decode cX8_bodyBit 120 = .ok (.isub, 1) := by decide +kernel
theorem dX8_bodyBit_121 : decode cX8_bodyBit 121 = .ok (.istore 11, 2) := by decide +kernel
theorem dX8_bodyBit_123 : decode cX8_bodyBit 123 = .ok (.iload 9, 2) := by decide +kernel
theorem dX8_bodyBit_125 : decode cX8_bodyBit 125 = .ok (.aload_n 0, 1) := by decide +kernel
theorem dX8_bodyBit_126 : decode cX8_bodyBit 126 = .ok (.iload_n 1, 1) := by decide +kernel
theorem dX8_bodyBit_127 : decode cX8_bodyBit 127 = .ok (.iload_n 2, 1) := by decide +kernel
theorem dX8_bodyBit_128 : decode cX8_bodyBit 128 = .ok (.invokevirtual 111, 3) := by decide +kernel
theorem dX8_bodyBit_131 : decode cX8_bodyBit 131 = .ok (.iconst 1, 1) := by decide +kernel
theorem dX8_bodyBit_132 : decode cX8_bodyBit 132 = .ok (.if_icmp .ne 8, 3) := by decide +kernel
theorem dX8_bodyBit_135 : decode cX8_bodyBit 135 = .ok (.iload 11, 2) := by decide +kernel
theorem dX8_bodyBit_137 : decode cX8_bodyBit 137 = .ok (.goto 11, 3) := by decide +kernel
theorem dX8_bodyBit_140 : decode cX8_bodyBit 140 = .ok (.iload 10, 2) := by decide +kernel
theorem dX8_bodyBit_142 : decode cX8_bodyBit 142 = .ok (.iload 11, 2) := by decide +kernel
theorem dX8_bodyBit_144 : decode cX8_bodyBit 144 = .ok (.iload 7, 2) := by decide +kernel
theorem dX8_bodyBit_146 : decode cX8_bodyBit 146 = .ok (.ishr, 1) := by decide +kernel
theorem dX8_bodyBit_147 : decode cX8_bodyBit 147 = .ok (.iadd, 1) := by decide +kernel
theorem dX8_bodyBit_148 : decode cX8_bodyBit 148 = .ok (.iload_n 3, 1) := by decide +kernel
theorem dX8_bodyBit_149 : decode cX8_bodyBit 149 = .ok (.if_icmp .ne 7, 3) := by decide +kernel
theorem dX8_bodyBit_152 : decode cX8_bodyBit 152 = .ok (.iconst 1, 1) := by decide +kernel
theorem dX8_bodyBit_153 : decode cX8_bodyBit 153 = .ok (.goto 4, 3) := by decide +kernel
theorem dX8_bodyBit_156 : decode cX8_bodyBit 156 = .ok (.iconst 0, 1) := by decide +kernel
theorem dX8_bodyBit_157 : decode cX8_bodyBit 157 = .ok (.ior, 1) := by decide +kernel
theorem dX8_bodyBit_158 : decode cX8_bodyBit 158 = .ok (.istore 9, 2) := by decide +kernel
theorem dX8_bodyBit_160 : decode cX8_bodyBit 160 = .ok (.iinc 10 1, 3) := by decide +kernel
theorem dX8_bodyBit_163 : decode cX8_bodyBit 163 = .ok (.goto (-62), 3) := by decide +kernel
theorem dX8_bodyBit_166 : decode cX8_bodyBit 166 = .ok (.iload 9, 2) := by decide +kernel
theorem dX8_bodyBit_168 : decode cX8_bodyBit 168 = .ok (.ireturn, 1) := by decide +kernel
theorem dX8_bitOf_0 : decode cX8_bitOf 0 = .ok (.iload_n 2, 1) := by decide +kernel
theorem dX8_bitOf_1 : decode cX8_bitOf 1 = .ok (.istore_n 3, 1) := by decide +kernel
theorem dX8_bitOf_2 : decode cX8_bitOf 2 = .ok (.iconst 0, 1) := by decide +kernel
theorem dX8_bitOf_3 : decode cX8_bitOf 3 = .ok (.istore 4, 2) := by decide +kernel
theorem dX8_bitOf_5 : decode cX8_bitOf 5 = .ok (.iload_n 3, 1) := by decide +kernel
theorem dX8_bitOf_6 : decode cX8_bitOf 6 = .ok (.aload_n 0, 1) := by decide +kernel
theorem dX8_bitOf_7 : decode cX8_bitOf 7 = .ok (.iload_n 1, 1) := by decide +kernel
theorem dX8_bitOf_8 : decode cX8_bitOf 8 = .ok (.iload 4, 2) := by decide +kernel
theorem dX8_bitOf_10 : decode cX8_bitOf 10 = .ok (.iconst 4, 1) := by decide +kernel
theorem dX8_bitOf_11 : decode cX8_bitOf 11 = .ok (.invokevirtual 120, 3) := by decide +kernel
theorem dX8_bitOf_14 : decode cX8_bitOf 14 = .ok (.if_icmp .lt 20, 3) := by decide +kernel
theorem dX8_bitOf_17 : decode cX8_bitOf 17 = .ok (.iload_n 3, 1) := by decide +kernel
theorem dX8_bitOf_18 : decode cX8_bitOf 18 = .ok (.aload_n 0, 1) := by decide +kernel
theorem dX8_bitOf_19 : decode cX8_bitOf 19 = .ok (.iload_n 1, 1) := by decide +kernel
theorem dX8_bitOf_20 : decode cX8_bitOf 20 = .ok (.iload 4, 2) := by decide +kernel
theorem dX8_bitOf_22 : decode cX8_bitOf 22 = .ok (.iconst 4, 1) := by decide +kernel
theorem dX8_bitOf_23 : decode cX8_bitOf 23 = .ok (.invokevirtual 120, 3) := by decide +kernel
theorem dX8_bitOf_26 : decode cX8_bitOf 26 = .ok (.isub, 1) := by decide +kernel
theorem dX8_bitOf_27 : decode cX8_bitOf 27 = .ok (.istore_n 3, 1) := by decide +kernel
theorem dX8_bitOf_28 : decode cX8_bitOf 28 = .ok (.iinc 4 1, 3) := by decide +kernel
theorem dX8_bitOf_31 : decode cX8_bitOf 31 = .ok (.goto (-26), 3) := by decide +kernel
theorem dX8_bitOf_34 : decode cX8_bitOf 34 = .ok (.iload_n 3, 1) := by decide +kernel
theorem dX8_bitOf_35 : decode cX8_bitOf 35 = .ok (.bipush 26, 2) := by decide +kernel
theorem dX8_bitOf_37 : decode cX8_bitOf 37 = .ok (.if_icmp .ge 14, 3) := by decide +kernel
theorem dX8_bitOf_40 : decode cX8_bitOf 40 = .ok (.aload_n 0, 1) := by decide +kernel
theorem dX8_bitOf_41 : decode cX8_bitOf 41 = .ok (.iload_n 1, 1) := by decide +kernel
theorem dX8_bitOf_42 : decode cX8_bitOf 42 = .ok (.iload 4, 2) := by decide +kernel
theorem dX8_bitOf_44 : decode cX8_bitOf 44 = .ok (.iload_n 3, 1) := by decide +kernel
theorem dX8_bitOf_45 : decode cX8_bitOf 45 = .ok (.invokevirtual 126, 3) := by decide +kernel
theorem dX8_bitOf_48 : decode cX8_bitOf 48 = .ok (.goto 14, 3) := by decide +kernel
theorem dX8_bitOf_51 : decode cX8_bitOf 51 = .ok (.aload_n 0, 1) := by decide +kernel
theorem dX8_bitOf_52 : decode cX8_bitOf 52 = .ok (.iload_n 1, 1) := by decide +kernel
theorem dX8_bitOf_53 : decode cX8_bitOf 53 = .ok (.iload 4, 2) := by decide +kernel
theorem dX8_bitOf_55 : decode cX8_bitOf 55 = .ok (.iload_n 3, 1) := by decide +kernel
theorem dX8_bitOf_56 : decode cX8_bitOf 56 = .ok (.bipush 26, 2) := by decide +kernel
theorem dX8_bitOf_58 : decode cX8_bitOf 58 = .ok (.isub, 1) := by decide +kernel
theorem dX8_bitOf_59 : decode cX8_bitOf 59 = .ok (.invokevirtual 129, 3) := by decide +kernel
theorem dX8_bitOf_62 : decode cX8_bitOf 62 = .ok (.ireturn, 1) := by decide +kernel
theorem dX8_codeBit_0 : decode cX8_codeBit 0 = .ok (.aload_n 0, 1) := by decide +kernel
theorem dX8_codeBit_1 : decode cX8_codeBit 1 = .ok (.iconst 0, 1) := by decide +kernel
theorem dX8_codeBit_2 : decode cX8_codeBit 2 = .ok (.putfield 41, 3) := by decide +kernel
theorem dX8_codeBit_5 : decode cX8_codeBit 5 = .ok (.iload_n 1, 1) := by decide +kernel
theorem dX8_codeBit_6 : decode cX8_codeBit 6 = .ok (.invokestatic 60, 3) := by decide +kernel
theorem dX8_codeBit_9 : decode cX8_codeBit 9 = .ok (.ifCond .eq 27, 3) := by decide +kernel
theorem dX8_codeBit_12 : decode cX8_codeBit 12 = .ok (.iload_n 2, 1) := by decide +kernel
theorem dX8_codeBit_13 : decode cX8_codeBit 13 = .ok (.iconst 0, 1) := by decide +kernel
theorem dX8_codeBit_14 : decode cX8_codeBit 14 = .ok (.aload_n 0, 1) := by decide +kernel
theorem dX8_codeBit_15 : decode cX8_codeBit 15 = .ok (.iload_n 1, 1) := by decide +kernel
theorem dX8_codeBit_16 : decode cX8_codeBit 16 = .ok (.invokevirtual 123, 3) := by decide +kernel
theorem dX8_codeBit_19 : decode cX8_codeBit 19 = .ok (.iconst 1, 1) := by decide +kernel
theorem dX8_codeBit_20 : decode cX8_codeBit 20 = .ok (.isub, 1) := by decide +kernel
theorem dX8_codeBit_21 : decode cX8_codeBit 21 = .ok (.invokestatic 45, 3) := by decide +kernel
theorem dX8_codeBit_24 : decode cX8_codeBit 24 = .ok (.ifCond .eq 12, 3) := by decide +kernel
theorem dX8_codeBit_27 : decode cX8_codeBit 27 = .ok (.aload_n 0, 1) := by decide +kernel
theorem dX8_codeBit_28 : decode cX8_codeBit 28 = .ok (.iload_n 1, 1) := by decide +kernel
theorem dX8_codeBit_29 : decode cX8_codeBit 29 = .ok (.iload_n 2, 1) := by decide +kernel
theorem dX8_codeBit_30 : decode cX8_codeBit 30 = .ok (.invokevirtual 132, 3) := by decide +kernel
theorem dX8_codeBit_33 : decode cX8_codeBit 33 = .ok (.goto 8, 3) := by decide +kernel
theorem dX8_codeBit_36 : decode cX8_codeBit 36 = .ok (.aload_n 0, 1) := by decide +kernel
theorem dX8_codeBit_37 : decode cX8_codeBit 37 = .ok (.iconst 1, 1) := by decide +kernel
theorem dX8_codeBit_38 : decode cX8_codeBit 38 = .ok (.invokevirtual 64, 3) := by decide +kernel
theorem dX8_codeBit_41 : decode cX8_codeBit 41 = .ok (.ireturn, 1) := by decide +kernel
theorem dX8_fixedLength_0 : decode cX8_fixedLength 0 = .ok (.aload_n 0, 1) := by decide +kernel
theorem dX8_fixedLength_1 : decode cX8_fixedLength 1 = .ok (.iconst 0, 1) := by decide +kernel
theorem dX8_fixedLength_2 : decode cX8_fixedLength 2 = .ok (.putfield 41, 3) := by decide +kernel
theorem dX8_fixedLength_5 : decode cX8_fixedLength 5 = .ok (.iload_n 1, 1) := by decide +kernel
theorem dX8_fixedLength_6 : decode cX8_fixedLength 6 = .ok (.invokestatic 60, 3) := by decide +kernel
theorem dX8_fixedLength_9 : decode cX8_fixedLength 9 = .ok (.ifCond .ne 9, 3) := by decide +kernel
theorem dX8_fixedLength_12 : decode cX8_fixedLength 12 = .ok (.aload_n 0, 1) := by decide +kernel
theorem dX8_fixedLength_13 : decode cX8_fixedLength 13 = .ok (.iconst 1, 1) := by decide +kernel
theorem dX8_fixedLength_14 : decode cX8_fixedLength 14 = .ok (.invokevirtual 64, 3) := by decide +kernel
theorem dX8_fixedLength_17 : decode cX8_fixedLength 17 = .ok (.ireturn, 1) := by decide +kernel
theorem dX8_fixedLength_18 : decode cX8_fixedLength 18 = .ok (.iload_n 2, 1) := by decide +kernel
theorem dX8_fixedLength_19 : decode cX8_fixedLength 19 = .ok (.iconst 1, 1) := by decide +kernel
theorem dX8_fixedLength_20 : decode cX8_fixedLength 20 = .ok (.bipush 64, 2) := by decide +kernel
theorem dX8_fixedLength_22 : decode cX8_fixedLength 22 = .ok (.invokestatic 45, 3) := by decide +kernel
theorem dX8_fixedLength_25 : decode cX8_fixedLength 25 = .ok (.ifCond .ne 9, 3) := by decide +kernel
theorem dX8_fixedLength_28 : decode cX8_fixedLength 28 = .ok (.aload_n 0, 1) := by decide +kernel
theorem dX8_fixedLength_29 : decode cX8_fixedLength 29 = .ok (.iconst 2, 1) := by decide +kernel
theorem dX8_fixedLength_30 : decode cX8_fixedLength 30 = .ok (.invokevirtual 64, 3) := by decide +kernel
theorem dX8_fixedLength_33 : decode cX8_fixedLength 33 = .ok (.ireturn, 1) := by decide +kernel
theorem dX8_fixedLength_34 : decode cX8_fixedLength 34 = .ok (.iconst 0, 1) := by decide +kernel
theorem dX8_fixedLength_35 : decode cX8_fixedLength 35 = .ok (.istore_n 3, 1) := by decide +kernel
theorem dX8_fixedLength_36 : decode cX8_fixedLength 36 = .ok (.iconst 0, 1) := by decide +kernel
theorem dX8_fixedLength_37 : decode cX8_fixedLength 37 = .ok (.istore 4, 2) := by decide +kernel
theorem dX8_fixedLength_39 : decode cX8_fixedLength 39 = .ok (.iload 4, 2) := by decide +kernel
theorem dX8_fixedLength_41 : decode cX8_fixedLength 41 = .ok (.aload_n 0, 1) := by decide +kernel
theorem dX8_fixedLength_42 : decode cX8_fixedLength 42 = .ok (.getfield 7, 3) := by decide +kernel
theorem dX8_fixedLength_45 : decode cX8_fixedLength 45 = .ok (.iload_n 1, 1) := by decide +kernel
theorem dX8_fixedLength_46 : decode cX8_fixedLength 46 = .ok (.iaload, 1) := by decide +kernel
theorem dX8_fixedLength_47 : decode cX8_fixedLength 47 = .ok (.if_icmp .ge 48, 3) := by decide +kernel
theorem dX8_fixedLength_50 : decode cX8_fixedLength 50 = .ok (.iload_n 3, 1) := by decide +kernel
theorem dX8_fixedLength_51 : decode cX8_fixedLength 51 = .ok (.aload_n 0, 1) := by decide +kernel
theorem dX8_fixedLength_52 : decode cX8_fixedLength 52 = .ok (.iload_n 1, 1) := by decide +kernel
theorem dX8_fixedLength_53 : decode cX8_fixedLength 53 = .ok (.iload 4, 2) := by decide +kernel
theorem dX8_fixedLength_55 : decode cX8_fixedLength 55 = .ok (.iload 4, 2) := by decide +kernel
theorem dX8_fixedLength_57 : decode cX8_fixedLength 57 = .ok (.iload_n 2, 1) := by decide +kernel
theorem dX8_fixedLength_58 : decode cX8_fixedLength 58 = .ok (.iadd, 1) := by decide +kernel
theorem dX8_fixedLength_59 : decode cX8_fixedLength 59 = .ok (.aload_n 0, 1) := by decide +kernel
theorem dX8_fixedLength_60 : decode cX8_fixedLength 60 = .ok (.getfield 7, 3) := by decide +kernel
theorem dX8_fixedLength_63 : decode cX8_fixedLength 63 = .ok (.iload_n 1, 1) := by decide +kernel
theorem dX8_fixedLength_64 : decode cX8_fixedLength 64 = .ok (.iaload, 1) := by decide +kernel
theorem dX8_fixedLength_65 : decode cX8_fixedLength 65 = .ok (.if_icmp .ge 10, 3) := by decide +kernel
theorem dX8_fixedLength_68 : decode cX8_fixedLength 68 = .ok (.iload 4, 2) := by decide +kernel
theorem dX8_fixedLength_70 : decode cX8_fixedLength 70 = .ok (.iload_n 2, 1) := by decide +kernel
theorem dX8_fixedLength_71 : decode cX8_fixedLength 71 = .ok (.iadd, 1) := by decide +kernel
theorem dX8_fixedLength_72 : decode cX8_fixedLength 72 = .ok (.goto 9, 3) := by decide +kernel
theorem dX8_fixedLength_75 : decode cX8_fixedLength 75 = .ok (.aload_n 0, 1) := by decide +kernel
theorem dX8_fixedLength_76 : decode cX8_fixedLength 76 = .ok (.getfield 7, 3) := by decide +kernel
theorem dX8_fixedLength_79 : decode cX8_fixedLength 79 = .ok (.iload_n 1, 1) := by decide +kernel
theorem dX8_fixedLength_80 : decode cX8_fixedLength 80 = .ok (.iaload, 1) := by decide +kernel
theorem dX8_fixedLength_81 : decode cX8_fixedLength 81 = .ok (.invokevirtual 92, 3) := by decide +kernel
theorem dX8_fixedLength_84 : decode cX8_fixedLength 84 = .ok (.iadd, 1) := by decide +kernel
theorem dX8_fixedLength_85 : decode cX8_fixedLength 85 = .ok (.istore_n 3, 1) := by decide +kernel
theorem dX8_fixedLength_86 : decode cX8_fixedLength 86 = .ok (.iload 4, 2) := by decide +kernel
theorem dX8_fixedLength_88 : decode cX8_fixedLength 88 = .ok (.iload_n 2, 1) := by decide +kernel
theorem dX8_fixedLength_89 : decode cX8_fixedLength 89 = .ok (.iadd, 1) := by decide +kernel
theorem dX8_fixedLength_90 : decode cX8_fixedLength 90 = .ok (.istore 4, 2) := by decide +kernel
theorem dX8_fixedLength_92 : decode cX8_fixedLength 92 = .ok (.goto (-53), 3) := by decide +kernel
theorem dX8_fixedLength_95 : decode cX8_fixedLength 95 = .ok (.iload_n 3, 1) := by decide +kernel
theorem dX8_fixedLength_96 : decode cX8_fixedLength 96 = .ok (.ireturn, 1) := by decide +kernel
theorem dX8_bitsPerDocument_0 : decode cX8_bitsPerDocument 0 = .ok (.aload_n 0, 1) := by decide +kernel
theorem dX8_bitsPerDocument_1 : decode cX8_bitsPerDocument 1 = .ok (.iconst 0, 1) := by decide +kernel
theorem dX8_bitsPerDocument_2 : decode cX8_bitsPerDocument 2 = .ok (.putfield 41, 3) := by decide +kernel
theorem dX8_bitsPerDocument_5 : decode cX8_bitsPerDocument 5 = .ok (.iload_n 1, 1) := by decide +kernel
theorem dX8_bitsPerDocument_6 : decode cX8_bitsPerDocument 6 = .ok (.invokestatic 60, 3) := by decide +kernel
theorem dX8_bitsPerDocument_9 : decode cX8_bitsPerDocument 9 = .ok (.ifCond .ne 10, 3) := by decide +kernel
theorem dX8_bitsPerDocument_12 : decode cX8_bitsPerDocument 12 = .ok (.aload_n 0, 1) := by decide +kernel
theorem dX8_bitsPerDocument_13 : decode cX8_bitsPerDocument 13 = .ok (.iconst 1, 1) := by decide +kernel
theorem dX8_bitsPerDocument_14 : decode cX8_bitsPerDocument 14 = .ok (.invokevirtual 64, 3) := by decide +kernel
theorem dX8_bitsPerDocument_17 : decode cX8_bitsPerDocument 17 = .ok (.i2d, 1) := by decide +kernel
theorem dX8_bitsPerDocument_18 : decode cX8_bitsPerDocument 18 = .ok (.dreturn, 1) := by decide +kernel
theorem dX8_bitsPerDocument_19 : decode cX8_bitsPerDocument 19 = .ok (.aload_n 0, 1) := by decide +kernel
theorem dX8_bitsPerDocument_20 : decode cX8_bitsPerDocument 20 = .ok (.getfield 7, 3) := by decide +kernel
theorem dX8_bitsPerDocument_23 : decode cX8_bitsPerDocument 23 = .ok (.iload_n 1, 1) := by decide +kernel
theorem dX8_bitsPerDocument_24 : decode cX8_bitsPerDocument 24 = .ok (.iaload, 1) := by decide +kernel
theorem dX8_bitsPerDocument_25 : decode cX8_bitsPerDocument 25 = .ok (.ifCond .ne 7, 3) := by decide +kernel
theorem dX8_bitsPerDocument_28 : decode cX8_bitsPerDocument 28 = .ok (.dconst 0, 1) := by decide +kernel
theorem dX8_bitsPerDocument_29 : decode cX8_bitsPerDocument 29 = .ok (.goto 17, 3) := by decide +kernel
theorem dX8_bitsPerDocument_32 : decode cX8_bitsPerDocument 32 = .ok (.aload_n 0, 1) := by decide +kernel
theorem dX8_bitsPerDocument_33 : decode cX8_bitsPerDocument 33 = .ok (.iload_n 1, 1) := by decide +kernel
theorem dX8_bitsPerDocument_34 : decode cX8_bitsPerDocument 34 = .ok (.invokevirtual 123, 3) := by decide +kernel
theorem dX8_bitsPerDocument_37 : decode cX8_bitsPerDocument 37 = .ok (.i2d, 1) := by decide +kernel
theorem dX8_bitsPerDocument_38 : decode cX8_bitsPerDocument 38 = .ok (.aload_n 0, 1) := by decide +kernel
theorem dX8_bitsPerDocument_39 : decode cX8_bitsPerDocument 39 = .ok (.getfield 7, 3) := by decide +kernel
theorem dX8_bitsPerDocument_42 : decode cX8_bitsPerDocument 42 = .ok (.iload_n 1, 1) := by decide +kernel
theorem dX8_bitsPerDocument_43 : decode cX8_bitsPerDocument 43 = .ok (.iaload, 1) := by decide +kernel
theorem dX8_bitsPerDocument_44 : decode cX8_bitsPerDocument 44 = .ok (.i2d, 1) := by decide +kernel
theorem dX8_bitsPerDocument_45 : decode cX8_bitsPerDocument 45 = .ok (.ddiv, 1) := by decide +kernel
theorem dX8_bitsPerDocument_46 : decode cX8_bitsPerDocument 46 = .ok (.dreturn, 1) := by decide +kernel
theorem dX8_readsFor_0 : decode cX8_readsFor 0 = .ok (.aload_n 0, 1) := by decide +kernel
theorem dX8_readsFor_1 : decode cX8_readsFor 1 = .ok (.iload_n 1, 1) := by decide +kernel
theorem dX8_readsFor_2 : decode cX8_readsFor 2 = .ok (.iload_n 2, 1) := by decide +kernel
theorem dX8_readsFor_3 : decode cX8_readsFor 3 = .ok (.invokevirtual 102, 3) := by decide +kernel
theorem dX8_readsFor_6 : decode cX8_readsFor 6 = .ok (.istore 5, 2) := by decide +kernel
theorem dX8_readsFor_8 : decode cX8_readsFor 8 = .ok (.aload_n 0, 1) := by decide +kernel
theorem dX8_readsFor_9 : decode cX8_readsFor 9 = .ok (.iload_n 1, 1) := by decide +kernel
theorem dX8_readsFor_10 : decode cX8_readsFor 10 = .ok (.iload_n 2, 1) := by decide +kernel
theorem dX8_readsFor_11 : decode cX8_readsFor 11 = .ok (.invokevirtual 111, 3) := by decide +kernel
theorem dX8_readsFor_14 : decode cX8_readsFor 14 = .ok (.istore 6, 2) := by decide +kernel
theorem dX8_readsFor_16 : decode cX8_readsFor 16 = .ok (.iload 6, 2) := by decide +kernel
theorem dX8_readsFor_18 : decode cX8_readsFor 18 = .ok (.iconst 2, 1) := by decide +kernel
theorem dX8_readsFor_19 : decode cX8_readsFor 19 = .ok (.if_icmp .ge 36, 3) := by decide +kernel
theorem dX8_readsFor_22 : decode cX8_readsFor 22 = .ok (.iload 6, 2) := by decide +kernel
theorem dX8_readsFor_24 : decode cX8_readsFor 24 = .ok (.ifCond .ne 7, 3) := by decide +kernel
theorem dX8_readsFor_27 : decode cX8_readsFor 27 = .ok (.iconst 0, 1) := by decide +kernel
theorem dX8_readsFor_28 : decode cX8_readsFor 28 = .ok (.goto 26, 3) := by decide +kernel
theorem dX8_readsFor_31 : decode cX8_readsFor 31 = .ok (.aload_n 0, 1) := by decide +kernel
theorem dX8_readsFor_32 : decode cX8_readsFor 32 = .ok (.iload_n 1, 1) := by decide +kernel
theorem dX8_readsFor_33 : decode cX8_readsFor 33 = .ok (.iload 4, 2) := by decide +kernel
theorem dX8_readsFor_35 : decode cX8_readsFor 35 = .ok (.invokevirtual 56, 3) := by decide +kernel
theorem dX8_readsFor_38 : decode cX8_readsFor 38 = .ok (.iload 5, 2) := by decide +kernel
theorem dX8_readsFor_40 : decode cX8_readsFor 40 = .ok (.isub, 1) := by decide +kernel
theorem dX8_readsFor_41 : decode cX8_readsFor 41 = .ok (.bipush 8, 2) := by decide +kernel
theorem dX8_readsFor_43 : decode cX8_readsFor 43 = .ok (.idiv, 1) := by decide +kernel
theorem dX8_readsFor_44 : decode cX8_readsFor 44 = .ok (.iload_n 3, 1) := by decide +kernel
theorem dX8_readsFor_45 : decode cX8_readsFor 45 = .ok (.iload 5, 2) := by decide +kernel
theorem dX8_readsFor_47 : decode cX8_readsFor 47 = .ok (.isub, 1) := by decide +kernel
theorem dX8_readsFor_48 : decode cX8_readsFor 48 = .ok (.bipush 8, 2) := by decide +kernel
theorem dX8_readsFor_50 : decode cX8_readsFor 50 = .ok (.idiv, 1) := by decide +kernel
theorem dX8_readsFor_51 : decode cX8_readsFor 51 = .ok (.isub, 1) := by decide +kernel
theorem dX8_readsFor_52 : decode cX8_readsFor 52 = .ok (.iconst 1, 1) := by decide +kernel
theorem dX8_readsFor_53 : decode cX8_readsFor 53 = .ok (.iadd, 1) := by decide +kernel
theorem dX8_readsFor_54 : decode cX8_readsFor 54 = .ok (.ireturn, 1) := by decide +kernel
theorem dX8_readsFor_55 : decode cX8_readsFor 55 = .ok (.aload_n 0, 1) := by decide +kernel
theorem dX8_readsFor_56 : decode cX8_readsFor 56 = .ok (.iload_n 1, 1) := by decide +kernel
theorem dX8_readsFor_57 : decode cX8_readsFor 57 = .ok (.iload_n 2, 1) := by decide +kernel
theorem dX8_readsFor_58 : decode cX8_readsFor 58 = .ok (.invokevirtual 117, 3) := by decide +kernel
theorem dX8_readsFor_61 : decode cX8_readsFor 61 = .ok (.istore 7, 2) := by decide +kernel
theorem dX8_readsFor_63 : decode cX8_readsFor 63 = .ok (.iconst 1, 1) := by decide +kernel
theorem dX8_readsFor_64 : decode cX8_readsFor 64 = .ok (.istore 8, 2) := by decide +kernel
theorem dX8_readsFor_66 : decode cX8_readsFor 66 = .ok (.aload_n 0, 1) := by decide +kernel
theorem dX8_readsFor_67 : decode cX8_readsFor 67 = .ok (.iload_n 1, 1) := by decide +kernel
theorem dX8_readsFor_68 : decode cX8_readsFor 68 = .ok (.iload_n 2, 1) := by decide +kernel
theorem dX8_readsFor_69 : decode cX8_readsFor 69 = .ok (.invokevirtual 96, 3) := by decide +kernel
theorem dX8_readsFor_72 : decode cX8_readsFor 72 = .ok (.istore 9, 2) := by decide +kernel
theorem dX8_readsFor_74 : decode cX8_readsFor 74 = .ok (.iload 9, 2) := by decide +kernel
theorem dX8_readsFor_76 : decode cX8_readsFor 76 = .ok (.iload 4, 2) := by decide +kernel
theorem dX8_readsFor_78 : decode cX8_readsFor 78 = .ok (.if_icmp .gt 42, 3) := by decide +kernel
theorem dX8_readsFor_81 : decode cX8_readsFor 81 = .ok (.iload 8, 2) := by decide +kernel
theorem dX8_readsFor_83 : decode cX8_readsFor 83 = .ok (.aload_n 0, 1) := by decide +kernel
theorem dX8_readsFor_84 : decode cX8_readsFor 84 = .ok (.iload_n 1, 1) := by decide +kernel
theorem dX8_readsFor_85 : decode cX8_readsFor 85 = .ok (.iload 9, 2) := by decide +kernel
theorem dX8_readsFor_87 : decode cX8_readsFor 87 = .ok (.invokevirtual 56, 3) := by decide +kernel
theorem dX8_readsFor_90 : decode cX8_readsFor 90 = .ok (.iload 5, 2) := by decide +kernel
theorem dX8_readsFor_92 : decode cX8_readsFor 92 = .ok (.isub, 1) := by decide +kernel
theorem dX8_readsFor_93 : decode cX8_readsFor 93 = .ok (.iload 7, 2) := by decide +kernel
theorem dX8_readsFor_95 : decode cX8_readsFor 95 = .ok (.ishr, 1) := by decide +kernel
theorem dX8_readsFor_96 : decode cX8_readsFor 96 = .ok (.iload_n 3, 1) := by decide +kernel
theorem dX8_readsFor_97 : decode cX8_readsFor 97 = .ok (.iload 5, 2) := by decide +kernel
theorem dX8_readsFor_99 : decode cX8_readsFor 99 = .ok (.isub, 1) := by decide +kernel
theorem dX8_readsFor_100 : decode cX8_readsFor 100 = .ok (.iload 7, 2) := by decide +kernel
theorem dX8_readsFor_102 : decode cX8_readsFor 102 = .ok (.ishr, 1) := by decide +kernel
theorem dX8_readsFor_103 : decode cX8_readsFor 103 = .ok (.if_icmp .lt 7, 3) := by decide +kernel
theorem dX8_readsFor_106 : decode cX8_readsFor 106 = .ok (.iconst 1, 1) := by decide +kernel
theorem dX8_readsFor_107 : decode cX8_readsFor 107 = .ok (.goto 4, 3) := by decide +kernel
theorem dX8_readsFor_110 : decode cX8_readsFor 110 = .ok (.iconst 0, 1) := by decide +kernel
theorem dX8_readsFor_111 : decode cX8_readsFor 111 = .ok (.iadd, 1) := by decide +kernel
theorem dX8_readsFor_112 : decode cX8_readsFor 112 = .ok (.istore 8, 2) := by decide +kernel
theorem dX8_readsFor_114 : decode cX8_readsFor 114 = .ok (.iinc 9 1, 3) := by decide +kernel
theorem dX8_readsFor_117 : decode cX8_readsFor 117 = .ok (.goto (-43), 3) := by decide +kernel
theorem dX8_readsFor_120 : decode cX8_readsFor 120 = .ok (.iload 8, 2) := by decide +kernel
theorem dX8_readsFor_122 : decode cX8_readsFor 122 = .ok (.ireturn, 1) := by decide +kernel
theorem dX8_opens_0 : decode cX8_opens 0 = .ok (.aload_n 0, 1) := by decide +kernel
theorem dX8_opens_1 : decode cX8_opens 1 = .ok (.iload_n 1, 1) := by decide +kernel
theorem dX8_opens_2 : decode cX8_opens 2 = .ok (.iload_n 2, 1) := by decide +kernel
theorem dX8_opens_3 : decode cX8_opens 3 = .ok (.invokevirtual 96, 3) := by decide +kernel
theorem dX8_opens_6 : decode cX8_opens 6 = .ok (.istore 4, 2) := by decide +kernel
theorem dX8_opens_8 : decode cX8_opens 8 = .ok (.aload_n 0, 1) := by decide +kernel
theorem dX8_opens_9 : decode cX8_opens 9 = .ok (.iload_n 1, 1) := by decide +kernel
theorem dX8_opens_10 : decode cX8_opens 10 = .ok (.iload 4, 2) := by decide +kernel
theorem dX8_opens_12 : decode cX8_opens 12 = .ok (.invokevirtual 56, 3) := by decide +kernel
theorem dX8_opens_15 : decode cX8_opens 15 = .ok (.iload_n 3, 1) := by decide +kernel
theorem dX8_opens_16 : decode cX8_opens 16 = .ok (.if_icmp .ge 9, 3) := by decide +kernel
theorem dX8_opens_19 : decode cX8_opens 19 = .ok (.iinc 4 1, 3) := by decide +kernel
theorem dX8_opens_22 : decode cX8_opens 22 = .ok (.goto (-14), 3) := by decide +kernel
theorem dX8_opens_25 : decode cX8_opens 25 = .ok (.iconst (-1), 1) := by decide +kernel
theorem dX8_opens_26 : decode cX8_opens 26 = .ok (.istore 5, 2) := by decide +kernel
theorem dX8_opens_28 : decode cX8_opens 28 = .ok (.iconst 0, 1) := by decide +kernel
theorem dX8_opens_29 : decode cX8_opens 29 = .ok (.istore 6, 2) := by decide +kernel
theorem dX8_opens_31 : decode cX8_opens 31 = .ok (.iload 6, 2) := by decide +kernel
theorem dX8_opens_33 : decode cX8_opens 33 = .ok (.aload_n 0, 1) := by decide +kernel
theorem dX8_opens_34 : decode cX8_opens 34 = .ok (.getfield 7, 3) := by decide +kernel
theorem dX8_opens_37 : decode cX8_opens 37 = .ok (.sipush 261, 3) := by decide +kernel
theorem dX8_opens_40 : decode cX8_opens 40 = .ok (.iaload, 1) := by decide +kernel
theorem dX8_opens_41 : decode cX8_opens 41 = .ok (.if_icmp .ge 38, 3) := by decide +kernel
theorem dX8_opens_44 : decode cX8_opens 44 = .ok (.aload_n 0, 1) := by decide +kernel
theorem dX8_opens_45 : decode cX8_opens 45 = .ok (.getfield 7, 3) := by decide +kernel
theorem dX8_opens_48 : decode cX8_opens 48 = .ok (.sipush 262, 3) := by decide +kernel
theorem dX8_opens_51 : decode cX8_opens 51 = .ok (.iload 6, 2) := by decide +kernel
theorem dX8_opens_53 : decode cX8_opens 53 = .ok (.iadd, 1) := by decide +kernel
theorem dX8_opens_54 : decode cX8_opens 54 = .ok (.iaload, 1) := by decide +kernel
theorem dX8_opens_55 : decode cX8_opens 55 = .ok (.bipush 100, 2) := by decide +kernel
theorem dX8_opens_57 : decode cX8_opens 57 = .ok (.iload_n 1, 1) := by decide +kernel
theorem dX8_opens_58 : decode cX8_opens 58 = .ok (.imul, 1) := by decide +kernel
theorem dX8_opens_59 : decode cX8_opens 59 = .ok (.iload_n 2, 1) := by decide +kernel
theorem dX8_opens_60 : decode cX8_opens 60 = .ok (.iadd, 1) := by decide +kernel
theorem dX8_opens_61 : decode cX8_opens 61 = .ok (.if_icmp .ne 8, 3) := by decide +kernel
theorem dX8_opens_64 : decode cX8_opens 64 = .ok (.iload 6, 2) := by decide +kernel
theorem dX8_opens_66 : decode cX8_opens 66 = .ok (.goto 5, 3) := by decide +kernel
theorem dX8_opens_69 : decode cX8_opens 69 = .ok (.iload 5, 2) := by decide +kernel
theorem dX8_opens_71 : decode cX8_opens 71 = .ok (.istore 5, 2) := by decide +kernel
theorem dX8_opens_73 : decode cX8_opens 73 = .ok (.iinc 6 1, 3) := by decide +kernel
theorem dX8_opens_76 : decode cX8_opens 76 = .ok (.goto (-45), 3) := by decide +kernel
theorem dX8_opens_79 : decode cX8_opens 79 = .ok (.iload 5, 2) := by decide +kernel
theorem dX8_opens_81 : decode cX8_opens 81 = .ok (.ifCond .lt 24, 3) := by decide +kernel
theorem dX8_opens_84 : decode cX8_opens 84 = .ok (.aload_n 0, 1) := by decide +kernel
theorem dX8_opens_85 : decode cX8_opens 85 = .ok (.getfield 7, 3) := by decide +kernel
theorem dX8_opens_88 : decode cX8_opens 88 = .ok (.sipush 271, 3) := by decide +kernel
theorem dX8_opens_91 : decode cX8_opens 91 = .ok (.dup2, 1) := by decide +kernel
theorem dX8_opens_92 : decode cX8_opens 92 = .ok (.iaload, 1) := by decide +kernel
theorem dX8_opens_93 : decode cX8_opens 93 = .ok (.iconst 1, 1) := by decide +kernel
theorem dX8_opens_94 : decode cX8_opens 94 = .ok (.iadd, 1) := by decide +kernel
theorem dX8_opens_95 : decode cX8_opens 95 = .ok (.iastore, 1) := by decide +kernel
theorem dX8_opens_96 : decode cX8_opens 96 = .ok (.aload_n 0, 1) := by decide +kernel
theorem dX8_opens_97 : decode cX8_opens 97 = .ok (.iload 5, 2) := by decide +kernel
theorem dX8_opens_99 : decode cX8_opens 99 = .ok (.invokevirtual 52, 3) := by decide +kernel
theorem dX8_opens_102 : decode cX8_opens 102 = .ok (.goto 23, 3) := by decide +kernel
theorem dX8_opens_105 : decode cX8_opens 105 = .ok (.aload_n 0, 1) := by decide +kernel
theorem dX8_opens_106 : decode cX8_opens 106 = .ok (.getfield 7, 3) := by decide +kernel
theorem dX8_opens_109 : decode cX8_opens 109 = .ok (.sipush 270, 3) := by decide +kernel
theorem dX8_opens_112 : decode cX8_opens 112 = .ok (.dup2, 1) := by decide +kernel
theorem dX8_opens_113 : decode cX8_opens 113 = .ok (.iaload, 1) := by decide +kernel
theorem dX8_opens_114 : decode cX8_opens 114 = .ok (.aload_n 0, 1) := by decide +kernel
theorem dX8_opens_115 : decode cX8_opens 115 = .ok (.iload_n 1, 1) := by decide +kernel
theorem dX8_opens_116 : decode cX8_opens 116 = .ok (.iload_n 2, 1) := by decide +kernel
theorem dX8_opens_117 : decode cX8_opens 117 = .ok (.iload_n 3, 1) := by decide +kernel
theorem dX8_opens_118 : decode cX8_opens 118 = .ok (.iload 4, 2) := by decide +kernel
theorem dX8_opens_120 : decode cX8_opens 120 = .ok (.invokevirtual 135, 3) := by decide +kernel
theorem dX8_opens_123 : decode cX8_opens 123 = .ok (.iadd, 1) := by decide +kernel
theorem dX8_opens_124 : decode cX8_opens 124 = .ok (.iastore, 1) := by decide +kernel
theorem dX8_opens_125 : decode cX8_opens 125 = .ok (.aload_n 0, 1) := by decide +kernel
theorem dX8_opens_126 : decode cX8_opens 126 = .ok (.getfield 7, 3) := by decide +kernel
theorem dX8_opens_129 : decode cX8_opens 129 = .ok (.sipush 260, 3) := by decide +kernel
theorem dX8_opens_132 : decode cX8_opens 132 = .ok (.iaload, 1) := by decide +kernel
theorem dX8_opens_133 : decode cX8_opens 133 = .ok (.ifCond .le 62, 3) := by decide +kernel
theorem dX8_opens_136 : decode cX8_opens 136 = .ok (.aload_n 0, 1) := by decide +kernel
theorem dX8_opens_137 : decode cX8_opens 137 = .ok (.getfield 7, 3) := by decide +kernel
theorem dX8_opens_140 : decode cX8_opens 140 = .ok (.sipush 261, 3) := by decide +kernel
theorem dX8_opens_143 : decode cX8_opens 143 = .ok (.iaload, 1) := by decide +kernel
theorem dX8_opens_144 : decode cX8_opens 144 = .ok (.aload_n 0, 1) := by decide +kernel
theorem dX8_opens_145 : decode cX8_opens 145 = .ok (.getfield 7, 3) := by decide +kernel
theorem dX8_opens_148 : decode cX8_opens 148 = .ok (.sipush 260, 3) := by decide +kernel
theorem dX8_opens_151 : decode cX8_opens 151 = .ok (.iaload, 1) := by decide +kernel
theorem dX8_opens_152 : decode cX8_opens 152 = .ok (.if_icmp .ne 8, 3) := by decide +kernel
theorem dX8_opens_155 : decode cX8_opens 155 = .ok (.aload_n 0, 1) := by decide +kernel
theorem dX8_opens_156 : decode cX8_opens 156 = .ok (.iconst 0, 1) := by decide +kernel
theorem dX8_opens_157 : decode cX8_opens 157 = .ok (.invokevirtual 52, 3) := by decide +kernel
theorem dX8_opens_160 : decode cX8_opens 160 = .ok (.aload_n 0, 1) := by decide +kernel
theorem dX8_opens_161 : decode cX8_opens 161 = .ok (.getfield 7, 3) := by decide +kernel
theorem dX8_opens_164 : decode cX8_opens 164 = .ok (.sipush 262, 3) := by decide +kernel
theorem dX8_opens_167 : decode cX8_opens 167 = .ok (.aload_n 0, 1) := by decide +kernel
theorem dX8_opens_168 : decode cX8_opens 168 = .ok (.getfield 7, 3) := by decide +kernel
theorem dX8_opens_171 : decode cX8_opens 171 = .ok (.sipush 261, 3) := by decide +kernel
theorem dX8_opens_174 : decode cX8_opens 174 = .ok (.iaload, 1) := by decide +kernel
theorem dX8_opens_175 : decode cX8_opens 175 = .ok (.iadd, 1) := by decide +kernel
theorem dX8_opens_176 : decode cX8_opens 176 = .ok (.bipush 100, 2) := by decide +kernel
theorem dX8_opens_178 : decode cX8_opens 178 = .ok (.iload_n 1, 1) := by decide +kernel
theorem dX8_opens_179 : decode cX8_opens 179 = .ok (.imul, 1) := by decide +kernel
theorem dX8_opens_180 : decode cX8_opens 180 = .ok (.iload_n 2, 1) := by decide +kernel
theorem dX8_opens_181 : decode cX8_opens 181 = .ok (.iadd, 1) := by decide +kernel
theorem dX8_opens_182 : decode cX8_opens 182 = .ok (.iastore, 1) := by decide +kernel
theorem dX8_opens_183 : decode cX8_opens 183 = .ok (.aload_n 0, 1) := by decide +kernel
theorem dX8_opens_184 : decode cX8_opens 184 = .ok (.getfield 7, 3) := by decide +kernel
theorem dX8_opens_187 : decode cX8_opens 187 = .ok (.sipush 261, 3) := by decide +kernel
theorem dX8_opens_190 : decode cX8_opens 190 = .ok (.dup2, 1) := by decide +kernel
theorem dX8_opens_191 : decode cX8_opens 191 = .ok (.iaload, 1) := by decide +kernel
theorem dX8_opens_192 : decode cX8_opens 192 = .ok (.iconst 1, 1) := by decide +kernel
theorem dX8_opens_193 : decode cX8_opens 193 = .ok (.iadd, 1) := by decide +kernel
theorem dX8_opens_194 : decode cX8_opens 194 = .ok (.iastore, 1) := by decide +kernel
theorem dX8_opens_195 : decode cX8_opens 195 = .ok (.aload_n 0, 1) := by decide +kernel
theorem dX8_opens_196 : decode cX8_opens 196 = .ok (.iload_n 1, 1) := by decide +kernel
theorem dX8_opens_197 : decode cX8_opens 197 = .ok (.iload 4, 2) := by decide +kernel
theorem dX8_opens_199 : decode cX8_opens 199 = .ok (.invokevirtual 56, 3) := by decide +kernel
theorem dX8_opens_202 : decode cX8_opens 202 = .ok (.ireturn, 1) := by decide +kernel
theorem dX8_asks_0 : decode cX8_asks 0 = .ok (.aload_n 0, 1) := by decide +kernel
theorem dX8_asks_1 : decode cX8_asks 1 = .ok (.iload_n 1, 1) := by decide +kernel
theorem dX8_asks_2 : decode cX8_asks 2 = .ok (.invokevirtual 114, 3) := by decide +kernel
theorem dX8_asks_5 : decode cX8_asks 5 = .ok (.iconst 0, 1) := by decide +kernel
theorem dX8_asks_6 : decode cX8_asks 6 = .ok (.istore_n 3, 1) := by decide +kernel
theorem dX8_asks_7 : decode cX8_asks 7 = .ok (.iload_n 3, 1) := by decide +kernel
theorem dX8_asks_8 : decode cX8_asks 8 = .ok (.aload_n 0, 1) := by decide +kernel
theorem dX8_asks_9 : decode cX8_asks 9 = .ok (.getfield 19, 3) := by decide +kernel
theorem dX8_asks_12 : decode cX8_asks 12 = .ok (.iload_n 1, 1) := by decide +kernel
theorem dX8_asks_13 : decode cX8_asks 13 = .ok (.iaload, 1) := by decide +kernel
theorem dX8_asks_14 : decode cX8_asks 14 = .ok (.if_icmp .ge 58, 3) := by decide +kernel
theorem dX8_asks_17 : decode cX8_asks 17 = .ok (.aload_n 0, 1) := by decide +kernel
theorem dX8_asks_18 : decode cX8_asks 18 = .ok (.getfield 7, 3) := by decide +kernel
theorem dX8_asks_21 : decode cX8_asks 21 = .ok (.sipush 270, 3) := by decide +kernel
theorem dX8_asks_24 : decode cX8_asks 24 = .ok (.dup2, 1) := by decide +kernel
theorem dX8_asks_25 : decode cX8_asks 25 = .ok (.iaload, 1) := by decide +kernel
theorem dX8_asks_26 : decode cX8_asks 26 = .ok (.iconst 1, 1) := by decide +kernel
theorem dX8_asks_27 : decode cX8_asks 27 = .ok (.iadd, 1) := by decide +kernel
theorem dX8_asks_28 : decode cX8_asks 28 = .ok (.iastore, 1) := by decide +kernel
theorem dX8_asks_29 : decode cX8_asks 29 = .ok (.aload_n 0, 1) := by decide +kernel
theorem dX8_asks_30 : decode cX8_asks 30 = .ok (.iload_n 1, 1) := by decide +kernel
theorem dX8_asks_31 : decode cX8_asks 31 = .ok (.iload_n 3, 1) := by decide +kernel
theorem dX8_asks_32 : decode cX8_asks 32 = .ok (.invokevirtual 99, 3) := by decide +kernel
theorem dX8_asks_35 : decode cX8_asks 35 = .ok (.iload_n 2, 1) := by decide +kernel
theorem dX8_asks_36 : decode cX8_asks 36 = .ok (.if_icmp .lt 30, 3) := by decide +kernel
theorem dX8_asks_39 : decode cX8_asks 39 = .ok (.iload_n 2, 1) := by decide +kernel
theorem dX8_asks_40 : decode cX8_asks 40 = .ok (.aload_n 0, 1) := by decide +kernel
theorem dX8_asks_41 : decode cX8_asks 41 = .ok (.iload_n 1, 1) := by decide +kernel
theorem dX8_asks_42 : decode cX8_asks 42 = .ok (.iload_n 3, 1) := by decide +kernel
theorem dX8_asks_43 : decode cX8_asks 43 = .ok (.invokevirtual 102, 3) := by decide +kernel
theorem dX8_asks_46 : decode cX8_asks 46 = .ok (.if_icmp .gt 12, 3) := by decide +kernel
theorem dX8_asks_49 : decode cX8_asks 49 = .ok (.aload_n 0, 1) := by decide +kernel
theorem dX8_asks_50 : decode cX8_asks 50 = .ok (.iload_n 1, 1) := by decide +kernel
theorem dX8_asks_51 : decode cX8_asks 51 = .ok (.iload_n 3, 1) := by decide +kernel
theorem dX8_asks_52 : decode cX8_asks 52 = .ok (.invokevirtual 102, 3) := by decide +kernel
theorem dX8_asks_55 : decode cX8_asks 55 = .ok (.goto 10, 3) := by decide +kernel
theorem dX8_asks_58 : decode cX8_asks 58 = .ok (.aload_n 0, 1) := by decide +kernel
theorem dX8_asks_59 : decode cX8_asks 59 = .ok (.iload_n 1, 1) := by decide +kernel
theorem dX8_asks_60 : decode cX8_asks 60 = .ok (.iload_n 3, 1) := by decide +kernel
theorem dX8_asks_61 : decode cX8_asks 61 = .ok (.iload_n 2, 1) := by decide +kernel
theorem dX8_asks_62 : decode cX8_asks 62 = .ok (.invokevirtual 139, 3) := by decide +kernel
theorem dX8_asks_65 : decode cX8_asks 65 = .ok (.ireturn, 1) := by decide +kernel
theorem dX8_asks_66 : decode cX8_asks 66 = .ok (.iinc 3 1, 3) := by decide +kernel
theorem dX8_asks_69 : decode cX8_asks 69 = .ok (.goto (-62), 3) := by decide +kernel
theorem dX8_asks_72 : decode cX8_asks 72 = .ok (.iconst (-1), 1) := by decide +kernel
theorem dX8_asks_73 : decode cX8_asks 73 = .ok (.ireturn, 1) := by decide +kernel
theorem dX8_nextAtLeast_0 : decode cX8_nextAtLeast 0 = .ok (.aload_n 0, 1) := by decide +kernel
theorem dX8_nextAtLeast_1 : decode cX8_nextAtLeast 1 = .ok (.iconst 0, 1) := by decide +kernel
theorem dX8_nextAtLeast_2 : decode cX8_nextAtLeast 2 = .ok (.putfield 41, 3) := by decide +kernel
theorem dX8_nextAtLeast_5 : decode cX8_nextAtLeast 5 = .ok (.iload_n 1, 1) := by decide +kernel
theorem dX8_nextAtLeast_6 : decode cX8_nextAtLeast 6 = .ok (.invokestatic 60, 3) := by decide +kernel
theorem dX8_nextAtLeast_9 : decode cX8_nextAtLeast 9 = .ok (.ifCond .ne 9, 3) := by decide +kernel
theorem dX8_nextAtLeast_12 : decode cX8_nextAtLeast 12 = .ok (.aload_n 0, 1) := by decide +kernel
theorem dX8_nextAtLeast_13 : decode cX8_nextAtLeast 13 = .ok (.iconst 1, 1) := by decide +kernel
theorem dX8_nextAtLeast_14 : decode cX8_nextAtLeast 14 = .ok (.invokevirtual 64, 3) := by decide +kernel
theorem dX8_nextAtLeast_17 : decode cX8_nextAtLeast 17 = .ok (.ireturn, 1) := by decide +kernel
theorem dX8_nextAtLeast_18 : decode cX8_nextAtLeast 18 = .ok (.iload_n 2, 1) := by decide +kernel
theorem dX8_nextAtLeast_19 : decode cX8_nextAtLeast 19 = .ok (.iconst 0, 1) := by decide +kernel
theorem dX8_nextAtLeast_20 : decode cX8_nextAtLeast 20 = .ok (.sipush 511, 3) := by decide +kernel
theorem dX8_nextAtLeast_23 : decode cX8_nextAtLeast 23 = .ok (.invokestatic 45, 3) := by decide +kernel
theorem dX8_nextAtLeast_26 : decode cX8_nextAtLeast 26 = .ok (.ifCond .ne 9, 3) := by decide +kernel
theorem dX8_nextAtLeast_29 : decode cX8_nextAtLeast 29 = .ok (.aload_n 0, 1) := by decide +kernel
theorem dX8_nextAtLeast_30 : decode cX8_nextAtLeast 30 = .ok (.iconst 2, 1) := by decide +kernel
theorem dX8_nextAtLeast_31 : decode cX8_nextAtLeast 31 = .ok (.invokevirtual 64, 3) := by decide +kernel
theorem dX8_nextAtLeast_34 : decode cX8_nextAtLeast 34 = .ok (.ireturn, 1) := by decide +kernel
theorem dX8_nextAtLeast_35 : decode cX8_nextAtLeast 35 = .ok (.aload_n 0, 1) := by decide +kernel
theorem dX8_nextAtLeast_36 : decode cX8_nextAtLeast 36 = .ok (.invokevirtual 72, 3) := by decide +kernel
theorem dX8_nextAtLeast_39 : decode cX8_nextAtLeast 39 = .ok (.aload_n 0, 1) := by decide +kernel
theorem dX8_nextAtLeast_40 : decode cX8_nextAtLeast 40 = .ok (.iload_n 1, 1) := by decide +kernel
theorem dX8_nextAtLeast_41 : decode cX8_nextAtLeast 41 = .ok (.iload_n 2, 1) := by decide +kernel
theorem dX8_nextAtLeast_42 : decode cX8_nextAtLeast 42 = .ok (.invokevirtual 142, 3) := by decide +kernel
theorem dX8_nextAtLeast_45 : decode cX8_nextAtLeast 45 = .ok (.ireturn, 1) := by decide +kernel
theorem dX8_meets_0 : decode cX8_meets 0 = .ok (.iconst 0, 1) := by decide +kernel
theorem dX8_meets_1 : decode cX8_meets 1 = .ok (.istore_n 2, 1) := by decide +kernel
theorem dX8_meets_2 : decode cX8_meets 2 = .ok (.iconst 0, 1) := by decide +kernel
theorem dX8_meets_3 : decode cX8_meets 3 = .ok (.istore_n 3, 1) := by decide +kernel
theorem dX8_meets_4 : decode cX8_meets 4 = .ok (.iload_n 3, 1) := by decide +kernel
theorem dX8_meets_5 : decode cX8_meets 5 = .ok (.sipush 260, 3) := by decide +kernel
theorem dX8_meets_8 : decode cX8_meets 8 = .ok (.if_icmp .ge 48, 3) := by decide +kernel
theorem dX8_meets_11 : decode cX8_meets 11 = .ok (.iload_n 3, 1) := by decide +kernel
theorem dX8_meets_12 : decode cX8_meets 12 = .ok (.iconst 4, 1) := by decide +kernel
theorem dX8_meets_13 : decode cX8_meets 13 = .ok (.irem, 1) := by decide +kernel
theorem dX8_meets_14 : decode cX8_meets 14 = .ok (.istore 4, 2) := by decide +kernel
theorem dX8_meets_16 : decode cX8_meets 16 = .ok (.iload_n 1, 1) := by decide +kernel
theorem dX8_meets_17 : decode cX8_meets 17 = .ok (.iload 4, 2) := by decide +kernel
theorem dX8_meets_19 : decode cX8_meets 19 = .ok (.ishr, 1) := by decide +kernel
theorem dX8_meets_20 : decode cX8_meets 20 = .ok (.iconst 1, 1) := by decide +kernel
theorem dX8_meets_21 : decode cX8_meets 21 = .ok (.iand, 1) := by decide +kernel
theorem dX8_meets_22 : decode cX8_meets 22 = .ok (.iconst 1, 1) := by decide +kernel
theorem dX8_meets_23 : decode cX8_meets 23 = .ok (.if_icmp .ne 27, 3) := by decide +kernel
theorem dX8_meets_26 : decode cX8_meets 26 = .ok (.aload_n 0, 1) := by decide +kernel
theorem dX8_meets_27 : decode cX8_meets 27 = .ok (.getfield 7, 3) := by decide +kernel
theorem dX8_meets_30 : decode cX8_meets 30 = .ok (.iload 4, 2) := by decide +kernel
theorem dX8_meets_32 : decode cX8_meets 32 = .ok (.iaload, 1) := by decide +kernel
theorem dX8_meets_33 : decode cX8_meets 33 = .ok (.iload_n 3, 1) := by decide +kernel
theorem dX8_meets_34 : decode cX8_meets 34 = .ok (.iconst 4, 1) := by decide +kernel
theorem dX8_meets_35 : decode cX8_meets 35 = .ok (.idiv, 1) := by decide +kernel
theorem dX8_meets_36 : decode cX8_meets 36 = .ok (.if_icmp .ne 14, 3) := by decide +kernel
theorem dX8_meets_39 : decode cX8_meets 39 = .ok (.aload_n 0, 1) := by decide +kernel
theorem dX8_meets_40 : decode cX8_meets 40 = .ok (.getfield 38, 3) := by decide +kernel
theorem dX8_meets_43 : decode cX8_meets 43 = .ok (.iload_n 2, 1) := by decide +kernel
theorem dX8_meets_44 : decode cX8_meets 44 = .ok (.iload 4, 2) := by decide +kernel
theorem dX8_meets_46 : decode cX8_meets 46 = .ok (.iastore, 1) := by decide +kernel
theorem dX8_meets_47 : decode cX8_meets 47 = .ok (.iinc 2 1, 3) := by decide +kernel
theorem dX8_meets_50 : decode cX8_meets 50 = .ok (.iinc 3 1, 3) := by decide +kernel
theorem dX8_meets_53 : decode cX8_meets 53 = .ok (.goto (-49), 3) := by decide +kernel
theorem dX8_meets_56 : decode cX8_meets 56 = .ok (.iconst 0, 1) := by decide +kernel
theorem dX8_meets_57 : decode cX8_meets 57 = .ok (.istore_n 3, 1) := by decide +kernel
theorem dX8_meets_58 : decode cX8_meets 58 = .ok (.aload_n 0, 1) := by decide +kernel
theorem dX8_meets_59 : decode cX8_meets 59 = .ok (.aload_n 0, 1) := by decide +kernel
theorem dX8_meets_60 : decode cX8_meets 60 = .ok (.getfield 38, 3) := by decide +kernel
theorem dX8_meets_63 : decode cX8_meets 63 = .ok (.iconst 0, 1) := by decide +kernel
theorem dX8_meets_64 : decode cX8_meets 64 = .ok (.iaload, 1) := by decide +kernel
theorem dX8_meets_65 : decode cX8_meets 65 = .ok (.iconst 0, 1) := by decide +kernel
theorem dX8_meets_66 : decode cX8_meets 66 = .ok (.invokevirtual 142, 3) := by decide +kernel
theorem dX8_meets_69 : decode cX8_meets 69 = .ok (.istore 4, 2) := by decide +kernel
theorem dX8_meets_71 : decode cX8_meets 71 = .ok (.iload 4, 2) := by decide +kernel
theorem dX8_meets_73 : decode cX8_meets 73 = .ok (.iconst (-1), 1) := by decide +kernel
theorem dX8_meets_74 : decode cX8_meets 74 = .ok (.if_icmp .eq 120, 3) := by decide +kernel
theorem dX8_meets_77 : decode cX8_meets 77 = .ok (.iload 4, 2) := by decide +kernel
theorem dX8_meets_79 : decode cX8_meets 79 = .ok (.istore 5, 2) := by decide +kernel
theorem dX8_meets_81 : decode cX8_meets 81 = .ok (.iconst 1, 1) := by decide +kernel
theorem dX8_meets_82 : decode cX8_meets 82 = .ok (.istore 6, 2) := by decide +kernel
theorem dX8_meets_84 : decode cX8_meets 84 = .ok (.iload 6, 2) := by decide +kernel
theorem dX8_meets_86 : decode cX8_meets 86 = .ok (.iload_n 2, 1) := by decide +kernel
theorem dX8_meets_87 : decode cX8_meets 87 = .ok (.if_icmp .ge 31, 3) := by decide +kernel
theorem dX8_meets_90 : decode cX8_meets 90 = .ok (.iload 5, 2) := by decide +kernel
theorem dX8_meets_92 : decode cX8_meets 92 = .ok (.iload 4, 2) := by decide +kernel
theorem dX8_meets_94 : decode cX8_meets 94 = .ok (.if_icmp .ne 24, 3) := by decide +kernel
theorem dX8_meets_97 : decode cX8_meets 97 = .ok (.aload_n 0, 1) := by decide +kernel
theorem dX8_meets_98 : decode cX8_meets 98 = .ok (.aload_n 0, 1) := by decide +kernel
theorem dX8_meets_99 : decode cX8_meets 99 = .ok (.getfield 38, 3) := by decide +kernel
theorem dX8_meets_102 : decode cX8_meets 102 = .ok (.iload 6, 2) := by decide +kernel
theorem dX8_meets_104 : decode cX8_meets 104 = .ok (.iaload, 1) := by decide +kernel
theorem dX8_meets_105 : decode cX8_meets 105 = .ok (.iload 4, 2) := by decide +kernel
theorem dX8_meets_107 : decode cX8_meets 107 = .ok (.invokevirtual 142, 3) := by decide +kernel
theorem dX8_meets_110 : decode cX8_meets 110 = .ok (.istore 5, 2) := by decide +kernel
theorem dX8_meets_112 : decode cX8_meets 112 = .ok (.iinc 6 1, 3) := by decide +kernel
theorem dX8_meets_115 : decode cX8_meets 115 = .ok (.goto (-31), 3) := by decide +kernel
theorem dX8_meets_118 : decode cX8_meets 118 = .ok (.iload 5, 2) := by decide +kernel
theorem dX8_meets_120 : decode cX8_meets 120 = .ok (.iload 4, 2) := by decide +kernel
theorem dX8_meets_122 : decode cX8_meets 122 = .ok (.if_icmp .ne 45, 3) := by decide +kernel
theorem dX8_meets_125 : decode cX8_meets 125 = .ok (.aload_n 0, 1) := by decide +kernel
theorem dX8_meets_126 : decode cX8_meets 126 = .ok (.getfield 35, 3) := by decide +kernel
theorem dX8_meets_129 : decode cX8_meets 129 = .ok (.iload_n 3, 1) := by decide +kernel
theorem dX8_meets_130 : decode cX8_meets 130 = .ok (.iload 4, 2) := by decide +kernel
theorem dX8_meets_132 : decode cX8_meets 132 = .ok (.iastore, 1) := by decide +kernel
theorem dX8_meets_133 : decode cX8_meets 133 = .ok (.iinc 3 1, 3) := by decide +kernel
theorem dX8_meets_136 : decode cX8_meets 136 = .ok (.iload 4, 2) := by decide +kernel
theorem dX8_meets_138 : decode cX8_meets 138 = .ok (.sipush 511, 3) := by decide +kernel
theorem dX8_meets_141 : decode cX8_meets 141 = .ok (.if_icmp .ne 7, 3) := by decide +kernel
theorem dX8_meets_144 : decode cX8_meets 144 = .ok (.iconst (-1), 1) := by decide +kernel
theorem dX8_meets_145 : decode cX8_meets 145 = .ok (.goto 17, 3) := by decide +kernel
theorem dX8_meets_148 : decode cX8_meets 148 = .ok (.aload_n 0, 1) := by decide +kernel
theorem dX8_meets_149 : decode cX8_meets 149 = .ok (.aload_n 0, 1) := by decide +kernel
theorem dX8_meets_150 : decode cX8_meets 150 = .ok (.getfield 38, 3) := by decide +kernel
theorem dX8_meets_153 : decode cX8_meets 153 = .ok (.iconst 0, 1) := by decide +kernel
theorem dX8_meets_154 : decode cX8_meets 154 = .ok (.iaload, 1) := by decide +kernel
theorem dX8_meets_155 : decode cX8_meets 155 = .ok (.iload 4, 2) := by decide +kernel
theorem dX8_meets_157 : decode cX8_meets 157 = .ok (.iconst 1, 1) := by decide +kernel
theorem dX8_meets_158 : decode cX8_meets 158 = .ok (.iadd, 1) := by decide +kernel
theorem dX8_meets_159 : decode cX8_meets 159 = .ok (.invokevirtual 142, 3) := by decide +kernel
theorem dX8_meets_162 : decode cX8_meets 162 = .ok (.istore 4, 2) := by decide +kernel
theorem dX8_meets_164 : decode cX8_meets 164 = .ok (.goto 27, 3) := by decide +kernel
theorem dX8_meets_167 : decode cX8_meets 167 = .ok (.iload 5, 2) := by decide +kernel
theorem dX8_meets_169 : decode cX8_meets 169 = .ok (.iconst (-1), 1) := by decide +kernel
theorem dX8_meets_170 : decode cX8_meets 170 = .ok (.if_icmp .ne 7, 3) := by decide +kernel
theorem dX8_meets_173 : decode cX8_meets 173 = .ok (.iconst (-1), 1) := by decide +kernel
theorem dX8_meets_174 : decode cX8_meets 174 = .ok (.goto 15, 3) := by decide +kernel
theorem dX8_meets_177 : decode cX8_meets 177 = .ok (.aload_n 0, 1) := by decide +kernel
theorem dX8_meets_178 : decode cX8_meets 178 = .ok (.aload_n 0, 1) := by decide +kernel
theorem dX8_meets_179 : decode cX8_meets 179 = .ok (.getfield 38, 3) := by decide +kernel
theorem dX8_meets_182 : decode cX8_meets 182 = .ok (.iconst 0, 1) := by decide +kernel
theorem dX8_meets_183 : decode cX8_meets 183 = .ok (.iaload, 1) := by decide +kernel
theorem dX8_meets_184 : decode cX8_meets 184 = .ok (.iload 5, 2) := by decide +kernel
theorem dX8_meets_186 : decode cX8_meets 186 = .ok (.invokevirtual 142, 3) := by decide +kernel
theorem dX8_meets_189 : decode cX8_meets 189 = .ok (.istore 4, 2) := by decide +kernel
theorem dX8_meets_191 : decode cX8_meets 191 = .ok (.goto (-120), 3) := by decide +kernel
theorem dX8_meets_194 : decode cX8_meets 194 = .ok (.iload_n 3, 1) := by decide +kernel
theorem dX8_meets_195 : decode cX8_meets 195 = .ok (.ireturn, 1) := by decide +kernel
theorem dX8_isSet_0 : decode cX8_isSet 0 = .ok (.iload_n 0, 1) := by decide +kernel
theorem dX8_isSet_1 : decode cX8_isSet 1 = .ok (.iconst 1, 1) := by decide +kernel
theorem dX8_isSet_2 : decode cX8_isSet 2 = .ok (.bipush 15, 2) := by decide +kernel
theorem dX8_isSet_4 : decode cX8_isSet 4 = .ok (.invokestatic 45, 3) := by decide +kernel
theorem dX8_isSet_7 : decode cX8_isSet 7 = .ok (.ireturn, 1) := by decide +kernel
theorem dX8_countIntersection_0 : decode cX8_countIntersection 0 = .ok (.aload_n 0, 1) := by decide +kernel
theorem dX8_countIntersection_1 : decode cX8_countIntersection 1 = .ok (.iconst 0, 1) := by decide +kernel
theorem dX8_countIntersection_2 : decode cX8_countIntersection 2 = .ok (.putfield 41, 3) := by decide +kernel
theorem dX8_countIntersection_5 : decode cX8_countIntersection 5 = .ok (.iload_n 1, 1) := by decide +kernel
theorem dX8_countIntersection_6 : decode cX8_countIntersection 6 = .ok (.invokestatic 145, 3) := by decide +kernel
theorem dX8_countIntersection_9 : decode cX8_countIntersection 9 = .ok (.ifCond .ne 9, 3) := by decide +kernel
theorem dX8_countIntersection_12 : decode cX8_countIntersection 12 = .ok (.aload_n 0, 1) := by decide +kernel
theorem dX8_countIntersection_13 : decode cX8_countIntersection 13 = .ok (.iconst 1, 1) := by decide +kernel
theorem dX8_countIntersection_14 : decode cX8_countIntersection 14 = .ok (.invokevirtual 64, 3) := by decide +kernel
theorem dX8_countIntersection_17 : decode cX8_countIntersection 17 = .ok (.ireturn, 1) := by decide +kernel
theorem dX8_countIntersection_18 : decode cX8_countIntersection 18 = .ok (.aload_n 0, 1) := by decide +kernel
theorem dX8_countIntersection_19 : decode cX8_countIntersection 19 = .ok (.invokevirtual 72, 3) := by decide +kernel
theorem dX8_countIntersection_22 : decode cX8_countIntersection 22 = .ok (.aload_n 0, 1) := by decide +kernel
theorem dX8_countIntersection_23 : decode cX8_countIntersection 23 = .ok (.iload_n 1, 1) := by decide +kernel
theorem dX8_countIntersection_24 : decode cX8_countIntersection 24 = .ok (.invokevirtual 148, 3) := by decide +kernel
theorem dX8_countIntersection_27 : decode cX8_countIntersection 27 = .ok (.ireturn, 1) := by decide +kernel
theorem dX8_writes_0 : decode cX8_writes 0 = .ok (.aload_n 0, 1) := by decide +kernel
theorem dX8_writes_1 : decode cX8_writes 1 = .ok (.iload_n 1, 1) := by decide +kernel
theorem dX8_writes_2 : decode cX8_writes 2 = .ok (.invokevirtual 75, 3) := by decide +kernel
theorem dX8_writes_5 : decode cX8_writes 5 = .ok (.aload_n 0, 1) := by decide +kernel
theorem dX8_writes_6 : decode cX8_writes 6 = .ok (.getfield 7, 3) := by decide +kernel
theorem dX8_writes_9 : decode cX8_writes 9 = .ok (.iload_n 1, 1) := by decide +kernel
theorem dX8_writes_10 : decode cX8_writes 10 = .ok (.iconst 0, 1) := by decide +kernel
theorem dX8_writes_11 : decode cX8_writes 11 = .ok (.iastore, 1) := by decide +kernel
theorem dX8_writes_12 : decode cX8_writes 12 = .ok (.iconst 0, 1) := by decide +kernel
theorem dX8_writes_13 : decode cX8_writes 13 = .ok (.istore_n 3, 1) := by decide +kernel
theorem dX8_writes_14 : decode cX8_writes 14 = .ok (.iload_n 3, 1) := by decide +kernel
theorem dX8_writes_15 : decode cX8_writes 15 = .ok (.iload_n 2, 1) := by decide +kernel
theorem dX8_writes_16 : decode cX8_writes 16 = .ok (.if_icmp .ge 20, 3) := by decide +kernel
theorem dX8_writes_19 : decode cX8_writes 19 = .ok (.aload_n 0, 1) := by decide +kernel
theorem dX8_writes_20 : decode cX8_writes 20 = .ok (.iload_n 1, 1) := by decide +kernel
theorem dX8_writes_21 : decode cX8_writes 21 = .ok (.aload_n 0, 1) := by decide +kernel
theorem dX8_writes_22 : decode cX8_writes 22 = .ok (.getfield 35, 3) := by decide +kernel
theorem dX8_writes_25 : decode cX8_writes 25 = .ok (.iload_n 3, 1) := by decide +kernel
theorem dX8_writes_26 : decode cX8_writes 26 = .ok (.iaload, 1) := by decide +kernel
theorem dX8_writes_27 : decode cX8_writes 27 = .ok (.invokevirtual 78, 3) := by decide +kernel
theorem dX8_writes_30 : decode cX8_writes 30 = .ok (.iinc 3 1, 3) := by decide +kernel
theorem dX8_writes_33 : decode cX8_writes 33 = .ok (.goto (-19), 3) := by decide +kernel
theorem dX8_writes_36 : decode cX8_writes 36 = .ok (.iload_n 2, 1) := by decide +kernel
theorem dX8_writes_37 : decode cX8_writes 37 = .ok (.ireturn, 1) := by decide +kernel
theorem dX8_intersect_0 : decode cX8_intersect 0 = .ok (.aload_n 0, 1) := by decide +kernel
theorem dX8_intersect_1 : decode cX8_intersect 1 = .ok (.iconst 0, 1) := by decide +kernel
theorem dX8_intersect_2 : decode cX8_intersect 2 = .ok (.putfield 41, 3) := by decide +kernel
theorem dX8_intersect_5 : decode cX8_intersect 5 = .ok (.iload_n 1, 1) := by decide +kernel
theorem dX8_intersect_6 : decode cX8_intersect 6 = .ok (.invokestatic 145, 3) := by decide +kernel
theorem dX8_intersect_9 : decode cX8_intersect 9 = .ok (.ifCond .ne 9, 3) := by decide +kernel
theorem dX8_intersect_12 : decode cX8_intersect 12 = .ok (.aload_n 0, 1) := by decide +kernel
theorem dX8_intersect_13 : decode cX8_intersect 13 = .ok (.iconst 1, 1) := by decide +kernel
theorem dX8_intersect_14 : decode cX8_intersect 14 = .ok (.invokevirtual 64, 3) := by decide +kernel
theorem dX8_intersect_17 : decode cX8_intersect 17 = .ok (.ireturn, 1) := by decide +kernel
theorem dX8_intersect_18 : decode cX8_intersect 18 = .ok (.iload_n 2, 1) := by decide +kernel
theorem dX8_intersect_19 : decode cX8_intersect 19 = .ok (.invokestatic 60, 3) := by decide +kernel
theorem dX8_intersect_22 : decode cX8_intersect 22 = .ok (.ifCond .ne 9, 3) := by decide +kernel
theorem dX8_intersect_25 : decode cX8_intersect 25 = .ok (.aload_n 0, 1) := by decide +kernel
theorem dX8_intersect_26 : decode cX8_intersect 26 = .ok (.iconst 2, 1) := by decide +kernel
theorem dX8_intersect_27 : decode cX8_intersect 27 = .ok (.invokevirtual 64, 3) := by decide +kernel
theorem dX8_intersect_30 : decode cX8_intersect 30 = .ok (.ireturn, 1) := by decide +kernel
theorem dX8_intersect_31 : decode cX8_intersect 31 = .ok (.aload_n 0, 1) := by decide +kernel
theorem dX8_intersect_32 : decode cX8_intersect 32 = .ok (.invokevirtual 72, 3) := by decide +kernel
theorem dX8_intersect_35 : decode cX8_intersect 35 = .ok (.aload_n 0, 1) := by decide +kernel
theorem dX8_intersect_36 : decode cX8_intersect 36 = .ok (.iload_n 2, 1) := by decide +kernel
theorem dX8_intersect_37 : decode cX8_intersect 37 = .ok (.aload_n 0, 1) := by decide +kernel
theorem dX8_intersect_38 : decode cX8_intersect 38 = .ok (.iload_n 1, 1) := by decide +kernel
theorem dX8_intersect_39 : decode cX8_intersect 39 = .ok (.invokevirtual 148, 3) := by decide +kernel
theorem dX8_intersect_42 : decode cX8_intersect 42 = .ok (.invokevirtual 151, 3) := by decide +kernel
theorem dX8_intersect_45 : decode cX8_intersect 45 = .ok (.ireturn, 1) := by decide +kernel
theorem dX8_has_0 : decode cX8_has 0 = .ok (.iconst 0, 1) := by decide +kernel
theorem dX8_has_1 : decode cX8_has 1 = .ok (.istore_n 3, 1) := by decide +kernel
theorem dX8_has_2 : decode cX8_has 2 = .ok (.iconst 0, 1) := by decide +kernel
theorem dX8_has_3 : decode cX8_has 3 = .ok (.istore 4, 2) := by decide +kernel
theorem dX8_has_5 : decode cX8_has 5 = .ok (.iload 4, 2) := by decide +kernel
theorem dX8_has_7 : decode cX8_has 7 = .ok (.aload_n 0, 1) := by decide +kernel
theorem dX8_has_8 : decode cX8_has 8 = .ok (.getfield 7, 3) := by decide +kernel
theorem dX8_has_11 : decode cX8_has 11 = .ok (.iload_n 1, 1) := by decide +kernel
theorem dX8_has_12 : decode cX8_has 12 = .ok (.iaload, 1) := by decide +kernel
theorem dX8_has_13 : decode cX8_has 13 = .ok (.if_icmp .ge 30, 3) := by decide +kernel
theorem dX8_has_16 : decode cX8_has 16 = .ok (.iload_n 3, 1) := by decide +kernel
theorem dX8_has_17 : decode cX8_has 17 = .ok (.ifCond .ne 14, 3) := by decide +kernel
theorem dX8_has_20 : decode cX8_has 20 = .ok (.aload_n 0, 1) := by decide +kernel
theorem dX8_has_21 : decode cX8_has 21 = .ok (.iload_n 1, 1) := by decide +kernel
theorem dX8_has_22 : decode cX8_has 22 = .ok (.iload 4, 2) := by decide +kernel
theorem dX8_has_24 : decode cX8_has 24 = .ok (.invokevirtual 56, 3) := by decide +kernel
theorem dX8_has_27 : decode cX8_has 27 = .ok (.iload_n 2, 1) := by decide +kernel
theorem dX8_has_28 : decode cX8_has 28 = .ok (.if_icmp .ne 7, 3) := by decide +kernel
theorem dX8_has_31 : decode cX8_has 31 = .ok (.iconst 1, 1) := by decide +kernel
theorem dX8_has_32 : decode cX8_has 32 = .ok (.goto 4, 3) := by decide +kernel
theorem dX8_has_35 : decode cX8_has 35 = .ok (.iconst 0, 1) := by decide +kernel
theorem dX8_has_36 : decode cX8_has 36 = .ok (.istore_n 3, 1) := by decide +kernel
theorem dX8_has_37 : decode cX8_has 37 = .ok (.iinc 4 1, 3) := by decide +kernel
theorem dX8_has_40 : decode cX8_has 40 = .ok (.goto (-35), 3) := by decide +kernel
theorem dX8_has_43 : decode cX8_has 43 = .ok (.iload_n 3, 1) := by decide +kernel
theorem dX8_has_44 : decode cX8_has 44 = .ok (.ireturn, 1) := by decide +kernel
theorem dX8_unite_0 : decode cX8_unite 0 = .ok (.aload_n 0, 1) := by decide +kernel
theorem dX8_unite_1 : decode cX8_unite 1 = .ok (.iconst 0, 1) := by decide +kernel
theorem dX8_unite_2 : decode cX8_unite 2 = .ok (.putfield 41, 3) := by decide +kernel
theorem dX8_unite_5 : decode cX8_unite 5 = .ok (.iload_n 1, 1) := by decide +kernel
theorem dX8_unite_6 : decode cX8_unite 6 = .ok (.invokestatic 60, 3) := by decide +kernel
theorem dX8_unite_9 : decode cX8_unite 9 = .ok (.ifCond .eq 17, 3) := by decide +kernel
theorem dX8_unite_12 : decode cX8_unite 12 = .ok (.iload_n 2, 1) := by decide +kernel
theorem dX8_unite_13 : decode cX8_unite 13 = .ok (.invokestatic 60, 3) := by decide +kernel
theorem dX8_unite_16 : decode cX8_unite 16 = .ok (.ifCond .eq 10, 3) := by decide +kernel
theorem dX8_unite_19 : decode cX8_unite 19 = .ok (.iload_n 3, 1) := by decide +kernel
theorem dX8_unite_20 : decode cX8_unite 20 = .ok (.invokestatic 60, 3) := by decide +kernel
theorem dX8_unite_23 : decode cX8_unite 23 = .ok (.ifCond .ne 9, 3) := by decide +kernel
theorem dX8_unite_26 : decode cX8_unite 26 = .ok (.aload_n 0, 1) := by decide +kernel
theorem dX8_unite_27 : decode cX8_unite 27 = .ok (.iconst 1, 1) := by decide +kernel
theorem dX8_unite_28 : decode cX8_unite 28 = .ok (.invokevirtual 64, 3) := by decide +kernel
theorem dX8_unite_31 : decode cX8_unite 31 = .ok (.ireturn, 1) := by decide +kernel
theorem dX8_unite_32 : decode cX8_unite 32 = .ok (.iconst 0, 1) := by decide +kernel
theorem dX8_unite_33 : decode cX8_unite 33 = .ok (.istore 4, 2) := by decide +kernel
theorem dX8_unite_35 : decode cX8_unite 35 = .ok (.iconst 0, 1) := by decide +kernel
theorem dX8_unite_36 : decode cX8_unite 36 = .ok (.istore 5, 2) := by decide +kernel
theorem dX8_unite_38 : decode cX8_unite 38 = .ok (.iload 5, 2) := by decide +kernel
theorem dX8_unite_40 : decode cX8_unite 40 = .ok (.sipush 511, 3) := by decide +kernel
theorem dX8_unite_43 : decode cX8_unite 43 = .ok (.if_icmp .gt 41, 3) := by decide +kernel
theorem dX8_unite_46 : decode cX8_unite 46 = .ok (.aload_n 0, 1) := by decide +kernel
theorem dX8_unite_47 : decode cX8_unite 47 = .ok (.iload_n 1, 1) := by decide +kernel
theorem dX8_unite_48 : decode cX8_unite 48 = .ok (.iload 5, 2) := by decide +kernel
theorem dX8_unite_50 : decode cX8_unite 50 = .ok (.invokevirtual 154, 3) := by decide +kernel
theorem dX8_unite_53 : decode cX8_unite 53 = .ok (.ifCond .ne 13, 3) := by decide +kernel
theorem dX8_unite_56 : decode cX8_unite 56 = .ok (.aload_n 0, 1) := by decide +kernel
theorem dX8_unite_57 : decode cX8_unite 57 = .ok (.iload_n 2, 1) := by decide +kernel
theorem dX8_unite_58 : decode cX8_unite 58 = .ok (.iload 5, 2) := by decide +kernel
theorem dX8_unite_60 : decode cX8_unite 60 = .ok (.invokevirtual 154, 3) := by decide +kernel
theorem dX8_unite_63 : decode cX8_unite 63 = .ok (.ifCond .eq 15, 3) := by decide +kernel
theorem dX8_unite_66 : decode cX8_unite 66 = .ok (.aload_n 0, 1) := by decide +kernel
theorem dX8_unite_67 : decode cX8_unite 67 = .ok (.getfield 35, 3) := by decide +kernel
theorem dX8_unite_70 : decode cX8_unite 70 = .ok (.iload 4, 2) := by decide +kernel
theorem dX8_unite_72 : decode cX8_unite 72 = .ok (.iload 5, 2) := by decide +kernel
theorem dX8_unite_74 : decode cX8_unite 74 = .ok (.iastore, 1) := by decide +kernel
theorem dX8_unite_75 : decode cX8_unite 75 = .ok (.iinc 4 1, 3) := by decide +kernel
theorem dX8_unite_78 : decode cX8_unite 78 = .ok (.iinc 5 1, 3) := by decide +kernel
theorem dX8_unite_81 : decode cX8_unite 81 = .ok (.goto (-43), 3) := by decide +kernel
theorem dX8_unite_84 : decode cX8_unite 84 = .ok (.iload 4, 2) := by decide +kernel
theorem dX8_unite_86 : decode cX8_unite 86 = .ok (.bipush 64, 2) := by decide +kernel
theorem dX8_unite_88 : decode cX8_unite 88 = .ok (.if_icmp .le 9, 3) := by decide +kernel
theorem dX8_unite_91 : decode cX8_unite 91 = .ok (.aload_n 0, 1) := by decide +kernel
theorem dX8_unite_92 : decode cX8_unite 92 = .ok (.iconst 2, 1) := by decide +kernel
theorem dX8_unite_93 : decode cX8_unite 93 = .ok (.invokevirtual 64, 3) := by decide +kernel
theorem dX8_unite_96 : decode cX8_unite 96 = .ok (.ireturn, 1) := by decide +kernel
theorem dX8_unite_97 : decode cX8_unite 97 = .ok (.aload_n 0, 1) := by decide +kernel
theorem dX8_unite_98 : decode cX8_unite 98 = .ok (.invokevirtual 72, 3) := by decide +kernel
theorem dX8_unite_101 : decode cX8_unite 101 = .ok (.aload_n 0, 1) := by decide +kernel
theorem dX8_unite_102 : decode cX8_unite 102 = .ok (.iload_n 3, 1) := by decide +kernel
theorem dX8_unite_103 : decode cX8_unite 103 = .ok (.iload 4, 2) := by decide +kernel
theorem dX8_unite_105 : decode cX8_unite 105 = .ok (.invokevirtual 151, 3) := by decide +kernel
theorem dX8_unite_108 : decode cX8_unite 108 = .ok (.ireturn, 1) := by decide +kernel
theorem dX8_subtract_0 : decode cX8_subtract 0 = .ok (.aload_n 0, 1) := by decide +kernel
theorem dX8_subtract_1 : decode cX8_subtract 1 = .ok (.iconst 0, 1) := by decide +kernel
theorem dX8_subtract_2 : decode cX8_subtract 2 = .ok (.putfield 41, 3) := by decide +kernel
theorem dX8_subtract_5 : decode cX8_subtract 5 = .ok (.iload_n 1, 1) := by decide +kernel
theorem dX8_subtract_6 : decode cX8_subtract 6 = .ok (.invokestatic 60, 3) := by decide +kernel
theorem dX8_subtract_9 : decode cX8_subtract 9 = .ok (.ifCond .eq 17, 3) := by decide +kernel
theorem dX8_subtract_12 : decode cX8_subtract 12 = .ok (.iload_n 2, 1) := by decide +kernel
theorem dX8_subtract_13 : decode cX8_subtract 13 = .ok (.invokestatic 60, 3) := by decide +kernel
theorem dX8_subtract_16 : decode cX8_subtract 16 = .ok (.ifCond .eq 10, 3) := by decide +kernel
theorem dX8_subtract_19 : decode cX8_subtract 19 = .ok (.iload_n 3, 1) := by decide +kernel
theorem dX8_subtract_20 : decode cX8_subtract 20 = .ok (.invokestatic 60, 3) := by decide +kernel
theorem dX8_subtract_23 : decode cX8_subtract 23 = .ok (.ifCond .ne 9, 3) := by decide +kernel
theorem dX8_subtract_26 : decode cX8_subtract 26 = .ok (.aload_n 0, 1) := by decide +kernel
theorem dX8_subtract_27 : decode cX8_subtract 27 = .ok (.iconst 1, 1) := by decide +kernel
theorem dX8_subtract_28 : decode cX8_subtract 28 = .ok (.invokevirtual 64, 3) := by decide +kernel
theorem dX8_subtract_31 : decode cX8_subtract 31 = .ok (.ireturn, 1) := by decide +kernel
theorem dX8_subtract_32 : decode cX8_subtract 32 = .ok (.iconst 0, 1) := by decide +kernel
theorem dX8_subtract_33 : decode cX8_subtract 33 = .ok (.istore 4, 2) := by decide +kernel
theorem dX8_subtract_35 : decode cX8_subtract 35 = .ok (.iconst 0, 1) := by decide +kernel
theorem dX8_subtract_36 : decode cX8_subtract 36 = .ok (.istore 5, 2) := by decide +kernel
theorem dX8_subtract_38 : decode cX8_subtract 38 = .ok (.iload 5, 2) := by decide +kernel
theorem dX8_subtract_40 : decode cX8_subtract 40 = .ok (.aload_n 0, 1) := by decide +kernel
theorem dX8_subtract_41 : decode cX8_subtract 41 = .ok (.getfield 7, 3) := by decide +kernel
theorem dX8_subtract_44 : decode cX8_subtract 44 = .ok (.iload_n 1, 1) := by decide +kernel
theorem dX8_subtract_45 : decode cX8_subtract 45 = .ok (.iaload, 1) := by decide +kernel
theorem dX8_subtract_46 : decode cX8_subtract 46 = .ok (.if_icmp .ge 41, 3) := by decide +kernel
theorem dX8_subtract_49 : decode cX8_subtract 49 = .ok (.aload_n 0, 1) := by decide +kernel
theorem dX8_subtract_50 : decode cX8_subtract 50 = .ok (.iload_n 2, 1) := by decide +kernel
theorem dX8_subtract_51 : decode cX8_subtract 51 = .ok (.aload_n 0, 1) := by decide +kernel
theorem dX8_subtract_52 : decode cX8_subtract 52 = .ok (.iload_n 1, 1) := by decide +kernel
theorem dX8_subtract_53 : decode cX8_subtract 53 = .ok (.iload 5, 2) := by decide +kernel
theorem dX8_subtract_55 : decode cX8_subtract 55 = .ok (.invokevirtual 56, 3) := by decide +kernel
theorem dX8_subtract_58 : decode cX8_subtract 58 = .ok (.invokevirtual 154, 3) := by decide +kernel
theorem dX8_subtract_61 : decode cX8_subtract 61 = .ok (.ifCond .ne 20, 3) := by decide +kernel
theorem dX8_subtract_64 : decode cX8_subtract 64 = .ok (.aload_n 0, 1) := by decide +kernel
theorem dX8_subtract_65 : decode cX8_subtract 65 = .ok (.getfield 35, 3) := by decide +kernel
theorem dX8_subtract_68 : decode cX8_subtract 68 = .ok (.iload 4, 2) := by decide +kernel
theorem dX8_subtract_70 : decode cX8_subtract 70 = .ok (.aload_n 0, 1) := by decide +kernel
theorem dX8_subtract_71 : decode cX8_subtract 71 = .ok (.iload_n 1, 1) := by decide +kernel
theorem dX8_subtract_72 : decode cX8_subtract 72 = .ok (.iload 5, 2) := by decide +kernel
theorem dX8_subtract_74 : decode cX8_subtract 74 = .ok (.invokevirtual 56, 3) := by decide +kernel
theorem dX8_subtract_77 : decode cX8_subtract 77 = .ok (.iastore, 1) := by decide +kernel
theorem dX8_subtract_78 : decode cX8_subtract 78 = .ok (.iinc 4 1, 3) := by decide +kernel
theorem dX8_subtract_81 : decode cX8_subtract 81 = .ok (.iinc 5 1, 3) := by decide +kernel
theorem dX8_subtract_84 : decode cX8_subtract 84 = .ok (.goto (-46), 3) := by decide +kernel
theorem dX8_subtract_87 : decode cX8_subtract 87 = .ok (.aload_n 0, 1) := by decide +kernel
theorem dX8_subtract_88 : decode cX8_subtract 88 = .ok (.invokevirtual 72, 3) := by decide +kernel
theorem dX8_subtract_91 : decode cX8_subtract 91 = .ok (.aload_n 0, 1) := by decide +kernel
theorem dX8_subtract_92 : decode cX8_subtract 92 = .ok (.iload_n 3, 1) := by decide +kernel
theorem dX8_subtract_93 : decode cX8_subtract 93 = .ok (.iload 4, 2) := by decide +kernel
theorem dX8_subtract_95 : decode cX8_subtract 95 = .ok (.invokevirtual 151, 3) := by decide +kernel
theorem dX8_subtract_98 : decode cX8_subtract 98 = .ok (.ireturn, 1) := by decide +kernel
theorem dX8_reads_0 : decode cX8_reads 0 = .ok (.aload_n 0, 1) := by decide +kernel
theorem dX8_reads_1 : decode cX8_reads 1 = .ok (.iconst 0, 1) := by decide +kernel
theorem dX8_reads_2 : decode cX8_reads 2 = .ok (.putfield 41, 3) := by decide +kernel
theorem dX8_reads_5 : decode cX8_reads 5 = .ok (.aload_n 0, 1) := by decide +kernel
theorem dX8_reads_6 : decode cX8_reads 6 = .ok (.getfield 7, 3) := by decide +kernel
theorem dX8_reads_9 : decode cX8_reads 9 = .ok (.sipush 270, 3) := by decide +kernel
theorem dX8_reads_12 : decode cX8_reads 12 = .ok (.iaload, 1) := by decide +kernel
theorem dX8_reads_13 : decode cX8_reads 13 = .ok (.ireturn, 1) := by decide +kernel
theorem dX8_hits_0 : decode cX8_hits 0 = .ok (.aload_n 0, 1) := by decide +kernel
theorem dX8_hits_1 : decode cX8_hits 1 = .ok (.iconst 0, 1) := by decide +kernel
theorem dX8_hits_2 : decode cX8_hits 2 = .ok (.putfield 41, 3) := by decide +kernel
theorem dX8_hits_5 : decode cX8_hits 5 = .ok (.aload_n 0, 1) := by decide +kernel
theorem dX8_hits_6 : decode cX8_hits 6 = .ok (.getfield 7, 3) := by decide +kernel
theorem dX8_hits_9 : decode cX8_hits 9 = .ok (.sipush 271, 3) := by decide +kernel
theorem dX8_hits_12 : decode cX8_hits 12 = .ok (.iaload, 1) := by decide +kernel
theorem dX8_hits_13 : decode cX8_hits 13 = .ok (.ireturn, 1) := by decide +kernel
theorem dX8_setCapacity_0 : decode cX8_setCapacity 0 = .ok (.aload_n 0, 1) := by decide +kernel
theorem dX8_setCapacity_1 : decode cX8_setCapacity 1 = .ok (.iconst 0, 1) := by decide +kernel
theorem dX8_setCapacity_2 : decode cX8_setCapacity 2 = .ok (.putfield 41, 3) := by decide +kernel
theorem dX8_setCapacity_5 : decode cX8_setCapacity 5 = .ok (.iload_n 1, 1) := by decide +kernel
theorem dX8_setCapacity_6 : decode cX8_setCapacity 6 = .ok (.iconst 0, 1) := by decide +kernel
theorem dX8_setCapacity_7 : decode cX8_setCapacity 7 = .ok (.bipush 8, 2) := by decide +kernel
theorem dX8_setCapacity_9 : decode cX8_setCapacity 9 = .ok (.invokestatic 45, 3) := by decide +kernel
theorem dX8_setCapacity_12 : decode cX8_setCapacity 12 = .ok (.ifCond .ne 9, 3) := by decide +kernel
theorem dX8_setCapacity_15 : decode cX8_setCapacity 15 = .ok (.aload_n 0, 1) := by decide +kernel
theorem dX8_setCapacity_16 : decode cX8_setCapacity 16 = .ok (.iconst 1, 1) := by decide +kernel
theorem dX8_setCapacity_17 : decode cX8_setCapacity 17 = .ok (.invokevirtual 64, 3) := by decide +kernel
theorem dX8_setCapacity_20 : decode cX8_setCapacity 20 = .ok (.ireturn, 1) := by decide +kernel
theorem dX8_setCapacity_21 : decode cX8_setCapacity 21 = .ok (.aload_n 0, 1) := by decide +kernel
theorem dX8_setCapacity_22 : decode cX8_setCapacity 22 = .ok (.invokevirtual 72, 3) := by decide +kernel
theorem dX8_setCapacity_25 : decode cX8_setCapacity 25 = .ok (.aload_n 0, 1) := by decide +kernel
theorem dX8_setCapacity_26 : decode cX8_setCapacity 26 = .ok (.getfield 7, 3) := by decide +kernel
theorem dX8_setCapacity_29 : decode cX8_setCapacity 29 = .ok (.sipush 260, 3) := by decide +kernel
theorem dX8_setCapacity_32 : decode cX8_setCapacity 32 = .ok (.iaload, 1) := by decide +kernel
theorem dX8_setCapacity_33 : decode cX8_setCapacity 33 = .ok (.istore_n 2, 1) := by decide +kernel
theorem dX8_setCapacity_34 : decode cX8_setCapacity 34 = .ok (.aload_n 0, 1) := by decide +kernel
theorem dX8_setCapacity_35 : decode cX8_setCapacity 35 = .ok (.getfield 7, 3) := by decide +kernel
theorem dX8_setCapacity_38 : decode cX8_setCapacity 38 = .ok (.sipush 260, 3) := by decide +kernel
theorem dX8_setCapacity_41 : decode cX8_setCapacity 41 = .ok (.iload_n 1, 1) := by decide +kernel
theorem dX8_setCapacity_42 : decode cX8_setCapacity 42 = .ok (.iastore, 1) := by decide +kernel
theorem dX8_setCapacity_43 : decode cX8_setCapacity 43 = .ok (.aload_n 0, 1) := by decide +kernel
theorem dX8_setCapacity_44 : decode cX8_setCapacity 44 = .ok (.getfield 7, 3) := by decide +kernel
theorem dX8_setCapacity_47 : decode cX8_setCapacity 47 = .ok (.sipush 261, 3) := by decide +kernel
theorem dX8_setCapacity_50 : decode cX8_setCapacity 50 = .ok (.iaload, 1) := by decide +kernel
theorem dX8_setCapacity_51 : decode cX8_setCapacity 51 = .ok (.iload_n 1, 1) := by decide +kernel
theorem dX8_setCapacity_52 : decode cX8_setCapacity 52 = .ok (.if_icmp .le 11, 3) := by decide +kernel
theorem dX8_setCapacity_55 : decode cX8_setCapacity 55 = .ok (.aload_n 0, 1) := by decide +kernel
theorem dX8_setCapacity_56 : decode cX8_setCapacity 56 = .ok (.iconst 0, 1) := by decide +kernel
theorem dX8_setCapacity_57 : decode cX8_setCapacity 57 = .ok (.invokevirtual 52, 3) := by decide +kernel
theorem dX8_setCapacity_60 : decode cX8_setCapacity 60 = .ok (.goto (-17), 3) := by decide +kernel
theorem dX8_setCapacity_63 : decode cX8_setCapacity 63 = .ok (.iload_n 2, 1) := by decide +kernel
theorem dX8_setCapacity_64 : decode cX8_setCapacity 64 = .ok (.ireturn, 1) := by decide +kernel
theorem dX8_cached_0 : decode cX8_cached 0 = .ok (.aload_n 0, 1) := by decide +kernel
theorem dX8_cached_1 : decode cX8_cached 1 = .ok (.iconst 0, 1) := by decide +kernel
theorem dX8_cached_2 : decode cX8_cached 2 = .ok (.putfield 41, 3) := by decide +kernel
theorem dX8_cached_5 : decode cX8_cached 5 = .ok (.aload_n 0, 1) := by decide +kernel
theorem dX8_cached_6 : decode cX8_cached 6 = .ok (.getfield 7, 3) := by decide +kernel
theorem dX8_cached_9 : decode cX8_cached 9 = .ok (.sipush 261, 3) := by decide +kernel
theorem dX8_cached_12 : decode cX8_cached 12 = .ok (.iaload, 1) := by decide +kernel
theorem dX8_cached_13 : decode cX8_cached 13 = .ok (.ireturn, 1) := by decide +kernel
theorem dX8_cachedAt_0 : decode cX8_cachedAt 0 = .ok (.aload_n 0, 1) := by decide +kernel
theorem dX8_cachedAt_1 : decode cX8_cachedAt 1 = .ok (.iconst 0, 1) := by decide +kernel
theorem dX8_cachedAt_2 : decode cX8_cachedAt 2 = .ok (.putfield 41, 3) := by decide +kernel
theorem dX8_cachedAt_5 : decode cX8_cachedAt 5 = .ok (.iload_n 1, 1) := by decide +kernel
theorem dX8_cachedAt_6 : decode cX8_cachedAt 6 = .ok (.iconst 0, 1) := by decide +kernel
theorem dX8_cachedAt_7 : decode cX8_cachedAt 7 = .ok (.aload_n 0, 1) := by decide +kernel
theorem dX8_cachedAt_8 : decode cX8_cachedAt 8 = .ok (.getfield 7, 3) := by decide +kernel
theorem dX8_cachedAt_11 : decode cX8_cachedAt 11 = .ok (.sipush 261, 3) := by decide +kernel
theorem dX8_cachedAt_14 : decode cX8_cachedAt 14 = .ok (.iaload, 1) := by decide +kernel
theorem dX8_cachedAt_15 : decode cX8_cachedAt 15 = .ok (.iconst 1, 1) := by decide +kernel
theorem dX8_cachedAt_16 : decode cX8_cachedAt 16 = .ok (.isub, 1) := by decide +kernel
theorem dX8_cachedAt_17 : decode cX8_cachedAt 17 = .ok (.invokestatic 45, 3) := by decide +kernel
theorem dX8_cachedAt_20 : decode cX8_cachedAt 20 = .ok (.ifCond .eq 16, 3) := by decide +kernel
theorem dX8_cachedAt_23 : decode cX8_cachedAt 23 = .ok (.aload_n 0, 1) := by decide +kernel
theorem dX8_cachedAt_24 : decode cX8_cachedAt 24 = .ok (.getfield 7, 3) := by decide +kernel
theorem dX8_cachedAt_27 : decode cX8_cachedAt 27 = .ok (.sipush 262, 3) := by decide +kernel
theorem dX8_cachedAt_30 : decode cX8_cachedAt 30 = .ok (.iload_n 1, 1) := by decide +kernel
theorem dX8_cachedAt_31 : decode cX8_cachedAt 31 = .ok (.iadd, 1) := by decide +kernel
theorem dX8_cachedAt_32 : decode cX8_cachedAt 32 = .ok (.iaload, 1) := by decide +kernel
theorem dX8_cachedAt_33 : decode cX8_cachedAt 33 = .ok (.goto 8, 3) := by decide +kernel
theorem dX8_cachedAt_36 : decode cX8_cachedAt 36 = .ok (.aload_n 0, 1) := by decide +kernel
theorem dX8_cachedAt_37 : decode cX8_cachedAt 37 = .ok (.iconst 1, 1) := by decide +kernel
theorem dX8_cachedAt_38 : decode cX8_cachedAt 38 = .ok (.invokevirtual 64, 3) := by decide +kernel
theorem dX8_cachedAt_41 : decode cX8_cachedAt 41 = .ok (.ireturn, 1) := by decide +kernel
theorem dX8_undo_0 : decode cX8_undo 0 = .ok (.aload_n 0, 1) := by decide +kernel
theorem dX8_undo_1 : decode cX8_undo 1 = .ok (.iconst 0, 1) := by decide +kernel
theorem dX8_undo_2 : decode cX8_undo 2 = .ok (.putfield 41, 3) := by decide +kernel
theorem dX8_undo_5 : decode cX8_undo 5 = .ok (.aload_n 0, 1) := by decide +kernel
theorem dX8_undo_6 : decode cX8_undo 6 = .ok (.getfield 49, 3) := by decide +kernel
theorem dX8_undo_9 : decode cX8_undo 9 = .ok (.ifCond .ne 9, 3) := by decide +kernel
theorem dX8_undo_12 : decode cX8_undo 12 = .ok (.aload_n 0, 1) := by decide +kernel
theorem dX8_undo_13 : decode cX8_undo 13 = .ok (.iconst 1, 1) := by decide +kernel
theorem dX8_undo_14 : decode cX8_undo 14 = .ok (.invokevirtual 64, 3) := by decide +kernel
theorem dX8_undo_17 : decode cX8_undo 17 = .ok (.ireturn, 1) := by decide +kernel
theorem dX8_undo_18 : decode cX8_undo 18 = .ok (.aload_n 0, 1) := by decide +kernel
theorem dX8_undo_19 : decode cX8_undo 19 = .ok (.dup, 1) := by decide +kernel
theorem dX8_undo_20 : decode cX8_undo 20 = .ok (.getfield 49, 3) := by decide +kernel
theorem dX8_undo_23 : decode cX8_undo 23 = .ok (.iconst 1, 1) := by decide +kernel
theorem dX8_undo_24 : decode cX8_undo 24 = .ok (.isub, 1) := by decide +kernel
theorem dX8_undo_25 : decode cX8_undo 25 = .ok (.putfield 49, 3) := by decide +kernel
theorem dX8_undo_28 : decode cX8_undo 28 = .ok (.iconst 0, 1) := by decide +kernel
theorem dX8_undo_29 : decode cX8_undo 29 = .ok (.istore_n 1, 1) := by decide +kernel
theorem dX8_undo_30 : decode cX8_undo 30 = .ok (.iload_n 1, 1) := by decide +kernel
theorem dX8_undo_31 : decode cX8_undo 31 = .ok (.sipush 272, 3) := by decide +kernel
theorem dX8_undo_34 : decode cX8_undo 34 = .ok (.if_icmp .ge 30, 3) := by decide +kernel
theorem dX8_undo_37 : decode cX8_undo 37 = .ok (.aload_n 0, 1) := by decide +kernel
theorem dX8_undo_38 : decode cX8_undo 38 = .ok (.getfield 7, 3) := by decide +kernel
theorem dX8_undo_41 : decode cX8_undo 41 = .ok (.iload_n 1, 1) := by decide +kernel
theorem dX8_undo_42 : decode cX8_undo 42 = .ok (.aload_n 0, 1) := by decide +kernel
theorem dX8_undo_43 : decode cX8_undo 43 = .ok (.getfield 13, 3) := by decide +kernel
theorem dX8_undo_46 : decode cX8_undo 46 = .ok (.sipush 272, 3) := by decide +kernel
theorem dX8_undo_49 : decode cX8_undo 49 = .ok (.aload_n 0, 1) := by decide +kernel
theorem dX8_undo_50 : decode cX8_undo 50 = .ok (.getfield 49, 3) := by decide +kernel
theorem dX8_undo_53 : decode cX8_undo 53 = .ok (.imul, 1) := by decide +kernel
theorem dX8_undo_54 : decode cX8_undo 54 = .ok (.iload_n 1, 1) := by decide +kernel
theorem dX8_undo_55 : decode cX8_undo 55 = .ok (.iadd, 1) := by decide +kernel
theorem dX8_undo_56 : decode cX8_undo 56 = .ok (.iaload, 1) := by decide +kernel
theorem dX8_undo_57 : decode cX8_undo 57 = .ok (.iastore, 1) := by decide +kernel
theorem dX8_undo_58 : decode cX8_undo 58 = .ok (.iinc 1 1, 3) := by decide +kernel
theorem dX8_undo_61 : decode cX8_undo 61 = .ok (.goto (-31), 3) := by decide +kernel
theorem dX8_undo_64 : decode cX8_undo 64 = .ok (.iconst 0, 1) := by decide +kernel
theorem dX8_undo_65 : decode cX8_undo 65 = .ok (.istore_n 1, 1) := by decide +kernel
theorem dX8_undo_66 : decode cX8_undo 66 = .ok (.iload_n 1, 1) := by decide +kernel
theorem dX8_undo_67 : decode cX8_undo 67 = .ok (.iconst 4, 1) := by decide +kernel
theorem dX8_undo_68 : decode cX8_undo 68 = .ok (.if_icmp .ge 16, 3) := by decide +kernel
theorem dX8_undo_71 : decode cX8_undo 71 = .ok (.aload_n 0, 1) := by decide +kernel
theorem dX8_undo_72 : decode cX8_undo 72 = .ok (.getfield 22, 3) := by decide +kernel
theorem dX8_undo_75 : decode cX8_undo 75 = .ok (.iload_n 1, 1) := by decide +kernel
theorem dX8_undo_76 : decode cX8_undo 76 = .ok (.iconst 0, 1) := by decide +kernel
theorem dX8_undo_77 : decode cX8_undo 77 = .ok (.bastore, 1) := by decide +kernel
theorem dX8_undo_78 : decode cX8_undo 78 = .ok (.iinc 1 1, 3) := by decide +kernel
theorem dX8_undo_81 : decode cX8_undo 81 = .ok (.goto (-15), 3) := by decide +kernel
theorem dX8_undo_84 : decode cX8_undo 84 = .ok (.aload_n 0, 1) := by decide +kernel
theorem dX8_undo_85 : decode cX8_undo 85 = .ok (.getfield 49, 3) := by decide +kernel
theorem dX8_undo_88 : decode cX8_undo 88 = .ok (.ireturn, 1) := by decide +kernel
theorem dX8_mixed_0 : decode cX8_mixed 0 = .ok (.ldc2_w 157, 3) := by decide +kernel
theorem dX8_mixed_3 : decode cX8_mixed 3 = .ok (.lload_n 0, 1) := by decide +kernel
theorem dX8_mixed_4 : decode cX8_mixed 4 = .ok (.lmul, 1) := by decide +kernel
theorem dX8_mixed_5 : decode cX8_mixed 5 = .ok (.lload_n 2, 1) := by decide +kernel
theorem dX8_mixed_6 : decode cX8_mixed 6 = .ok (.ladd, 1) := by decide +kernel
theorem dX8_mixed_7 : decode cX8_mixed 7 = .ok (.lreturn, 1) := by decide +kernel
theorem dX8_digest_0 : decode cX8_digest 0 = .ok (.aload_n 0, 1) := by decide +kernel
theorem dX8_digest_1 : decode cX8_digest 1 = .ok (.iconst 0, 1) := by decide +kernel
theorem dX8_digest_2 : decode cX8_digest 2 = .ok (.putfield 41, 3) := by decide +kernel
theorem dX8_digest_5 : decode cX8_digest 5 = .ok (.ldc2_w 159, 3) := by decide +kernel
theorem dX8_digest_8 : decode cX8_digest 8 = .ok (.lstore_n 1, 1) := by decide +kernel
theorem dX8_digest_9 : decode cX8_digest 9 = .ok (.iconst 0, 1) := by decide +kernel
theorem dX8_digest_10 : decode cX8_digest 10 = .ok (.istore_n 3, 1) := by decide +kernel
theorem dX8_digest_11 : decode cX8_digest 11 = .ok (.iload_n 3, 1) := by decide +kernel
theorem dX8_digest_12 : decode cX8_digest 12 = .ok (.iconst 4, 1) := by decide +kernel
theorem dX8_digest_13 : decode cX8_digest 13 = .ok (.if_icmp .ge 151, 3) := by decide +kernel
theorem dX8_digest_16 : decode cX8_digest 16 = .ok (.lload_n 1, 1) := by decide +kernel
theorem dX8_digest_17 : decode cX8_digest 17 = .ok (.aload_n 0, 1) := by decide +kernel
theorem dX8_digest_18 : decode cX8_digest 18 = .ok (.getfield 7, 3) := by decide +kernel
theorem dX8_digest_21 : decode cX8_digest 21 = .ok (.iload_n 3, 1) := by decide +kernel
theorem dX8_digest_22 : decode cX8_digest 22 = .ok (.iaload, 1) := by decide +kernel
theorem dX8_digest_23 : decode cX8_digest 23 = .ok (.i2l, 1) := by decide +kernel
theorem dX8_digest_24 : decode cX8_digest 24 = .ok (.invokestatic 161, 3) := by decide +kernel
theorem dX8_digest_27 : decode cX8_digest 27 = .ok (.lstore_n 1, 1) := by decide +kernel
theorem dX8_digest_28 : decode cX8_digest 28 = .ok (.iconst 0, 1) := by decide +kernel
theorem dX8_digest_29 : decode cX8_digest 29 = .ok (.istore 4, 2) := by decide +kernel
theorem dX8_digest_31 : decode cX8_digest 31 = .ok (.iload 4, 2) := by decide +kernel
theorem dX8_digest_33 : decode cX8_digest 33 = .ok (.aload_n 0, 1) := by decide +kernel
theorem dX8_digest_34 : decode cX8_digest 34 = .ok (.getfield 7, 3) := by decide +kernel
theorem dX8_digest_37 : decode cX8_digest 37 = .ok (.iload_n 3, 1) := by decide +kernel
theorem dX8_digest_38 : decode cX8_digest 38 = .ok (.iaload, 1) := by decide +kernel
theorem dX8_digest_39 : decode cX8_digest 39 = .ok (.if_icmp .ge 22, 3) := by decide +kernel
theorem dX8_digest_42 : decode cX8_digest 42 = .ok (.lload_n 1, 1) := by decide +kernel
theorem dX8_digest_43 : decode cX8_digest 43 = .ok (.aload_n 0, 1) := by decide +kernel
theorem dX8_digest_44 : decode cX8_digest 44 = .ok (.iload_n 3, 1) := by decide +kernel
theorem dX8_digest_45 : decode cX8_digest 45 = .ok (.iload 4, 2) := by decide +kernel
theorem dX8_digest_47 : decode cX8_digest 47 = .ok (.invokevirtual 56, 3) := by decide +kernel
theorem dX8_digest_50 : decode cX8_digest 50 = .ok (.i2l, 1) := by decide +kernel
theorem dX8_digest_51 : decode cX8_digest 51 = .ok (.invokestatic 161, 3) := by decide +kernel
theorem dX8_digest_54 : decode cX8_digest 54 = .ok (.lstore_n 1, 1) := by decide +kernel
theorem dX8_digest_55 : decode cX8_digest 55 = .ok (.iinc 4 1, 3) := by decide +kernel
theorem dX8_digest_58 : decode cX8_digest 58 = .ok (.goto (-27), 3) := by decide +kernel
theorem dX8_digest_61 : decode cX8_digest 61 = .ok (.aload_n 0, 1) := by decide +kernel
theorem dX8_digest_62 : decode cX8_digest 62 = .ok (.iload_n 3, 1) := by decide +kernel
theorem dX8_digest_63 : decode cX8_digest 63 = .ok (.invokevirtual 114, 3) := by decide +kernel
theorem dX8_digest_66 : decode cX8_digest 66 = .ok (.lload_n 1, 1) := by decide +kernel
theorem dX8_digest_67 : decode cX8_digest 67 = .ok (.aload_n 0, 1) := by decide +kernel
theorem dX8_digest_68 : decode cX8_digest 68 = .ok (.getfield 19, 3) := by decide +kernel
theorem dX8_digest_71 : decode cX8_digest 71 = .ok (.iload_n 3, 1) := by decide +kernel
theorem dX8_digest_72 : decode cX8_digest 72 = .ok (.iaload, 1) := by decide +kernel
theorem dX8_digest_73 : decode cX8_digest 73 = .ok (.i2l, 1) := by decide +kernel
theorem dX8_digest_74 : decode cX8_digest 74 = .ok (.invokestatic 161, 3) := by decide +kernel
theorem dX8_digest_77 : decode cX8_digest 77 = .ok (.lstore_n 1, 1) := by decide +kernel
theorem dX8_digest_78 : decode cX8_digest 78 = .ok (.iconst 0, 1) := by decide +kernel
theorem dX8_digest_79 : decode cX8_digest 79 = .ok (.istore 4, 2) := by decide +kernel
theorem dX8_digest_81 : decode cX8_digest 81 = .ok (.iload 4, 2) := by decide +kernel
theorem dX8_digest_83 : decode cX8_digest 83 = .ok (.bipush 6, 2) := by decide +kernel
theorem dX8_digest_85 : decode cX8_digest 85 = .ok (.aload_n 0, 1) := by decide +kernel
theorem dX8_digest_86 : decode cX8_digest 86 = .ok (.getfield 19, 3) := by decide +kernel
theorem dX8_digest_89 : decode cX8_digest 89 = .ok (.iload_n 3, 1) := by decide +kernel
theorem dX8_digest_90 : decode cX8_digest 90 = .ok (.iaload, 1) := by decide +kernel
theorem dX8_digest_91 : decode cX8_digest 91 = .ok (.imul, 1) := by decide +kernel
theorem dX8_digest_92 : decode cX8_digest 92 = .ok (.if_icmp .ge 30, 3) := by decide +kernel
theorem dX8_digest_95 : decode cX8_digest 95 = .ok (.lload_n 1, 1) := by decide +kernel
theorem dX8_digest_96 : decode cX8_digest 96 = .ok (.aload_n 0, 1) := by decide +kernel
theorem dX8_digest_97 : decode cX8_digest 97 = .ok (.iload_n 3, 1) := by decide +kernel
theorem dX8_digest_98 : decode cX8_digest 98 = .ok (.iload 4, 2) := by decide +kernel
theorem dX8_digest_100 : decode cX8_digest 100 = .ok (.bipush 6, 2) := by decide +kernel
theorem dX8_digest_102 : decode cX8_digest 102 = .ok (.idiv, 1) := by decide +kernel
theorem dX8_digest_103 : decode cX8_digest 103 = .ok (.iload 4, 2) := by decide +kernel
theorem dX8_digest_105 : decode cX8_digest 105 = .ok (.bipush 6, 2) := by decide +kernel
theorem dX8_digest_107 : decode cX8_digest 107 = .ok (.irem, 1) := by decide +kernel
theorem dX8_digest_108 : decode cX8_digest 108 = .ok (.invokevirtual 120, 3) := by decide +kernel
theorem dX8_digest_111 : decode cX8_digest 111 = .ok (.i2l, 1) := by decide +kernel
theorem dX8_digest_112 : decode cX8_digest 112 = .ok (.invokestatic 161, 3) := by decide +kernel
theorem dX8_digest_115 : decode cX8_digest 115 = .ok (.lstore_n 1, 1) := by decide +kernel
theorem dX8_digest_116 : decode cX8_digest 116 = .ok (.iinc 4 1, 3) := by decide +kernel
theorem dX8_digest_119 : decode cX8_digest 119 = .ok (.goto (-38), 3) := by decide +kernel
theorem dX8_digest_122 : decode cX8_digest 122 = .ok (.aload_n 0, 1) := by decide +kernel
theorem dX8_digest_123 : decode cX8_digest 123 = .ok (.iload_n 3, 1) := by decide +kernel
theorem dX8_digest_124 : decode cX8_digest 124 = .ok (.invokevirtual 123, 3) := by decide +kernel
theorem dX8_digest_127 : decode cX8_digest 127 = .ok (.istore 4, 2) := by decide +kernel
theorem dX8_digest_129 : decode cX8_digest 129 = .ok (.iconst 0, 1) := by decide +kernel
theorem dX8_digest_130 : decode cX8_digest 130 = .ok (.istore 5, 2) := by decide +kernel
theorem dX8_digest_132 : decode cX8_digest 132 = .ok (.iload 5, 2) := by decide +kernel
theorem dX8_digest_134 : decode cX8_digest 134 = .ok (.iload 4, 2) := by decide +kernel
theorem dX8_digest_136 : decode cX8_digest 136 = .ok (.if_icmp .ge 22, 3) := by decide +kernel
theorem dX8_digest_139 : decode cX8_digest 139 = .ok (.lload_n 1, 1) := by decide +kernel
theorem dX8_digest_140 : decode cX8_digest 140 = .ok (.aload_n 0, 1) := by decide +kernel
theorem dX8_digest_141 : decode cX8_digest 141 = .ok (.iload_n 3, 1) := by decide +kernel
theorem dX8_digest_142 : decode cX8_digest 142 = .ok (.iload 5, 2) := by decide +kernel
theorem dX8_digest_144 : decode cX8_digest 144 = .ok (.invokevirtual 132, 3) := by decide +kernel
theorem dX8_digest_147 : decode cX8_digest 147 = .ok (.i2l, 1) := by decide +kernel
theorem dX8_digest_148 : decode cX8_digest 148 = .ok (.invokestatic 161, 3) := by decide +kernel
theorem dX8_digest_151 : decode cX8_digest 151 = .ok (.lstore_n 1, 1) := by decide +kernel
theorem dX8_digest_152 : decode cX8_digest 152 = .ok (.iinc 5 1, 3) := by decide +kernel
theorem dX8_digest_155 : decode cX8_digest 155 = .ok (.goto (-23), 3) := by decide +kernel
theorem dX8_digest_158 : decode cX8_digest 158 = .ok (.iinc 3 1, 3) := by decide +kernel
theorem dX8_digest_161 : decode cX8_digest 161 = .ok (.goto (-150), 3) := by decide +kernel
theorem dX8_digest_164 : decode cX8_digest 164 = .ok (.lload_n 1, 1) := by decide +kernel
theorem dX8_digest_165 : decode cX8_digest 165 = .ok (.aload_n 0, 1) := by decide +kernel
theorem dX8_digest_166 : decode cX8_digest 166 = .ok (.getfield 7, 3) := by decide +kernel
theorem dX8_digest_169 : decode cX8_digest 169 = .ok (.sipush 260, 3) := by decide +kernel
theorem dX8_digest_172 : decode cX8_digest 172 = .ok (.iaload, 1) := by decide +kernel
theorem dX8_digest_173 : decode cX8_digest 173 = .ok (.i2l, 1) := by decide +kernel
theorem dX8_digest_174 : decode cX8_digest 174 = .ok (.invokestatic 161, 3) := by decide +kernel
theorem dX8_digest_177 : decode cX8_digest 177 = .ok (.aload_n 0, 1) := by decide +kernel
theorem dX8_digest_178 : decode cX8_digest 178 = .ok (.getfield 7, 3) := by decide +kernel
theorem dX8_digest_181 : decode cX8_digest 181 = .ok (.sipush 261, 3) := by decide +kernel
theorem dX8_digest_184 : decode cX8_digest 184 = .ok (.iaload, 1) := by decide +kernel
theorem dX8_digest_185 : decode cX8_digest 185 = .ok (.i2l, 1) := by decide +kernel
theorem dX8_digest_186 : decode cX8_digest 186 = .ok (.invokestatic 161, 3) := by decide +kernel
theorem dX8_digest_189 : decode cX8_digest 189 = .ok (.lstore_n 1, 1) := by decide +kernel
theorem dX8_digest_190 : decode cX8_digest 190 = .ok (.iconst 0, 1) := by decide +kernel
theorem dX8_digest_191 : decode cX8_digest 191 = .ok (.istore_n 3, 1) := by decide +kernel
theorem dX8_digest_192 : decode cX8_digest 192 = .ok (.iload_n 3, 1) := by decide +kernel
theorem dX8_digest_193 : decode cX8_digest 193 = .ok (.aload_n 0, 1) := by decide +kernel
theorem dX8_digest_194 : decode cX8_digest 194 = .ok (.getfield 7, 3) := by decide +kernel
theorem dX8_digest_197 : decode cX8_digest 197 = .ok (.sipush 261, 3) := by decide +kernel
theorem dX8_digest_200 : decode cX8_digest 200 = .ok (.iaload, 1) := by decide +kernel
theorem dX8_digest_201 : decode cX8_digest 201 = .ok (.if_icmp .ge 25, 3) := by decide +kernel
theorem dX8_digest_204 : decode cX8_digest 204 = .ok (.lload_n 1, 1) := by decide +kernel
theorem dX8_digest_205 : decode cX8_digest 205 = .ok (.aload_n 0, 1) := by decide +kernel
theorem dX8_digest_206 : decode cX8_digest 206 = .ok (.getfield 7, 3) := by decide +kernel
theorem dX8_digest_209 : decode cX8_digest 209 = .ok (.sipush 262, 3) := by decide +kernel
theorem dX8_digest_212 : decode cX8_digest 212 = .ok (.iload_n 3, 1) := by decide +kernel
theorem dX8_digest_213 : decode cX8_digest 213 = .ok (.iadd, 1) := by decide +kernel
theorem dX8_digest_214 : decode cX8_digest 214 = .ok (.iaload, 1) := by decide +kernel
theorem dX8_digest_215 : decode cX8_digest 215 = .ok (.i2l, 1) := by decide +kernel
theorem dX8_digest_216 : decode cX8_digest 216 = .ok (.invokestatic 161, 3) := by decide +kernel
theorem dX8_digest_219 : decode cX8_digest 219 = .ok (.lstore_n 1, 1) := by decide +kernel
theorem dX8_digest_220 : decode cX8_digest 220 = .ok (.iinc 3 1, 3) := by decide +kernel
theorem dX8_digest_223 : decode cX8_digest 223 = .ok (.goto (-31), 3) := by decide +kernel
theorem dX8_digest_226 : decode cX8_digest 226 = .ok (.lload_n 1, 1) := by decide +kernel
theorem dX8_digest_227 : decode cX8_digest 227 = .ok (.aload_n 0, 1) := by decide +kernel
theorem dX8_digest_228 : decode cX8_digest 228 = .ok (.getfield 7, 3) := by decide +kernel
theorem dX8_digest_231 : decode cX8_digest 231 = .ok (.sipush 270, 3) := by decide +kernel
theorem dX8_digest_234 : decode cX8_digest 234 = .ok (.iaload, 1) := by decide +kernel
theorem dX8_digest_235 : decode cX8_digest 235 = .ok (.i2l, 1) := by decide +kernel
theorem dX8_digest_236 : decode cX8_digest 236 = .ok (.invokestatic 161, 3) := by decide +kernel
theorem dX8_digest_239 : decode cX8_digest 239 = .ok (.aload_n 0, 1) := by decide +kernel
theorem dX8_digest_240 : decode cX8_digest 240 = .ok (.getfield 7, 3) := by decide +kernel
theorem dX8_digest_243 : decode cX8_digest 243 = .ok (.sipush 271, 3) := by decide +kernel
theorem dX8_digest_246 : decode cX8_digest 246 = .ok (.iaload, 1) := by decide +kernel
theorem dX8_digest_247 : decode cX8_digest 247 = .ok (.i2l, 1) := by decide +kernel
theorem dX8_digest_248 : decode cX8_digest 248 = .ok (.invokestatic 161, 3) := by decide +kernel
theorem dX8_digest_251 : decode cX8_digest 251 = .ok (.aload_n 0, 1) := by decide +kernel
theorem dX8_digest_252 : decode cX8_digest 252 = .ok (.getfield 49, 3) := by decide +kernel
theorem dX8_digest_255 : decode cX8_digest 255 = .ok (.i2l, 1) := by decide +kernel
theorem dX8_digest_256 : decode cX8_digest 256 = .ok (.invokestatic 161, 3) := by decide +kernel
theorem dX8_digest_259 : decode cX8_digest 259 = .ok (.lreturn, 1) := by decide +kernel
end
section
theorem dL_append_0 : decode cL_append 0 = .ok (.aload_n 3, 1) := by decide +kernel
theorem dL_append_1 : decode cL_append 1 = .ok (.iconst 0, 1) := by decide +kernel
theorem dL_append_2 : decode cL_append 2 = .ok (.aload_n 0, 1) := by decide +kernel
theorem dL_append_3 : decode cL_append 3 = .ok (.iload_n 1, 1) := by decide +kernel
theorem dL_append_4 : decode cL_append 4 = .ok (.iload_n 2, 1) := by decide +kernel
theorem dL_append_5 : decode cL_append 5 = .ok (.invokevirtual 7, 3) := by decide +kernel
theorem dL_append_8 : decode cL_append 8 = .ok (.i2l, 1) := by decide +kernel
theorem dL_append_9 : decode cL_append 9 = .ok (.lastore, 1) := by decide +kernel
theorem dL_append_10 : decode cL_append 10 = .ok (.goto 15, 3) := by decide +kernel
theorem dL_append_13 : decode cL_append 13 = .ok (.astore 4, 2) := by decide +kernel
theorem dL_append_15 : decode cL_append 15 = .ok (.iconst 1, 1) := by decide +kernel
theorem dL_append_16 : decode cL_append 16 = .ok (.ireturn, 1) := by decide +kernel
theorem dL_append_17 : decode cL_append 17 = .ok (.astore 4, 2) := by decide +kernel
theorem dL_append_19 : decode cL_append 19 = .ok (.iconst 2, 1) := by decide +kernel
theorem dL_append_20 : decode cL_append 20 = .ok (.ireturn, 1) := by decide +kernel
theorem dL_append_21 : decode cL_append 21 = .ok (.astore 4, 2) := by decide +kernel
theorem dL_append_23 : decode cL_append 23 = .ok (.iconst 3, 1) := by decide +kernel
theorem dL_append_24 : decode cL_append 24 = .ok (.ireturn, 1) := by decide +kernel
theorem dL_append_25 : decode cL_append 25 = .ok (.iconst 0, 1) := by decide +kernel
theorem dL_append_26 : decode cL_append 26 = .ok (.ireturn, 1) := by decide +kernel
theorem dL_appendRange_0 : decode cL_appendRange 0 = .ok (.aload 5, 2) := by decide +kernel
theorem dL_appendRange_2 : decode cL_appendRange 2 = .ok (.iconst 0, 1) := by decide +kernel
theorem dL_appendRange_3 : decode cL_appendRange 3 = .ok (.aload_n 0, 1) := by decide +kernel
theorem dL_appendRange_4 : decode cL_appendRange 4 = .ok (.iload_n 1, 1) := by decide +kernel
theorem dL_appendRange_5 : decode cL_appendRange 5 = .ok (.iload_n 2, 1) := by decide +kernel
theorem dL_appendRange_6 : decode cL_appendRange 6 = .ok (.iload_n 3, 1) := by decide +kernel
theorem dL_appendRange_7 : decode cL_appendRange 7 = .ok (.iload 4, 2) := by decide +kernel
theorem dL_appendRange_9 : decode cL_appendRange 9 = .ok (.invokevirtual 19, 3) := by decide +kernel
theorem dL_appendRange_12 : decode cL_appendRange 12 = .ok (.i2l, 1) := by decide +kernel
theorem dL_appendRange_13 : decode cL_appendRange 13 = .ok (.lastore, 1) := by decide +kernel
theorem dL_appendRange_14 : decode cL_appendRange 14 = .ok (.goto 15, 3) := by decide +kernel
theorem dL_appendRange_17 : decode cL_appendRange 17 = .ok (.astore 6, 2) := by decide +kernel
theorem dL_appendRange_19 : decode cL_appendRange 19 = .ok (.iconst 1, 1) := by decide +kernel
theorem dL_appendRange_20 : decode cL_appendRange 20 = .ok (.ireturn, 1) := by decide +kernel
theorem dL_appendRange_21 : decode cL_appendRange 21 = .ok (.astore 6, 2) := by decide +kernel
theorem dL_appendRange_23 : decode cL_appendRange 23 = .ok (.iconst 2, 1) := by decide +kernel
theorem dL_appendRange_24 : decode cL_appendRange 24 = .ok (.ireturn, 1) := by decide +kernel
theorem dL_appendRange_25 : decode cL_appendRange 25 = .ok (.astore 6, 2) := by decide +kernel
theorem dL_appendRange_27 : decode cL_appendRange 27 = .ok (.iconst 3, 1) := by decide +kernel
theorem dL_appendRange_28 : decode cL_appendRange 28 = .ok (.ireturn, 1) := by decide +kernel
theorem dL_appendRange_29 : decode cL_appendRange 29 = .ok (.iconst 0, 1) := by decide +kernel
theorem dL_appendRange_30 : decode cL_appendRange 30 = .ok (.ireturn, 1) := by decide +kernel
theorem dL_clear_0 : decode cL_clear 0 = .ok (.aload_n 2, 1) := by decide +kernel
theorem dL_clear_1 : decode cL_clear 1 = .ok (.iconst 0, 1) := by decide +kernel
theorem dL_clear_2 : decode cL_clear 2 = .ok (.aload_n 0, 1) := by decide +kernel
theorem dL_clear_3 : decode cL_clear 3 = .ok (.iload_n 1, 1) := by decide +kernel
theorem dL_clear_4 : decode cL_clear 4 = .ok (.invokevirtual 23, 3) := by decide +kernel
theorem dL_clear_7 : decode cL_clear 7 = .ok (.i2l, 1) := by decide +kernel
theorem dL_clear_8 : decode cL_clear 8 = .ok (.lastore, 1) := by decide +kernel
theorem dL_clear_9 : decode cL_clear 9 = .ok (.goto 6, 3) := by decide +kernel
theorem dL_clear_12 : decode cL_clear 12 = .ok (.astore_n 3, 1) := by decide +kernel
theorem dL_clear_13 : decode cL_clear 13 = .ok (.iconst 1, 1) := by decide +kernel
theorem dL_clear_14 : decode cL_clear 14 = .ok (.ireturn, 1) := by decide +kernel
theorem dL_clear_15 : decode cL_clear 15 = .ok (.iconst 0, 1) := by decide +kernel
theorem dL_clear_16 : decode cL_clear 16 = .ok (.ireturn, 1) := by decide +kernel
theorem dL_size_0 : decode cL_size 0 = .ok (.aload_n 2, 1) := by decide +kernel
theorem dL_size_1 : decode cL_size 1 = .ok (.iconst 0, 1) := by decide +kernel
theorem dL_size_2 : decode cL_size 2 = .ok (.aload_n 0, 1) := by decide +kernel
theorem dL_size_3 : decode cL_size 3 = .ok (.iload_n 1, 1) := by decide +kernel
theorem dL_size_4 : decode cL_size 4 = .ok (.invokevirtual 27, 3) := by decide +kernel
theorem dL_size_7 : decode cL_size 7 = .ok (.i2l, 1) := by decide +kernel
theorem dL_size_8 : decode cL_size 8 = .ok (.lastore, 1) := by decide +kernel
theorem dL_size_9 : decode cL_size 9 = .ok (.goto 6, 3) := by decide +kernel
theorem dL_size_12 : decode cL_size 12 = .ok (.astore_n 3, 1) := by decide +kernel
theorem dL_size_13 : decode cL_size 13 = .ok (.iconst 1, 1) := by decide +kernel
theorem dL_size_14 : decode cL_size 14 = .ok (.ireturn, 1) := by decide +kernel
theorem dL_size_15 : decode cL_size 15 = .ok (.iconst 0, 1) := by decide +kernel
theorem dL_size_16 : decode cL_size 16 = .ok (.ireturn, 1) := by decide +kernel
theorem dL_document_0 : decode cL_document 0 = .ok (.aload_n 3, 1) := by decide +kernel
theorem dL_document_1 : decode cL_document 1 = .ok (.iconst 0, 1) := by decide +kernel
theorem dL_document_2 : decode cL_document 2 = .ok (.aload_n 0, 1) := by decide +kernel
theorem dL_document_3 : decode cL_document 3 = .ok (.iload_n 1, 1) := by decide +kernel
theorem dL_document_4 : decode cL_document 4 = .ok (.iload_n 2, 1) := by decide +kernel
theorem dL_document_5 : decode cL_document 5 = .ok (.invokevirtual 30, 3) := by decide +kernel
theorem dL_document_8 : decode cL_document 8 = .ok (.i2l, 1) := by decide +kernel
theorem dL_document_9 : decode cL_document 9 = .ok (.lastore, 1) := by decide +kernel
theorem dL_document_10 : decode cL_document 10 = .ok (.goto 7, 3) := by decide +kernel
theorem dL_document_13 : decode cL_document 13 = .ok (.astore 4, 2) := by decide +kernel
theorem dL_document_15 : decode cL_document 15 = .ok (.iconst 1, 1) := by decide +kernel
theorem dL_document_16 : decode cL_document 16 = .ok (.ireturn, 1) := by decide +kernel
theorem dL_document_17 : decode cL_document 17 = .ok (.iconst 0, 1) := by decide +kernel
theorem dL_document_18 : decode cL_document 18 = .ok (.ireturn, 1) := by decide +kernel
theorem dL_rank_0 : decode cL_rank 0 = .ok (.aload_n 3, 1) := by decide +kernel
theorem dL_rank_1 : decode cL_rank 1 = .ok (.iconst 0, 1) := by decide +kernel
theorem dL_rank_2 : decode cL_rank 2 = .ok (.aload_n 0, 1) := by decide +kernel
theorem dL_rank_3 : decode cL_rank 3 = .ok (.iload_n 1, 1) := by decide +kernel
theorem dL_rank_4 : decode cL_rank 4 = .ok (.iload_n 2, 1) := by decide +kernel
theorem dL_rank_5 : decode cL_rank 5 = .ok (.invokevirtual 33, 3) := by decide +kernel
theorem dL_rank_8 : decode cL_rank 8 = .ok (.i2l, 1) := by decide +kernel
theorem dL_rank_9 : decode cL_rank 9 = .ok (.lastore, 1) := by decide +kernel
theorem dL_rank_10 : decode cL_rank 10 = .ok (.goto 11, 3) := by decide +kernel
theorem dL_rank_13 : decode cL_rank 13 = .ok (.astore 4, 2) := by decide +kernel
theorem dL_rank_15 : decode cL_rank 15 = .ok (.iconst 1, 1) := by decide +kernel
theorem dL_rank_16 : decode cL_rank 16 = .ok (.ireturn, 1) := by decide +kernel
theorem dL_rank_17 : decode cL_rank 17 = .ok (.astore 4, 2) := by decide +kernel
theorem dL_rank_19 : decode cL_rank 19 = .ok (.iconst 2, 1) := by decide +kernel
theorem dL_rank_20 : decode cL_rank 20 = .ok (.ireturn, 1) := by decide +kernel
theorem dL_rank_21 : decode cL_rank 21 = .ok (.iconst 0, 1) := by decide +kernel
theorem dL_rank_22 : decode cL_rank 22 = .ok (.ireturn, 1) := by decide +kernel
theorem dL_partitions_0 : decode cL_partitions 0 = .ok (.aload_n 2, 1) := by decide +kernel
theorem dL_partitions_1 : decode cL_partitions 1 = .ok (.iconst 0, 1) := by decide +kernel
theorem dL_partitions_2 : decode cL_partitions 2 = .ok (.aload_n 0, 1) := by decide +kernel
theorem dL_partitions_3 : decode cL_partitions 3 = .ok (.iload_n 1, 1) := by decide +kernel
theorem dL_partitions_4 : decode cL_partitions 4 = .ok (.invokevirtual 36, 3) := by decide +kernel
theorem dL_partitions_7 : decode cL_partitions 7 = .ok (.i2l, 1) := by decide +kernel
theorem dL_partitions_8 : decode cL_partitions 8 = .ok (.lastore, 1) := by decide +kernel
theorem dL_partitions_9 : decode cL_partitions 9 = .ok (.goto 6, 3) := by decide +kernel
theorem dL_partitions_12 : decode cL_partitions 12 = .ok (.astore_n 3, 1) := by decide +kernel
theorem dL_partitions_13 : decode cL_partitions 13 = .ok (.iconst 1, 1) := by decide +kernel
theorem dL_partitions_14 : decode cL_partitions 14 = .ok (.ireturn, 1) := by decide +kernel
theorem dL_partitions_15 : decode cL_partitions 15 = .ok (.iconst 0, 1) := by decide +kernel
theorem dL_partitions_16 : decode cL_partitions 16 = .ok (.ireturn, 1) := by decide +kernel
theorem dL_partition_0 : decode cL_partition 0 = .ok (.aload 4, 2) := by decide +kernel
theorem dL_partition_2 : decode cL_partition 2 = .ok (.iconst 0, 1) := by decide +kernel
theorem dL_partition_3 : decode cL_partition 3 = .ok (.aload_n 0, 1) := by decide +kernel
theorem dL_partition_4 : decode cL_partition 4 = .ok (.iload_n 1, 1) := by decide +kernel
theorem dL_partition_5 : decode cL_partition 5 = .ok (.iload_n 2, 1) := by decide +kernel
theorem dL_partition_6 : decode cL_partition 6 = .ok (.iload_n 3, 1) := by decide +kernel
theorem dL_partition_7 : decode cL_partition 7 = .ok (.invokevirtual 39, 3) := by decide +kernel
theorem dL_partition_10 : decode cL_partition 10 = .ok (.i2l, 1) := by decide +kernel
theorem dL_partition_11 : decode cL_partition 11 = .ok (.lastore, 1) := by decide +kernel
theorem dL_partition_12 : decode cL_partition 12 = .ok (.goto 11, 3) := by decide +kernel
theorem dL_partition_15 : decode cL_partition 15 = .ok (.astore 5, 2) := by decide +kernel
theorem dL_partition_17 : decode cL_partition 17 = .ok (.iconst 1, 1) := by decide +kernel
theorem dL_partition_18 : decode cL_partition 18 = .ok (.ireturn, 1) := by decide +kernel
theorem dL_partition_19 : decode cL_partition 19 = .ok (.astore 5, 2) := by decide +kernel
theorem dL_partition_21 : decode cL_partition 21 = .ok (.iconst 2, 1) := by decide +kernel
theorem dL_partition_22 : decode cL_partition 22 = .ok (.ireturn, 1) := by decide +kernel
theorem dL_partition_23 : decode cL_partition 23 = .ok (.iconst 0, 1) := by decide +kernel
theorem dL_partition_24 : decode cL_partition 24 = .ok (.ireturn, 1) := by decide +kernel
theorem dL_codeLength_0 : decode cL_codeLength 0 = .ok (.aload_n 2, 1) := by decide +kernel
theorem dL_codeLength_1 : decode cL_codeLength 1 = .ok (.iconst 0, 1) := by decide +kernel
theorem dL_codeLength_2 : decode cL_codeLength 2 = .ok (.aload_n 0, 1) := by decide +kernel
theorem dL_codeLength_3 : decode cL_codeLength 3 = .ok (.iload_n 1, 1) := by decide +kernel
theorem dL_codeLength_4 : decode cL_codeLength 4 = .ok (.invokevirtual 43, 3) := by decide +kernel
theorem dL_codeLength_7 : decode cL_codeLength 7 = .ok (.i2l, 1) := by decide +kernel
theorem dL_codeLength_8 : decode cL_codeLength 8 = .ok (.lastore, 1) := by decide +kernel
theorem dL_codeLength_9 : decode cL_codeLength 9 = .ok (.goto 6, 3) := by decide +kernel
theorem dL_codeLength_12 : decode cL_codeLength 12 = .ok (.astore_n 3, 1) := by decide +kernel
theorem dL_codeLength_13 : decode cL_codeLength 13 = .ok (.iconst 1, 1) := by decide +kernel
theorem dL_codeLength_14 : decode cL_codeLength 14 = .ok (.ireturn, 1) := by decide +kernel
theorem dL_codeLength_15 : decode cL_codeLength 15 = .ok (.iconst 0, 1) := by decide +kernel
theorem dL_codeLength_16 : decode cL_codeLength 16 = .ok (.ireturn, 1) := by decide +kernel
theorem dL_codeBit_0 : decode cL_codeBit 0 = .ok (.aload_n 3, 1) := by decide +kernel
theorem dL_codeBit_1 : decode cL_codeBit 1 = .ok (.iconst 0, 1) := by decide +kernel
theorem dL_codeBit_2 : decode cL_codeBit 2 = .ok (.aload_n 0, 1) := by decide +kernel
theorem dL_codeBit_3 : decode cL_codeBit 3 = .ok (.iload_n 1, 1) := by decide +kernel
theorem dL_codeBit_4 : decode cL_codeBit 4 = .ok (.iload_n 2, 1) := by decide +kernel
theorem dL_codeBit_5 : decode cL_codeBit 5 = .ok (.invokevirtual 46, 3) := by decide +kernel
theorem dL_codeBit_8 : decode cL_codeBit 8 = .ok (.i2l, 1) := by decide +kernel
theorem dL_codeBit_9 : decode cL_codeBit 9 = .ok (.lastore, 1) := by decide +kernel
theorem dL_codeBit_10 : decode cL_codeBit 10 = .ok (.goto 7, 3) := by decide +kernel
theorem dL_codeBit_13 : decode cL_codeBit 13 = .ok (.astore 4, 2) := by decide +kernel
theorem dL_codeBit_15 : decode cL_codeBit 15 = .ok (.iconst 1, 1) := by decide +kernel
theorem dL_codeBit_16 : decode cL_codeBit 16 = .ok (.ireturn, 1) := by decide +kernel
theorem dL_codeBit_17 : decode cL_codeBit 17 = .ok (.iconst 0, 1) := by decide +kernel
theorem dL_codeBit_18 : decode cL_codeBit 18 = .ok (.ireturn, 1) := by decide +kernel
theorem dL_fixedLength_0 : decode cL_fixedLength 0 = .ok (.aload_n 3, 1) := by decide +kernel
theorem dL_fixedLength_1 : decode cL_fixedLength 1 = .ok (.iconst 0, 1) := by decide +kernel
theorem dL_fixedLength_2 : decode cL_fixedLength 2 = .ok (.aload_n 0, 1) := by decide +kernel
theorem dL_fixedLength_3 : decode cL_fixedLength 3 = .ok (.iload_n 1, 1) := by decide +kernel
theorem dL_fixedLength_4 : decode cL_fixedLength 4 = .ok (.iload_n 2, 1) := by decide +kernel
theorem dL_fixedLength_5 : decode cL_fixedLength 5 = .ok (.invokevirtual 49, 3) := by decide +kernel
theorem dL_fixedLength_8 : decode cL_fixedLength 8 = .ok (.i2l, 1) := by decide +kernel
theorem dL_fixedLength_9 : decode cL_fixedLength 9 = .ok (.lastore, 1) := by decide +kernel
theorem dL_fixedLength_10 : decode cL_fixedLength 10 = .ok (.goto 11, 3) := by decide +kernel
theorem dL_fixedLength_13 : decode cL_fixedLength 13 = .ok (.astore 4, 2) := by decide +kernel
theorem dL_fixedLength_15 : decode cL_fixedLength 15 = .ok (.iconst 1, 1) := by decide +kernel
theorem dL_fixedLength_16 : decode cL_fixedLength 16 = .ok (.ireturn, 1) := by decide +kernel
theorem dL_fixedLength_17 : decode cL_fixedLength 17 = .ok (.astore 4, 2) := by decide +kernel
theorem dL_fixedLength_19 : decode cL_fixedLength 19 = .ok (.iconst 2, 1) := by decide +kernel
theorem dL_fixedLength_20 : decode cL_fixedLength 20 = .ok (.ireturn, 1) := by decide +kernel
theorem dL_fixedLength_21 : decode cL_fixedLength 21 = .ok (.iconst 0, 1) := by decide +kernel
theorem dL_fixedLength_22 : decode cL_fixedLength 22 = .ok (.ireturn, 1) := by decide +kernel
theorem dL_bitsPerDocument_0 : decode cL_bitsPerDocument 0 = .ok (.aload_n 2, 1) := by decide +kernel
theorem dL_bitsPerDocument_1 : decode cL_bitsPerDocument 1 = .ok (.iconst 0, 1) := by decide +kernel
theorem dL_bitsPerDocument_2 : decode cL_bitsPerDocument 2 = .ok (.aload_n 0, 1) := by decide +kernel
theorem dL_bitsPerDocument_3 : decode cL_bitsPerDocument 3 = .ok (.iload_n 1, 1) := by decide +kernel
theorem dL_bitsPerDocument_4 : decode cL_bitsPerDocument 4 = .ok (.invokevirtual 52, 3) := by decide +kernel
theorem dL_bitsPerDocument_7 : decode cL_bitsPerDocument 7 = .ok (.dastore, 1) := by decide +kernel
theorem dL_bitsPerDocument_8 : decode cL_bitsPerDocument 8 = .ok (.goto 6, 3) := by decide +kernel
theorem dL_bitsPerDocument_11 : decode cL_bitsPerDocument 11 = .ok (.astore_n 3, 1) := by decide +kernel
theorem dL_bitsPerDocument_12 : decode cL_bitsPerDocument 12 = .ok (.iconst 1, 1) := by decide +kernel
theorem dL_bitsPerDocument_13 : decode cL_bitsPerDocument 13 = .ok (.ireturn, 1) := by decide +kernel
theorem dL_bitsPerDocument_14 : decode cL_bitsPerDocument 14 = .ok (.iconst 0, 1) := by decide +kernel
theorem dL_bitsPerDocument_15 : decode cL_bitsPerDocument 15 = .ok (.ireturn, 1) := by decide +kernel
theorem dL_nextAtLeast_0 : decode cL_nextAtLeast 0 = .ok (.aload_n 3, 1) := by decide +kernel
theorem dL_nextAtLeast_1 : decode cL_nextAtLeast 1 = .ok (.iconst 0, 1) := by decide +kernel
theorem dL_nextAtLeast_2 : decode cL_nextAtLeast 2 = .ok (.aload_n 0, 1) := by decide +kernel
theorem dL_nextAtLeast_3 : decode cL_nextAtLeast 3 = .ok (.iload_n 1, 1) := by decide +kernel
theorem dL_nextAtLeast_4 : decode cL_nextAtLeast 4 = .ok (.iload_n 2, 1) := by decide +kernel
theorem dL_nextAtLeast_5 : decode cL_nextAtLeast 5 = .ok (.invokevirtual 56, 3) := by decide +kernel
theorem dL_nextAtLeast_8 : decode cL_nextAtLeast 8 = .ok (.i2l, 1) := by decide +kernel
theorem dL_nextAtLeast_9 : decode cL_nextAtLeast 9 = .ok (.lastore, 1) := by decide +kernel
theorem dL_nextAtLeast_10 : decode cL_nextAtLeast 10 = .ok (.goto 11, 3) := by decide +kernel
theorem dL_nextAtLeast_13 : decode cL_nextAtLeast 13 = .ok (.astore 4, 2) := by decide +kernel
theorem dL_nextAtLeast_15 : decode cL_nextAtLeast 15 = .ok (.iconst 1, 1) := by decide +kernel
theorem dL_nextAtLeast_16 : decode cL_nextAtLeast 16 = .ok (.ireturn, 1) := by decide +kernel
theorem dL_nextAtLeast_17 : decode cL_nextAtLeast 17 = .ok (.astore 4, 2) := by decide +kernel
theorem dL_nextAtLeast_19 : decode cL_nextAtLeast 19 = .ok (.iconst 2, 1) := by decide +kernel
theorem dL_nextAtLeast_20 : decode cL_nextAtLeast 20 = .ok (.ireturn, 1) := by decide +kernel
theorem dL_nextAtLeast_21 : decode cL_nextAtLeast 21 = .ok (.iconst 0, 1) := by decide +kernel
theorem dL_nextAtLeast_22 : decode cL_nextAtLeast 22 = .ok (.ireturn, 1) := by decide +kernel
theorem dL_countIntersection_0 : decode cL_countIntersection 0 = .ok (.aload_n 2, 1) := by decide +kernel
theorem dL_countIntersection_1 : decode cL_countIntersection 1 = .ok (.iconst 0, 1) := by decide +kernel
theorem dL_countIntersection_2 : decode cL_countIntersection 2 = .ok (.aload_n 0, 1) := by decide +kernel
theorem dL_countIntersection_3 : decode cL_countIntersection 3 = .ok (.iload_n 1, 1) := by decide +kernel
theorem dL_countIntersection_4 : decode cL_countIntersection 4 = .ok (.invokevirtual 59, 3) := by decide +kernel
theorem dL_countIntersection_7 : decode cL_countIntersection 7 = .ok (.i2l, 1) := by decide +kernel
theorem dL_countIntersection_8 : decode cL_countIntersection 8 = .ok (.lastore, 1) := by decide +kernel
theorem dL_countIntersection_9 : decode cL_countIntersection 9 = .ok (.goto 6, 3) := by decide +kernel
theorem dL_countIntersection_12 : decode cL_countIntersection 12 = .ok (.astore_n 3, 1) := by decide +kernel
theorem dL_countIntersection_13 : decode cL_countIntersection 13 = .ok (.iconst 1, 1) := by decide +kernel
theorem dL_countIntersection_14 : decode cL_countIntersection 14 = .ok (.ireturn, 1) := by decide +kernel
theorem dL_countIntersection_15 : decode cL_countIntersection 15 = .ok (.iconst 0, 1) := by decide +kernel
theorem dL_countIntersection_16 : decode cL_countIntersection 16 = .ok (.ireturn, 1) := by decide +kernel
theorem dL_intersect_0 : decode cL_intersect 0 = .ok (.aload_n 3, 1) := by decide +kernel
theorem dL_intersect_1 : decode cL_intersect 1 = .ok (.iconst 0, 1) := by decide +kernel
theorem dL_intersect_2 : decode cL_intersect 2 = .ok (.aload_n 0, 1) := by decide +kernel
theorem dL_intersect_3 : decode cL_intersect 3 = .ok (.iload_n 1, 1) := by decide +kernel
theorem dL_intersect_4 : decode cL_intersect 4 = .ok (.iload_n 2, 1) := by decide +kernel
theorem dL_intersect_5 : decode cL_intersect 5 = .ok (.invokevirtual 62, 3) := by decide +kernel
theorem dL_intersect_8 : decode cL_intersect 8 = .ok (.i2l, 1) := by decide +kernel
theorem dL_intersect_9 : decode cL_intersect 9 = .ok (.lastore, 1) := by decide +kernel
theorem dL_intersect_10 : decode cL_intersect 10 = .ok (.goto 11, 3) := by decide +kernel
theorem dL_intersect_13 : decode cL_intersect 13 = .ok (.astore 4, 2) := by decide +kernel
theorem dL_intersect_15 : decode cL_intersect 15 = .ok (.iconst 1, 1) := by decide +kernel
theorem dL_intersect_16 : decode cL_intersect 16 = .ok (.ireturn, 1) := by decide +kernel
theorem dL_intersect_17 : decode cL_intersect 17 = .ok (.astore 4, 2) := by decide +kernel
theorem dL_intersect_19 : decode cL_intersect 19 = .ok (.iconst 2, 1) := by decide +kernel
theorem dL_intersect_20 : decode cL_intersect 20 = .ok (.ireturn, 1) := by decide +kernel
theorem dL_intersect_21 : decode cL_intersect 21 = .ok (.iconst 0, 1) := by decide +kernel
theorem dL_intersect_22 : decode cL_intersect 22 = .ok (.ireturn, 1) := by decide +kernel
theorem dL_unite_0 : decode cL_unite 0 = .ok (.aload 4, 2) := by decide +kernel
theorem dL_unite_2 : decode cL_unite 2 = .ok (.iconst 0, 1) := by decide +kernel
theorem dL_unite_3 : decode cL_unite 3 = .ok (.aload_n 0, 1) := by decide +kernel
theorem dL_unite_4 : decode cL_unite 4 = .ok (.iload_n 1, 1) := by decide +kernel
theorem dL_unite_5 : decode cL_unite 5 = .ok (.iload_n 2, 1) := by decide +kernel
theorem dL_unite_6 : decode cL_unite 6 = .ok (.iload_n 3, 1) := by decide +kernel
theorem dL_unite_7 : decode cL_unite 7 = .ok (.invokevirtual 65, 3) := by decide +kernel
theorem dL_unite_10 : decode cL_unite 10 = .ok (.i2l, 1) := by decide +kernel
theorem dL_unite_11 : decode cL_unite 11 = .ok (.lastore, 1) := by decide +kernel
theorem dL_unite_12 : decode cL_unite 12 = .ok (.goto 11, 3) := by decide +kernel
theorem dL_unite_15 : decode cL_unite 15 = .ok (.astore 5, 2) := by decide +kernel
theorem dL_unite_17 : decode cL_unite 17 = .ok (.iconst 1, 1) := by decide +kernel
theorem dL_unite_18 : decode cL_unite 18 = .ok (.ireturn, 1) := by decide +kernel
theorem dL_unite_19 : decode cL_unite 19 = .ok (.astore 5, 2) := by decide +kernel
theorem dL_unite_21 : decode cL_unite 21 = .ok (.iconst 2, 1) := by decide +kernel
theorem dL_unite_22 : decode cL_unite 22 = .ok (.ireturn, 1) := by decide +kernel
theorem dL_unite_23 : decode cL_unite 23 = .ok (.iconst 0, 1) := by decide +kernel
theorem dL_unite_24 : decode cL_unite 24 = .ok (.ireturn, 1) := by decide +kernel
theorem dL_subtract_0 : decode cL_subtract 0 = .ok (.aload 4, 2) := by decide +kernel
theorem dL_subtract_2 : decode cL_subtract 2 = .ok (.iconst 0, 1) := by decide +kernel
theorem dL_subtract_3 : decode cL_subtract 3 = .ok (.aload_n 0, 1) := by decide +kernel
theorem dL_subtract_4 : decode cL_subtract 4 = .ok (.iload_n 1, 1) := by decide +kernel
theorem dL_subtract_5 : decode cL_subtract 5 = .ok (.iload_n 2, 1) := by decide +kernel
theorem dL_subtract_6 : decode cL_subtract 6 = .ok (.iload_n 3, 1) := by decide +kernel
theorem dL_subtract_7 : decode cL_subtract 7 = .ok (.invokevirtual 68, 3) := by decide +kernel
theorem dL_subtract_10 : decode cL_subtract 10 = .ok (.i2l, 1) := by decide +kernel
theorem dL_subtract_11 : decode cL_subtract 11 = .ok (.lastore, 1) := by decide +kernel
theorem dL_subtract_12 : decode cL_subtract 12 = .ok (.goto 7, 3) := by decide +kernel
theorem dL_subtract_15 : decode cL_subtract 15 = .ok (.astore 5, 2) := by decide +kernel
theorem dL_subtract_17 : decode cL_subtract 17 = .ok (.iconst 1, 1) := by decide +kernel
theorem dL_subtract_18 : decode cL_subtract 18 = .ok (.ireturn, 1) := by decide +kernel
theorem dL_subtract_19 : decode cL_subtract 19 = .ok (.iconst 0, 1) := by decide +kernel
theorem dL_subtract_20 : decode cL_subtract 20 = .ok (.ireturn, 1) := by decide +kernel
theorem dL_setCapacity_0 : decode cL_setCapacity 0 = .ok (.aload_n 2, 1) := by decide +kernel
theorem dL_setCapacity_1 : decode cL_setCapacity 1 = .ok (.iconst 0, 1) := by decide +kernel
theorem dL_setCapacity_2 : decode cL_setCapacity 2 = .ok (.aload_n 0, 1) := by decide +kernel
theorem dL_setCapacity_3 : decode cL_setCapacity 3 = .ok (.iload_n 1, 1) := by decide +kernel
theorem dL_setCapacity_4 : decode cL_setCapacity 4 = .ok (.invokevirtual 71, 3) := by decide +kernel
theorem dL_setCapacity_7 : decode cL_setCapacity 7 = .ok (.i2l, 1) := by decide +kernel
theorem dL_setCapacity_8 : decode cL_setCapacity 8 = .ok (.lastore, 1) := by decide +kernel
theorem dL_setCapacity_9 : decode cL_setCapacity 9 = .ok (.goto 6, 3) := by decide +kernel
theorem dL_setCapacity_12 : decode cL_setCapacity 12 = .ok (.astore_n 3, 1) := by decide +kernel
theorem dL_setCapacity_13 : decode cL_setCapacity 13 = .ok (.iconst 1, 1) := by decide +kernel
theorem dL_setCapacity_14 : decode cL_setCapacity 14 = .ok (.ireturn, 1) := by decide +kernel
theorem dL_setCapacity_15 : decode cL_setCapacity 15 = .ok (.iconst 0, 1) := by decide +kernel
theorem dL_setCapacity_16 : decode cL_setCapacity 16 = .ok (.ireturn, 1) := by decide +kernel
theorem dL_cachedAt_0 : decode cL_cachedAt 0 = .ok (.aload_n 2, 1) := by decide +kernel
theorem dL_cachedAt_1 : decode cL_cachedAt 1 = .ok (.iconst 0, 1) := by decide +kernel
theorem dL_cachedAt_2 : decode cL_cachedAt 2 = .ok (.aload_n 0, 1) := by decide +kernel
theorem dL_cachedAt_3 : decode cL_cachedAt 3 = .ok (.iload_n 1, 1) := by decide +kernel
theorem dL_cachedAt_4 : decode cL_cachedAt 4 = .ok (.invokevirtual 74, 3) := by decide +kernel
theorem dL_cachedAt_7 : decode cL_cachedAt 7 = .ok (.i2l, 1) := by decide +kernel
theorem dL_cachedAt_8 : decode cL_cachedAt 8 = .ok (.lastore, 1) := by decide +kernel
theorem dL_cachedAt_9 : decode cL_cachedAt 9 = .ok (.goto 6, 3) := by decide +kernel
theorem dL_cachedAt_12 : decode cL_cachedAt 12 = .ok (.astore_n 3, 1) := by decide +kernel
theorem dL_cachedAt_13 : decode cL_cachedAt 13 = .ok (.iconst 1, 1) := by decide +kernel
theorem dL_cachedAt_14 : decode cL_cachedAt 14 = .ok (.ireturn, 1) := by decide +kernel
theorem dL_cachedAt_15 : decode cL_cachedAt 15 = .ok (.iconst 0, 1) := by decide +kernel
theorem dL_cachedAt_16 : decode cL_cachedAt 16 = .ok (.ireturn, 1) := by decide +kernel
theorem dL_undo_0 : decode cL_undo 0 = .ok (.aload_n 1, 1) := by decide +kernel
theorem dL_undo_1 : decode cL_undo 1 = .ok (.iconst 0, 1) := by decide +kernel
theorem dL_undo_2 : decode cL_undo 2 = .ok (.aload_n 0, 1) := by decide +kernel
theorem dL_undo_3 : decode cL_undo 3 = .ok (.invokevirtual 77, 3) := by decide +kernel
theorem dL_undo_6 : decode cL_undo 6 = .ok (.i2l, 1) := by decide +kernel
theorem dL_undo_7 : decode cL_undo 7 = .ok (.lastore, 1) := by decide +kernel
theorem dL_undo_8 : decode cL_undo 8 = .ok (.goto 6, 3) := by decide +kernel
theorem dL_undo_11 : decode cL_undo 11 = .ok (.astore_n 2, 1) := by decide +kernel
theorem dL_undo_12 : decode cL_undo 12 = .ok (.iconst 1, 1) := by decide +kernel
theorem dL_undo_13 : decode cL_undo 13 = .ok (.ireturn, 1) := by decide +kernel
theorem dL_undo_14 : decode cL_undo 14 = .ok (.iconst 0, 1) := by decide +kernel
theorem dL_undo_15 : decode cL_undo 15 = .ok (.ireturn, 1) := by decide +kernel
theorem dL_law_0 : decode cL_law 0 = .ok (.new 8, 3) := by decide +kernel
theorem dL_law_3 : decode cL_law 3 = .ok (.dup, 1) := by decide +kernel
theorem dL_law_4 : decode cL_law 4 = .ok (.invokespecial 81, 3) := by decide +kernel
theorem dL_law_7 : decode cL_law 7 = .ok (.astore_n 1, 1) := by decide +kernel
theorem dL_law_8 : decode cL_law 8 = .ok (.new 82, 3) := by decide +kernel
theorem dL_law_11 : decode cL_law 11 = .ok (.dup, 1) := by decide +kernel
theorem dL_law_12 : decode cL_law 12 = .ok (.invokespecial 84, 3) := by decide +kernel
theorem dL_law_15 : decode cL_law 15 = .ok (.astore_n 2, 1) := by decide +kernel
theorem dL_law_16 : decode cL_law 16 = .ok (.iconst 1, 1) := by decide +kernel
theorem dL_law_17 : decode cL_law 17 = .ok (.newarray .long, 2) := by decide +kernel
theorem dL_law_19 : decode cL_law 19 = .ok (.astore_n 3, 1) := by decide +kernel
theorem dL_law_20 : decode cL_law 20 = .ok (.iconst 1, 1) := by decide +kernel
theorem dL_law_21 : decode cL_law 21 = .ok (.newarray .double, 2) := by decide +kernel
theorem dL_law_23 : decode cL_law 23 = .ok (.astore 4, 2) := by decide +kernel
theorem dL_law_25 : decode cL_law 25 = .ok (.iconst 0, 1) := by decide +kernel
theorem dL_law_26 : decode cL_law 26 = .ok (.istore 5, 2) := by decide +kernel
theorem dL_law_28 : decode cL_law 28 = .ok (.iload 5, 2) := by decide +kernel
theorem dL_law_30 : decode cL_law 30 = .ok (.aload_n 0, 1) := by decide +kernel
theorem dL_law_31 : decode cL_law 31 = .ok (.arraylength, 1) := by decide +kernel
theorem dL_law_32 : decode cL_law 32 = .ok (.iconst 5, 1) := by decide +kernel
theorem dL_law_33 : decode cL_law 33 = .ok (.isub, 1) := by decide +kernel
theorem dL_law_34 : decode cL_law 34 = .ok (.if_icmp .gt 1502, 3) := by decide +kernel
theorem dL_law_37 : decode cL_law 37 = .ok (.aload_n 0, 1) := by decide +kernel
theorem dL_law_38 : decode cL_law 38 = .ok (.iload 5, 2) := by decide +kernel
theorem dL_law_40 : decode cL_law 40 = .ok (.iaload, 1) := by decide +kernel
theorem dL_law_41 : decode cL_law 41 = .ok (.bipush 31, 2) := by decide +kernel
theorem dL_law_43 : decode cL_law 43 = .ok (.iand, 1) := by decide +kernel
theorem dL_law_44 : decode cL_law 44 = .ok (.tableswitch 1486 0 23 #[112, 180, 272, 328, 384, 452, 520, 576, 656, 712, 780, 848, 925, 993, 1049, 1117, 1197, 1277, 1290, 1303, 1359, 1372, 1428, 1472], 112) := by decide +kernel
theorem dL_law_156 : decode cL_law 156 = .ok (.aload_n 1, 1) := by decide +kernel
theorem dL_law_157 : decode cL_law 157 = .ok (.aload_n 0, 1) := by decide +kernel
theorem dL_law_158 : decode cL_law 158 = .ok (.iload 5, 2) := by decide +kernel
theorem dL_law_160 : decode cL_law 160 = .ok (.iconst 1, 1) := by decide +kernel
theorem dL_law_161 : decode cL_law 161 = .ok (.iadd, 1) := by decide +kernel
theorem dL_law_162 : decode cL_law 162 = .ok (.iaload, 1) := by decide +kernel
theorem dL_law_163 : decode cL_law 163 = .ok (.aload_n 0, 1) := by decide +kernel
theorem dL_law_164 : decode cL_law 164 = .ok (.iload 5, 2) := by decide +kernel
theorem dL_law_166 : decode cL_law 166 = .ok (.iconst 2, 1) := by decide +kernel
theorem dL_law_167 : decode cL_law 167 = .ok (.iadd, 1) := by decide +kernel
theorem dL_law_168 : decode cL_law 168 = .ok (.iaload, 1) := by decide +kernel
theorem dL_law_169 : decode cL_law 169 = .ok (.aload_n 3, 1) := by decide +kernel
theorem dL_law_170 : decode cL_law 170 = .ok (.invokestatic 85, 3) := by decide +kernel
theorem dL_law_173 : decode cL_law 173 = .ok (.istore 6, 2) := by decide +kernel
theorem dL_law_175 : decode cL_law 175 = .ok (.aload_n 2, 1) := by decide +kernel
theorem dL_law_176 : decode cL_law 176 = .ok (.aload_n 0, 1) := by decide +kernel
theorem dL_law_177 : decode cL_law 177 = .ok (.iload 5, 2) := by decide +kernel
theorem dL_law_179 : decode cL_law 179 = .ok (.iconst 1, 1) := by decide +kernel
theorem dL_law_180 : decode cL_law 180 = .ok (.iadd, 1) := by decide +kernel
theorem dL_law_181 : decode cL_law 181 = .ok (.iaload, 1) := by decide +kernel
theorem dL_law_182 : decode cL_law 182 = .ok (.aload_n 0, 1) := by decide +kernel
theorem dL_law_183 : decode cL_law 183 = .ok (.iload 5, 2) := by decide +kernel
theorem dL_law_185 : decode cL_law 185 = .ok (.iconst 2, 1) := by decide +kernel
theorem dL_law_186 : decode cL_law 186 = .ok (.iadd, 1) := by decide +kernel
theorem dL_law_187 : decode cL_law 187 = .ok (.iaload, 1) := by decide +kernel
theorem dL_law_188 : decode cL_law 188 = .ok (.invokevirtual 90, 3) := by decide +kernel
theorem dL_law_191 : decode cL_law 191 = .ok (.istore 7, 2) := by decide +kernel
theorem dL_law_193 : decode cL_law 193 = .ok (.aload_n 2, 1) := by decide +kernel
theorem dL_law_194 : decode cL_law 194 = .ok (.invokevirtual 91, 3) := by decide +kernel
theorem dL_law_197 : decode cL_law 197 = .ok (.iload 6, 2) := by decide +kernel
theorem dL_law_199 : decode cL_law 199 = .ok (.if_icmp .eq 5, 3) := by decide +kernel
theorem dL_law_202 : decode cL_law 202 = .ok (.iconst 0, 1) := by decide +kernel
theorem dL_law_203 : decode cL_law 203 = .ok (.ireturn, 1) := by decide +kernel
theorem dL_law_204 : decode cL_law 204 = .ok (.iload 6, 2) := by decide +kernel
theorem dL_law_206 : decode cL_law 206 = .ok (.ifCond .ne 15, 3) := by decide +kernel
theorem dL_law_209 : decode cL_law 209 = .ok (.aload_n 3, 1) := by decide +kernel
theorem dL_law_210 : decode cL_law 210 = .ok (.iconst 0, 1) := by decide +kernel
theorem dL_law_211 : decode cL_law 211 = .ok (.laload, 1) := by decide +kernel
theorem dL_law_212 : decode cL_law 212 = .ok (.iload 7, 2) := by decide +kernel
theorem dL_law_214 : decode cL_law 214 = .ok (.i2l, 1) := by decide +kernel
theorem dL_law_215 : decode cL_law 215 = .ok (.lcmp, 1) := by decide +kernel
theorem dL_law_216 : decode cL_law 216 = .ok (.ifCond .eq 5, 3) := by decide +kernel
theorem dL_law_219 : decode cL_law 219 = .ok (.iconst 0, 1) := by decide +kernel
theorem dL_law_220 : decode cL_law 220 = .ok (.ireturn, 1) := by decide +kernel
theorem dL_law_221 : decode cL_law 221 = .ok (.goto 1309, 3) := by decide +kernel
theorem dL_law_224 : decode cL_law 224 = .ok (.aload_n 1, 1) := by decide +kernel
theorem dL_law_225 : decode cL_law 225 = .ok (.aload_n 0, 1) := by decide +kernel
theorem dL_law_226 : decode cL_law 226 = .ok (.iload 5, 2) := by decide +kernel
theorem dL_law_228 : decode cL_law 228 = .ok (.iconst 1, 1) := by decide +kernel
theorem dL_law_229 : decode cL_law 229 = .ok (.iadd, 1) := by decide +kernel
theorem dL_law_230 : decode cL_law 230 = .ok (.iaload, 1) := by decide +kernel
theorem dL_law_231 : decode cL_law 231 = .ok (.aload_n 0, 1) := by decide +kernel
theorem dL_law_232 : decode cL_law 232 = .ok (.iload 5, 2) := by decide +kernel
theorem dL_law_234 : decode cL_law 234 = .ok (.iconst 2, 1) := by decide +kernel
theorem dL_law_235 : decode cL_law 235 = .ok (.iadd, 1) := by decide +kernel
theorem dL_law_236 : decode cL_law 236 = .ok (.iaload, 1) := by decide +kernel
theorem dL_law_237 : decode cL_law 237 = .ok (.aload_n 0, 1) := by decide +kernel
theorem dL_law_238 : decode cL_law 238 = .ok (.iload 5, 2) := by decide +kernel
theorem dL_law_240 : decode cL_law 240 = .ok (.iconst 3, 1) := by decide +kernel
theorem dL_law_241 : decode cL_law 241 = .ok (.iadd, 1) := by decide +kernel
theorem dL_law_242 : decode cL_law 242 = .ok (.iaload, 1) := by decide +kernel
theorem dL_law_243 : decode cL_law 243 = .ok (.aload_n 0, 1) := by decide +kernel
theorem dL_law_244 : decode cL_law 244 = .ok (.iload 5, 2) := by decide +kernel
theorem dL_law_246 : decode cL_law 246 = .ok (.iconst 4, 1) := by decide +kernel
theorem dL_law_247 : decode cL_law 247 = .ok (.iadd, 1) := by decide +kernel
theorem dL_law_248 : decode cL_law 248 = .ok (.iaload, 1) := by decide +kernel
theorem dL_law_249 : decode cL_law 249 = .ok (.aload_n 3, 1) := by decide +kernel
theorem dL_law_250 : decode cL_law 250 = .ok (.invokestatic 94, 3) := by decide +kernel
theorem dL_law_253 : decode cL_law 253 = .ok (.istore 6, 2) := by decide +kernel
theorem dL_law_255 : decode cL_law 255 = .ok (.aload_n 2, 1) := by decide +kernel
theorem dL_law_256 : decode cL_law 256 = .ok (.aload_n 0, 1) := by decide +kernel
theorem dL_law_257 : decode cL_law 257 = .ok (.iload 5, 2) := by decide +kernel
theorem dL_law_259 : decode cL_law 259 = .ok (.iconst 1, 1) := by decide +kernel
theorem dL_law_260 : decode cL_law 260 = .ok (.iadd, 1) := by decide +kernel
theorem dL_law_261 : decode cL_law 261 = .ok (.iaload, 1) := by decide +kernel
theorem dL_law_262 : decode cL_law 262 = .ok (.aload_n 0, 1) := by decide +kernel
theorem dL_law_263 : decode cL_law 263 = .ok (.iload 5, 2) := by decide +kernel
theorem dL_law_265 : decode cL_law 265 = .ok (.iconst 2, 1) := by decide +kernel
theorem dL_law_266 : decode cL_law 266 = .ok (.iadd, 1) := by decide +kernel
theorem dL_law_267 : decode cL_law 267 = .ok (.iaload, 1) := by decide +kernel
theorem dL_law_268 : decode cL_law 268 = .ok (.aload_n 0, 1) := by decide +kernel
theorem dL_law_269 : decode cL_law 269 = .ok (.iload 5, 2) := by decide +kernel
theorem dL_law_271 : decode cL_law 271 = .ok (.iconst 3, 1) := by decide +kernel
theorem dL_law_272 : decode cL_law 272 = .ok (.iadd, 1) := by decide +kernel
theorem dL_law_273 : decode cL_law 273 = .ok (.iaload, 1) := by decide +kernel
theorem dL_law_274 : decode cL_law 274 = .ok (.aload_n 0, 1) := by decide +kernel
theorem dL_law_275 : decode cL_law 275 = .ok (.iload 5, 2) := by decide +kernel
theorem dL_law_277 : decode cL_law 277 = .ok (.iconst 4, 1) := by decide +kernel
theorem dL_law_278 : decode cL_law 278 = .ok (.iadd, 1) := by decide +kernel
theorem dL_law_279 : decode cL_law 279 = .ok (.iaload, 1) := by decide +kernel
theorem dL_law_280 : decode cL_law 280 = .ok (.invokevirtual 97, 3) := by decide +kernel
theorem dL_law_283 : decode cL_law 283 = .ok (.istore 7, 2) := by decide +kernel
theorem dL_law_285 : decode cL_law 285 = .ok (.aload_n 2, 1) := by decide +kernel
theorem dL_law_286 : decode cL_law 286 = .ok (.invokevirtual 91, 3) := by decide +kernel
theorem dL_law_289 : decode cL_law 289 = .ok (.iload 6, 2) := by decide +kernel
theorem dL_law_291 : decode cL_law 291 = .ok (.if_icmp .eq 5, 3) := by decide +kernel
theorem dL_law_294 : decode cL_law 294 = .ok (.iconst 0, 1) := by decide +kernel
theorem dL_law_295 : decode cL_law 295 = .ok (.ireturn, 1) := by decide +kernel
theorem dL_law_296 : decode cL_law 296 = .ok (.iload 6, 2) := by decide +kernel
theorem dL_law_298 : decode cL_law 298 = .ok (.ifCond .ne 15, 3) := by decide +kernel
theorem dL_law_301 : decode cL_law 301 = .ok (.aload_n 3, 1) := by decide +kernel
theorem dL_law_302 : decode cL_law 302 = .ok (.iconst 0, 1) := by decide +kernel
theorem dL_law_303 : decode cL_law 303 = .ok (.laload, 1) := by decide +kernel
theorem dL_law_304 : decode cL_law 304 = .ok (.iload 7, 2) := by decide +kernel
theorem dL_law_306 : decode cL_law 306 = .ok (.i2l, 1) := by decide +kernel
theorem dL_law_307 : decode cL_law 307 = .ok (.lcmp, 1) := by decide +kernel
theorem dL_law_308 : decode cL_law 308 = .ok (.ifCond .eq 5, 3) := by decide +kernel
theorem dL_law_311 : decode cL_law 311 = .ok (.iconst 0, 1) := by decide +kernel
theorem dL_law_312 : decode cL_law 312 = .ok (.ireturn, 1) := by decide +kernel
theorem dL_law_313 : decode cL_law 313 = .ok (.goto 1217, 3) := by decide +kernel
theorem dL_law_316 : decode cL_law 316 = .ok (.aload_n 1, 1) := by decide +kernel
theorem dL_law_317 : decode cL_law 317 = .ok (.aload_n 0, 1) := by decide +kernel
theorem dL_law_318 : decode cL_law 318 = .ok (.iload 5, 2) := by decide +kernel
theorem dL_law_320 : decode cL_law 320 = .ok (.iconst 1, 1) := by decide +kernel
theorem dL_law_321 : decode cL_law 321 = .ok (.iadd, 1) := by decide +kernel
theorem dL_law_322 : decode cL_law 322 = .ok (.iaload, 1) := by decide +kernel
theorem dL_law_323 : decode cL_law 323 = .ok (.aload_n 3, 1) := by decide +kernel
theorem dL_law_324 : decode cL_law 324 = .ok (.invokestatic 98, 3) := by decide +kernel
theorem dL_law_327 : decode cL_law 327 = .ok (.istore 6, 2) := by decide +kernel
theorem dL_law_329 : decode cL_law 329 = .ok (.aload_n 2, 1) := by decide +kernel
theorem dL_law_330 : decode cL_law 330 = .ok (.aload_n 0, 1) := by decide +kernel
theorem dL_law_331 : decode cL_law 331 = .ok (.iload 5, 2) := by decide +kernel
theorem dL_law_333 : decode cL_law 333 = .ok (.iconst 1, 1) := by decide +kernel
theorem dL_law_334 : decode cL_law 334 = .ok (.iadd, 1) := by decide +kernel
theorem dL_law_335 : decode cL_law 335 = .ok (.iaload, 1) := by decide +kernel
theorem dL_law_336 : decode cL_law 336 = .ok (.invokevirtual 101, 3) := by decide +kernel
theorem dL_law_339 : decode cL_law 339 = .ok (.istore 7, 2) := by decide +kernel
theorem dL_law_341 : decode cL_law 341 = .ok (.aload_n 2, 1) := by decide +kernel
theorem dL_law_342 : decode cL_law 342 = .ok (.invokevirtual 91, 3) := by decide +kernel
theorem dL_law_345 : decode cL_law 345 = .ok (.iload 6, 2) := by decide +kernel
theorem dL_law_347 : decode cL_law 347 = .ok (.if_icmp .eq 5, 3) := by decide +kernel
theorem dL_law_350 : decode cL_law 350 = .ok (.iconst 0, 1) := by decide +kernel
theorem dL_law_351 : decode cL_law 351 = .ok (.ireturn, 1) := by decide +kernel
theorem dL_law_352 : decode cL_law 352 = .ok (.iload 6, 2) := by decide +kernel
theorem dL_law_354 : decode cL_law 354 = .ok (.ifCond .ne 15, 3) := by decide +kernel
theorem dL_law_357 : decode cL_law 357 = .ok (.aload_n 3, 1) := by decide +kernel
theorem dL_law_358 : decode cL_law 358 = .ok (.iconst 0, 1) := by decide +kernel
theorem dL_law_359 : decode cL_law 359 = .ok (.laload, 1) := by decide +kernel
theorem dL_law_360 : decode cL_law 360 = .ok (.iload 7, 2) := by decide +kernel
theorem dL_law_362 : decode cL_law 362 = .ok (.i2l, 1) := by decide +kernel
theorem dL_law_363 : decode cL_law 363 = .ok (.lcmp, 1) := by decide +kernel
theorem dL_law_364 : decode cL_law 364 = .ok (.ifCond .eq 5, 3) := by decide +kernel
theorem dL_law_367 : decode cL_law 367 = .ok (.iconst 0, 1) := by decide +kernel
theorem dL_law_368 : decode cL_law 368 = .ok (.ireturn, 1) := by decide +kernel
theorem dL_law_369 : decode cL_law 369 = .ok (.goto 1161, 3) := by decide +kernel
theorem dL_law_372 : decode cL_law 372 = .ok (.aload_n 1, 1) := by decide +kernel
theorem dL_law_373 : decode cL_law 373 = .ok (.aload_n 0, 1) := by decide +kernel
theorem dL_law_374 : decode cL_law 374 = .ok (.iload 5, 2) := by decide +kernel
theorem dL_law_376 : decode cL_law 376 = .ok (.iconst 1, 1) := by decide +kernel
theorem dL_law_377 : decode cL_law 377 = .ok (.iadd, 1) := by decide +kernel
theorem dL_law_378 : decode cL_law 378 = .ok (.iaload, 1) := by decide +kernel
theorem dL_law_379 : decode cL_law 379 = .ok (.aload_n 3, 1) := by decide +kernel
theorem dL_law_380 : decode cL_law 380 = .ok (.invokestatic 102, 3) := by decide +kernel
theorem dL_law_383 : decode cL_law 383 = .ok (.istore 6, 2) := by decide +kernel
theorem dL_law_385 : decode cL_law 385 = .ok (.aload_n 2, 1) := by decide +kernel
theorem dL_law_386 : decode cL_law 386 = .ok (.aload_n 0, 1) := by decide +kernel
theorem dL_law_387 : decode cL_law 387 = .ok (.iload 5, 2) := by decide +kernel
theorem dL_law_389 : decode cL_law 389 = .ok (.iconst 1, 1) := by decide +kernel
theorem dL_law_390 : decode cL_law 390 = .ok (.iadd, 1) := by decide +kernel
theorem dL_law_391 : decode cL_law 391 = .ok (.iaload, 1) := by decide +kernel
theorem dL_law_392 : decode cL_law 392 = .ok (.invokevirtual 104, 3) := by decide +kernel
theorem dL_law_395 : decode cL_law 395 = .ok (.istore 7, 2) := by decide +kernel
theorem dL_law_397 : decode cL_law 397 = .ok (.aload_n 2, 1) := by decide +kernel
theorem dL_law_398 : decode cL_law 398 = .ok (.invokevirtual 91, 3) := by decide +kernel
theorem dL_law_401 : decode cL_law 401 = .ok (.iload 6, 2) := by decide +kernel
theorem dL_law_403 : decode cL_law 403 = .ok (.if_icmp .eq 5, 3) := by decide +kernel
theorem dL_law_406 : decode cL_law 406 = .ok (.iconst 0, 1) := by decide +kernel
theorem dL_law_407 : decode cL_law 407 = .ok (.ireturn, 1) := by decide +kernel
theorem dL_law_408 : decode cL_law 408 = .ok (.iload 6, 2) := by decide +kernel
theorem dL_law_410 : decode cL_law 410 = .ok (.ifCond .ne 15, 3) := by decide +kernel
theorem dL_law_413 : decode cL_law 413 = .ok (.aload_n 3, 1) := by decide +kernel
theorem dL_law_414 : decode cL_law 414 = .ok (.iconst 0, 1) := by decide +kernel
theorem dL_law_415 : decode cL_law 415 = .ok (.laload, 1) := by decide +kernel
theorem dL_law_416 : decode cL_law 416 = .ok (.iload 7, 2) := by decide +kernel
theorem dL_law_418 : decode cL_law 418 = .ok (.i2l, 1) := by decide +kernel
theorem dL_law_419 : decode cL_law 419 = .ok (.lcmp, 1) := by decide +kernel
theorem dL_law_420 : decode cL_law 420 = .ok (.ifCond .eq 5, 3) := by decide +kernel
theorem dL_law_423 : decode cL_law 423 = .ok (.iconst 0, 1) := by decide +kernel
theorem dL_law_424 : decode cL_law 424 = .ok (.ireturn, 1) := by decide +kernel
theorem dL_law_425 : decode cL_law 425 = .ok (.goto 1105, 3) := by decide +kernel
theorem dL_law_428 : decode cL_law 428 = .ok (.aload_n 1, 1) := by decide +kernel
theorem dL_law_429 : decode cL_law 429 = .ok (.aload_n 0, 1) := by decide +kernel
theorem dL_law_430 : decode cL_law 430 = .ok (.iload 5, 2) := by decide +kernel
theorem dL_law_432 : decode cL_law 432 = .ok (.iconst 1, 1) := by decide +kernel
theorem dL_law_433 : decode cL_law 433 = .ok (.iadd, 1) := by decide +kernel
theorem dL_law_434 : decode cL_law 434 = .ok (.iaload, 1) := by decide +kernel
theorem dL_law_435 : decode cL_law 435 = .ok (.aload_n 0, 1) := by decide +kernel
theorem dL_law_436 : decode cL_law 436 = .ok (.iload 5, 2) := by decide +kernel
theorem dL_law_438 : decode cL_law 438 = .ok (.iconst 2, 1) := by decide +kernel
theorem dL_law_439 : decode cL_law 439 = .ok (.iadd, 1) := by decide +kernel
theorem dL_law_440 : decode cL_law 440 = .ok (.iaload, 1) := by decide +kernel
theorem dL_law_441 : decode cL_law 441 = .ok (.aload_n 3, 1) := by decide +kernel
theorem dL_law_442 : decode cL_law 442 = .ok (.invokestatic 105, 3) := by decide +kernel
theorem dL_law_445 : decode cL_law 445 = .ok (.istore 6, 2) := by decide +kernel
theorem dL_law_447 : decode cL_law 447 = .ok (.aload_n 2, 1) := by decide +kernel
theorem dL_law_448 : decode cL_law 448 = .ok (.aload_n 0, 1) := by decide +kernel
theorem dL_law_449 : decode cL_law 449 = .ok (.iload 5, 2) := by decide +kernel
theorem dL_law_451 : decode cL_law 451 = .ok (.iconst 1, 1) := by decide +kernel
theorem dL_law_452 : decode cL_law 452 = .ok (.iadd, 1) := by decide +kernel
theorem dL_law_453 : decode cL_law 453 = .ok (.iaload, 1) := by decide +kernel
theorem dL_law_454 : decode cL_law 454 = .ok (.aload_n 0, 1) := by decide +kernel
theorem dL_law_455 : decode cL_law 455 = .ok (.iload 5, 2) := by decide +kernel
theorem dL_law_457 : decode cL_law 457 = .ok (.iconst 2, 1) := by decide +kernel
theorem dL_law_458 : decode cL_law 458 = .ok (.iadd, 1) := by decide +kernel
theorem dL_law_459 : decode cL_law 459 = .ok (.iaload, 1) := by decide +kernel
theorem dL_law_460 : decode cL_law 460 = .ok (.invokevirtual 107, 3) := by decide +kernel
theorem dL_law_463 : decode cL_law 463 = .ok (.istore 7, 2) := by decide +kernel
theorem dL_law_465 : decode cL_law 465 = .ok (.aload_n 2, 1) := by decide +kernel
theorem dL_law_466 : decode cL_law 466 = .ok (.invokevirtual 91, 3) := by decide +kernel
theorem dL_law_469 : decode cL_law 469 = .ok (.iload 6, 2) := by decide +kernel
theorem dL_law_471 : decode cL_law 471 = .ok (.if_icmp .eq 5, 3) := by decide +kernel
theorem dL_law_474 : decode cL_law 474 = .ok (.iconst 0, 1) := by decide +kernel
theorem dL_law_475 : decode cL_law 475 = .ok (.ireturn, 1) := by decide +kernel
theorem dL_law_476 : decode cL_law 476 = .ok (.iload 6, 2) := by decide +kernel
theorem dL_law_478 : decode cL_law 478 = .ok (.ifCond .ne 15, 3) := by decide +kernel
theorem dL_law_481 : decode cL_law 481 = .ok (.aload_n 3, 1) := by decide +kernel
theorem dL_law_482 : decode cL_law 482 = .ok (.iconst 0, 1) := by decide +kernel
theorem dL_law_483 : decode cL_law 483 = .ok (.laload, 1) := by decide +kernel
theorem dL_law_484 : decode cL_law 484 = .ok (.iload 7, 2) := by decide +kernel
theorem dL_law_486 : decode cL_law 486 = .ok (.i2l, 1) := by decide +kernel
theorem dL_law_487 : decode cL_law 487 = .ok (.lcmp, 1) := by decide +kernel
theorem dL_law_488 : decode cL_law 488 = .ok (.ifCond .eq 5, 3) := by decide +kernel
theorem dL_law_491 : decode cL_law 491 = .ok (.iconst 0, 1) := by decide +kernel
theorem dL_law_492 : decode cL_law 492 = .ok (.ireturn, 1) := by decide +kernel
theorem dL_law_493 : decode cL_law 493 = .ok (.goto 1037, 3) := by decide +kernel
theorem dL_law_496 : decode cL_law 496 = .ok (.aload_n 1, 1) := by decide +kernel
theorem dL_law_497 : decode cL_law 497 = .ok (.aload_n 0, 1) := by decide +kernel
theorem dL_law_498 : decode cL_law 498 = .ok (.iload 5, 2) := by decide +kernel
theorem dL_law_500 : decode cL_law 500 = .ok (.iconst 1, 1) := by decide +kernel
theorem dL_law_501 : decode cL_law 501 = .ok (.iadd, 1) := by decide +kernel
theorem dL_law_502 : decode cL_law 502 = .ok (.iaload, 1) := by decide +kernel
theorem dL_law_503 : decode cL_law 503 = .ok (.aload_n 0, 1) := by decide +kernel
theorem dL_law_504 : decode cL_law 504 = .ok (.iload 5, 2) := by decide +kernel
theorem dL_law_506 : decode cL_law 506 = .ok (.iconst 2, 1) := by decide +kernel
theorem dL_law_507 : decode cL_law 507 = .ok (.iadd, 1) := by decide +kernel
theorem dL_law_508 : decode cL_law 508 = .ok (.iaload, 1) := by decide +kernel
theorem dL_law_509 : decode cL_law 509 = .ok (.aload_n 3, 1) := by decide +kernel
theorem dL_law_510 : decode cL_law 510 = .ok (.invokestatic 108, 3) := by decide +kernel
theorem dL_law_513 : decode cL_law 513 = .ok (.istore 6, 2) := by decide +kernel
theorem dL_law_515 : decode cL_law 515 = .ok (.aload_n 2, 1) := by decide +kernel
theorem dL_law_516 : decode cL_law 516 = .ok (.aload_n 0, 1) := by decide +kernel
theorem dL_law_517 : decode cL_law 517 = .ok (.iload 5, 2) := by decide +kernel
theorem dL_law_519 : decode cL_law 519 = .ok (.iconst 1, 1) := by decide +kernel
theorem dL_law_520 : decode cL_law 520 = .ok (.iadd, 1) := by decide +kernel
theorem dL_law_521 : decode cL_law 521 = .ok (.iaload, 1) := by decide +kernel
theorem dL_law_522 : decode cL_law 522 = .ok (.aload_n 0, 1) := by decide +kernel
theorem dL_law_523 : decode cL_law 523 = .ok (.iload 5, 2) := by decide +kernel
theorem dL_law_525 : decode cL_law 525 = .ok (.iconst 2, 1) := by decide +kernel
theorem dL_law_526 : decode cL_law 526 = .ok (.iadd, 1) := by decide +kernel
theorem dL_law_527 : decode cL_law 527 = .ok (.iaload, 1) := by decide +kernel
theorem dL_law_528 : decode cL_law 528 = .ok (.invokevirtual 110, 3) := by decide +kernel
theorem dL_law_531 : decode cL_law 531 = .ok (.istore 7, 2) := by decide +kernel
theorem dL_law_533 : decode cL_law 533 = .ok (.aload_n 2, 1) := by decide +kernel
theorem dL_law_534 : decode cL_law 534 = .ok (.invokevirtual 91, 3) := by decide +kernel
theorem dL_law_537 : decode cL_law 537 = .ok (.iload 6, 2) := by decide +kernel
theorem dL_law_539 : decode cL_law 539 = .ok (.if_icmp .eq 5, 3) := by decide +kernel
theorem dL_law_542 : decode cL_law 542 = .ok (.iconst 0, 1) := by decide +kernel
theorem dL_law_543 : decode cL_law 543 = .ok (.ireturn, 1) := by decide +kernel
theorem dL_law_544 : decode cL_law 544 = .ok (.iload 6, 2) := by decide +kernel
theorem dL_law_546 : decode cL_law 546 = .ok (.ifCond .ne 15, 3) := by decide +kernel
theorem dL_law_549 : decode cL_law 549 = .ok (.aload_n 3, 1) := by decide +kernel
theorem dL_law_550 : decode cL_law 550 = .ok (.iconst 0, 1) := by decide +kernel
theorem dL_law_551 : decode cL_law 551 = .ok (.laload, 1) := by decide +kernel
theorem dL_law_552 : decode cL_law 552 = .ok (.iload 7, 2) := by decide +kernel
theorem dL_law_554 : decode cL_law 554 = .ok (.i2l, 1) := by decide +kernel
theorem dL_law_555 : decode cL_law 555 = .ok (.lcmp, 1) := by decide +kernel
theorem dL_law_556 : decode cL_law 556 = .ok (.ifCond .eq 5, 3) := by decide +kernel
theorem dL_law_559 : decode cL_law 559 = .ok (.iconst 0, 1) := by decide +kernel
theorem dL_law_560 : decode cL_law 560 = .ok (.ireturn, 1) := by decide +kernel
theorem dL_law_561 : decode cL_law 561 = .ok (.goto 969, 3) := by decide +kernel
theorem dL_law_564 : decode cL_law 564 = .ok (.aload_n 1, 1) := by decide +kernel
theorem dL_law_565 : decode cL_law 565 = .ok (.aload_n 0, 1) := by decide +kernel
theorem dL_law_566 : decode cL_law 566 = .ok (.iload 5, 2) := by decide +kernel
theorem dL_law_568 : decode cL_law 568 = .ok (.iconst 1, 1) := by decide +kernel
theorem dL_law_569 : decode cL_law 569 = .ok (.iadd, 1) := by decide +kernel
theorem dL_law_570 : decode cL_law 570 = .ok (.iaload, 1) := by decide +kernel
theorem dL_law_571 : decode cL_law 571 = .ok (.aload_n 3, 1) := by decide +kernel
theorem dL_law_572 : decode cL_law 572 = .ok (.invokestatic 111, 3) := by decide +kernel
theorem dL_law_575 : decode cL_law 575 = .ok (.istore 6, 2) := by decide +kernel
theorem dL_law_577 : decode cL_law 577 = .ok (.aload_n 2, 1) := by decide +kernel
theorem dL_law_578 : decode cL_law 578 = .ok (.aload_n 0, 1) := by decide +kernel
theorem dL_law_579 : decode cL_law 579 = .ok (.iload 5, 2) := by decide +kernel
theorem dL_law_581 : decode cL_law 581 = .ok (.iconst 1, 1) := by decide +kernel
theorem dL_law_582 : decode cL_law 582 = .ok (.iadd, 1) := by decide +kernel
theorem dL_law_583 : decode cL_law 583 = .ok (.iaload, 1) := by decide +kernel
theorem dL_law_584 : decode cL_law 584 = .ok (.invokevirtual 113, 3) := by decide +kernel
theorem dL_law_587 : decode cL_law 587 = .ok (.istore 7, 2) := by decide +kernel
theorem dL_law_589 : decode cL_law 589 = .ok (.aload_n 2, 1) := by decide +kernel
theorem dL_law_590 : decode cL_law 590 = .ok (.invokevirtual 91, 3) := by decide +kernel
theorem dL_law_593 : decode cL_law 593 = .ok (.iload 6, 2) := by decide +kernel
theorem dL_law_595 : decode cL_law 595 = .ok (.if_icmp .eq 5, 3) := by decide +kernel
theorem dL_law_598 : decode cL_law 598 = .ok (.iconst 0, 1) := by decide +kernel
theorem dL_law_599 : decode cL_law 599 = .ok (.ireturn, 1) := by decide +kernel
theorem dL_law_600 : decode cL_law 600 = .ok (.iload 6, 2) := by decide +kernel
theorem dL_law_602 : decode cL_law 602 = .ok (.ifCond .ne 15, 3) := by decide +kernel
theorem dL_law_605 : decode cL_law 605 = .ok (.aload_n 3, 1) := by decide +kernel
theorem dL_law_606 : decode cL_law 606 = .ok (.iconst 0, 1) := by decide +kernel
theorem dL_law_607 : decode cL_law 607 = .ok (.laload, 1) := by decide +kernel
theorem dL_law_608 : decode cL_law 608 = .ok (.iload 7, 2) := by decide +kernel
theorem dL_law_610 : decode cL_law 610 = .ok (.i2l, 1) := by decide +kernel
theorem dL_law_611 : decode cL_law 611 = .ok (.lcmp, 1) := by decide +kernel
theorem dL_law_612 : decode cL_law 612 = .ok (.ifCond .eq 5, 3) := by decide +kernel
theorem dL_law_615 : decode cL_law 615 = .ok (.iconst 0, 1) := by decide +kernel
theorem dL_law_616 : decode cL_law 616 = .ok (.ireturn, 1) := by decide +kernel
theorem dL_law_617 : decode cL_law 617 = .ok (.goto 913, 3) := by decide +kernel
theorem dL_law_620 : decode cL_law 620 = .ok (.aload_n 1, 1) := by decide +kernel
theorem dL_law_621 : decode cL_law 621 = .ok (.aload_n 0, 1) := by decide +kernel
theorem dL_law_622 : decode cL_law 622 = .ok (.iload 5, 2) := by decide +kernel
theorem dL_law_624 : decode cL_law 624 = .ok (.iconst 1, 1) := by decide +kernel
theorem dL_law_625 : decode cL_law 625 = .ok (.iadd, 1) := by decide +kernel
theorem dL_law_626 : decode cL_law 626 = .ok (.iaload, 1) := by decide +kernel
theorem dL_law_627 : decode cL_law 627 = .ok (.aload_n 0, 1) := by decide +kernel
theorem dL_law_628 : decode cL_law 628 = .ok (.iload 5, 2) := by decide +kernel
theorem dL_law_630 : decode cL_law 630 = .ok (.iconst 2, 1) := by decide +kernel
theorem dL_law_631 : decode cL_law 631 = .ok (.iadd, 1) := by decide +kernel
theorem dL_law_632 : decode cL_law 632 = .ok (.iaload, 1) := by decide +kernel
theorem dL_law_633 : decode cL_law 633 = .ok (.aload_n 0, 1) := by decide +kernel
theorem dL_law_634 : decode cL_law 634 = .ok (.iload 5, 2) := by decide +kernel
theorem dL_law_636 : decode cL_law 636 = .ok (.iconst 3, 1) := by decide +kernel
theorem dL_law_637 : decode cL_law 637 = .ok (.iadd, 1) := by decide +kernel
theorem dL_law_638 : decode cL_law 638 = .ok (.iaload, 1) := by decide +kernel
theorem dL_law_639 : decode cL_law 639 = .ok (.aload_n 3, 1) := by decide +kernel
theorem dL_law_640 : decode cL_law 640 = .ok (.invokestatic 114, 3) := by decide +kernel
theorem dL_law_643 : decode cL_law 643 = .ok (.istore 6, 2) := by decide +kernel
theorem dL_law_645 : decode cL_law 645 = .ok (.aload_n 2, 1) := by decide +kernel
theorem dL_law_646 : decode cL_law 646 = .ok (.aload_n 0, 1) := by decide +kernel
theorem dL_law_647 : decode cL_law 647 = .ok (.iload 5, 2) := by decide +kernel
theorem dL_law_649 : decode cL_law 649 = .ok (.iconst 1, 1) := by decide +kernel
theorem dL_law_650 : decode cL_law 650 = .ok (.iadd, 1) := by decide +kernel
theorem dL_law_651 : decode cL_law 651 = .ok (.iaload, 1) := by decide +kernel
theorem dL_law_652 : decode cL_law 652 = .ok (.aload_n 0, 1) := by decide +kernel
theorem dL_law_653 : decode cL_law 653 = .ok (.iload 5, 2) := by decide +kernel
theorem dL_law_655 : decode cL_law 655 = .ok (.iconst 2, 1) := by decide +kernel
theorem dL_law_656 : decode cL_law 656 = .ok (.iadd, 1) := by decide +kernel
theorem dL_law_657 : decode cL_law 657 = .ok (.iaload, 1) := by decide +kernel
theorem dL_law_658 : decode cL_law 658 = .ok (.aload_n 0, 1) := by decide +kernel
theorem dL_law_659 : decode cL_law 659 = .ok (.iload 5, 2) := by decide +kernel
theorem dL_law_661 : decode cL_law 661 = .ok (.iconst 3, 1) := by decide +kernel
theorem dL_law_662 : decode cL_law 662 = .ok (.iadd, 1) := by decide +kernel
theorem dL_law_663 : decode cL_law 663 = .ok (.iaload, 1) := by decide +kernel
theorem dL_law_664 : decode cL_law 664 = .ok (.invokevirtual 117, 3) := by decide +kernel
theorem dL_law_667 : decode cL_law 667 = .ok (.istore 7, 2) := by decide +kernel
theorem dL_law_669 : decode cL_law 669 = .ok (.aload_n 2, 1) := by decide +kernel
theorem dL_law_670 : decode cL_law 670 = .ok (.invokevirtual 91, 3) := by decide +kernel
theorem dL_law_673 : decode cL_law 673 = .ok (.iload 6, 2) := by decide +kernel
theorem dL_law_675 : decode cL_law 675 = .ok (.if_icmp .eq 5, 3) := by decide +kernel
theorem dL_law_678 : decode cL_law 678 = .ok (.iconst 0, 1) := by decide +kernel
theorem dL_law_679 : decode cL_law 679 = .ok (.ireturn, 1) := by decide +kernel
theorem dL_law_680 : decode cL_law 680 = .ok (.iload 6, 2) := by decide +kernel
theorem dL_law_682 : decode cL_law 682 = .ok (.ifCond .ne 15, 3) := by decide +kernel
theorem dL_law_685 : decode cL_law 685 = .ok (.aload_n 3, 1) := by decide +kernel
theorem dL_law_686 : decode cL_law 686 = .ok (.iconst 0, 1) := by decide +kernel
theorem dL_law_687 : decode cL_law 687 = .ok (.laload, 1) := by decide +kernel
theorem dL_law_688 : decode cL_law 688 = .ok (.iload 7, 2) := by decide +kernel
theorem dL_law_690 : decode cL_law 690 = .ok (.i2l, 1) := by decide +kernel
theorem dL_law_691 : decode cL_law 691 = .ok (.lcmp, 1) := by decide +kernel
theorem dL_law_692 : decode cL_law 692 = .ok (.ifCond .eq 5, 3) := by decide +kernel
theorem dL_law_695 : decode cL_law 695 = .ok (.iconst 0, 1) := by decide +kernel
theorem dL_law_696 : decode cL_law 696 = .ok (.ireturn, 1) := by decide +kernel
theorem dL_law_697 : decode cL_law 697 = .ok (.goto 833, 3) := by decide +kernel
theorem dL_law_700 : decode cL_law 700 = .ok (.aload_n 1, 1) := by decide +kernel
theorem dL_law_701 : decode cL_law 701 = .ok (.aload_n 0, 1) := by decide +kernel
theorem dL_law_702 : decode cL_law 702 = .ok (.iload 5, 2) := by decide +kernel
theorem dL_law_704 : decode cL_law 704 = .ok (.iconst 1, 1) := by decide +kernel
theorem dL_law_705 : decode cL_law 705 = .ok (.iadd, 1) := by decide +kernel
theorem dL_law_706 : decode cL_law 706 = .ok (.iaload, 1) := by decide +kernel
theorem dL_law_707 : decode cL_law 707 = .ok (.aload_n 3, 1) := by decide +kernel
theorem dL_law_708 : decode cL_law 708 = .ok (.invokestatic 118, 3) := by decide +kernel
theorem dL_law_711 : decode cL_law 711 = .ok (.istore 6, 2) := by decide +kernel
theorem dL_law_713 : decode cL_law 713 = .ok (.aload_n 2, 1) := by decide +kernel
theorem dL_law_714 : decode cL_law 714 = .ok (.aload_n 0, 1) := by decide +kernel
theorem dL_law_715 : decode cL_law 715 = .ok (.iload 5, 2) := by decide +kernel
theorem dL_law_717 : decode cL_law 717 = .ok (.iconst 1, 1) := by decide +kernel
theorem dL_law_718 : decode cL_law 718 = .ok (.iadd, 1) := by decide +kernel
theorem dL_law_719 : decode cL_law 719 = .ok (.iaload, 1) := by decide +kernel
theorem dL_law_720 : decode cL_law 720 = .ok (.invokevirtual 120, 3) := by decide +kernel
theorem dL_law_723 : decode cL_law 723 = .ok (.istore 7, 2) := by decide +kernel
theorem dL_law_725 : decode cL_law 725 = .ok (.aload_n 2, 1) := by decide +kernel
theorem dL_law_726 : decode cL_law 726 = .ok (.invokevirtual 91, 3) := by decide +kernel
theorem dL_law_729 : decode cL_law 729 = .ok (.iload 6, 2) := by decide +kernel
theorem dL_law_731 : decode cL_law 731 = .ok (.if_icmp .eq 5, 3) := by decide +kernel
theorem dL_law_734 : decode cL_law 734 = .ok (.iconst 0, 1) := by decide +kernel
theorem dL_law_735 : decode cL_law 735 = .ok (.ireturn, 1) := by decide +kernel
theorem dL_law_736 : decode cL_law 736 = .ok (.iload 6, 2) := by decide +kernel
theorem dL_law_738 : decode cL_law 738 = .ok (.ifCond .ne 15, 3) := by decide +kernel
theorem dL_law_741 : decode cL_law 741 = .ok (.aload_n 3, 1) := by decide +kernel
theorem dL_law_742 : decode cL_law 742 = .ok (.iconst 0, 1) := by decide +kernel
theorem dL_law_743 : decode cL_law 743 = .ok (.laload, 1) := by decide +kernel
theorem dL_law_744 : decode cL_law 744 = .ok (.iload 7, 2) := by decide +kernel
theorem dL_law_746 : decode cL_law 746 = .ok (.i2l, 1) := by decide +kernel
theorem dL_law_747 : decode cL_law 747 = .ok (.lcmp, 1) := by decide +kernel
theorem dL_law_748 : decode cL_law 748 = .ok (.ifCond .eq 5, 3) := by decide +kernel
theorem dL_law_751 : decode cL_law 751 = .ok (.iconst 0, 1) := by decide +kernel
theorem dL_law_752 : decode cL_law 752 = .ok (.ireturn, 1) := by decide +kernel
theorem dL_law_753 : decode cL_law 753 = .ok (.goto 777, 3) := by decide +kernel
theorem dL_law_756 : decode cL_law 756 = .ok (.aload_n 1, 1) := by decide +kernel
theorem dL_law_757 : decode cL_law 757 = .ok (.aload_n 0, 1) := by decide +kernel
theorem dL_law_758 : decode cL_law 758 = .ok (.iload 5, 2) := by decide +kernel
theorem dL_law_760 : decode cL_law 760 = .ok (.iconst 1, 1) := by decide +kernel
theorem dL_law_761 : decode cL_law 761 = .ok (.iadd, 1) := by decide +kernel
theorem dL_law_762 : decode cL_law 762 = .ok (.iaload, 1) := by decide +kernel
theorem dL_law_763 : decode cL_law 763 = .ok (.aload_n 0, 1) := by decide +kernel
theorem dL_law_764 : decode cL_law 764 = .ok (.iload 5, 2) := by decide +kernel
theorem dL_law_766 : decode cL_law 766 = .ok (.iconst 2, 1) := by decide +kernel
theorem dL_law_767 : decode cL_law 767 = .ok (.iadd, 1) := by decide +kernel
theorem dL_law_768 : decode cL_law 768 = .ok (.iaload, 1) := by decide +kernel
theorem dL_law_769 : decode cL_law 769 = .ok (.aload_n 3, 1) := by decide +kernel
theorem dL_law_770 : decode cL_law 770 = .ok (.invokestatic 121, 3) := by decide +kernel
theorem dL_law_773 : decode cL_law 773 = .ok (.istore 6, 2) := by decide +kernel
theorem dL_law_775 : decode cL_law 775 = .ok (.aload_n 2, 1) := by decide +kernel
theorem dL_law_776 : decode cL_law 776 = .ok (.aload_n 0, 1) := by decide +kernel
theorem dL_law_777 : decode cL_law 777 = .ok (.iload 5, 2) := by decide +kernel
theorem dL_law_779 : decode cL_law 779 = .ok (.iconst 1, 1) := by decide +kernel
theorem dL_law_780 : decode cL_law 780 = .ok (.iadd, 1) := by decide +kernel
theorem dL_law_781 : decode cL_law 781 = .ok (.iaload, 1) := by decide +kernel
theorem dL_law_782 : decode cL_law 782 = .ok (.aload_n 0, 1) := by decide +kernel
theorem dL_law_783 : decode cL_law 783 = .ok (.iload 5, 2) := by decide +kernel
theorem dL_law_785 : decode cL_law 785 = .ok (.iconst 2, 1) := by decide +kernel
theorem dL_law_786 : decode cL_law 786 = .ok (.iadd, 1) := by decide +kernel
theorem dL_law_787 : decode cL_law 787 = .ok (.iaload, 1) := by decide +kernel
theorem dL_law_788 : decode cL_law 788 = .ok (.invokevirtual 123, 3) := by decide +kernel
theorem dL_law_791 : decode cL_law 791 = .ok (.istore 7, 2) := by decide +kernel
theorem dL_law_793 : decode cL_law 793 = .ok (.aload_n 2, 1) := by decide +kernel
theorem dL_law_794 : decode cL_law 794 = .ok (.invokevirtual 91, 3) := by decide +kernel
theorem dL_law_797 : decode cL_law 797 = .ok (.iload 6, 2) := by decide +kernel
theorem dL_law_799 : decode cL_law 799 = .ok (.if_icmp .eq 5, 3) := by decide +kernel
theorem dL_law_802 : decode cL_law 802 = .ok (.iconst 0, 1) := by decide +kernel
theorem dL_law_803 : decode cL_law 803 = .ok (.ireturn, 1) := by decide +kernel
theorem dL_law_804 : decode cL_law 804 = .ok (.iload 6, 2) := by decide +kernel
theorem dL_law_806 : decode cL_law 806 = .ok (.ifCond .ne 15, 3) := by decide +kernel
theorem dL_law_809 : decode cL_law 809 = .ok (.aload_n 3, 1) := by decide +kernel
theorem dL_law_810 : decode cL_law 810 = .ok (.iconst 0, 1) := by decide +kernel
theorem dL_law_811 : decode cL_law 811 = .ok (.laload, 1) := by decide +kernel
theorem dL_law_812 : decode cL_law 812 = .ok (.iload 7, 2) := by decide +kernel
theorem dL_law_814 : decode cL_law 814 = .ok (.i2l, 1) := by decide +kernel
theorem dL_law_815 : decode cL_law 815 = .ok (.lcmp, 1) := by decide +kernel
theorem dL_law_816 : decode cL_law 816 = .ok (.ifCond .eq 5, 3) := by decide +kernel
theorem dL_law_819 : decode cL_law 819 = .ok (.iconst 0, 1) := by decide +kernel
theorem dL_law_820 : decode cL_law 820 = .ok (.ireturn, 1) := by decide +kernel
theorem dL_law_821 : decode cL_law 821 = .ok (.goto 709, 3) := by decide +kernel
theorem dL_law_824 : decode cL_law 824 = .ok (.aload_n 1, 1) := by decide +kernel
theorem dL_law_825 : decode cL_law 825 = .ok (.aload_n 0, 1) := by decide +kernel
theorem dL_law_826 : decode cL_law 826 = .ok (.iload 5, 2) := by decide +kernel
theorem dL_law_828 : decode cL_law 828 = .ok (.iconst 1, 1) := by decide +kernel
theorem dL_law_829 : decode cL_law 829 = .ok (.iadd, 1) := by decide +kernel
theorem dL_law_830 : decode cL_law 830 = .ok (.iaload, 1) := by decide +kernel
theorem dL_law_831 : decode cL_law 831 = .ok (.aload_n 0, 1) := by decide +kernel
theorem dL_law_832 : decode cL_law 832 = .ok (.iload 5, 2) := by decide +kernel
theorem dL_law_834 : decode cL_law 834 = .ok (.iconst 2, 1) := by decide +kernel
theorem dL_law_835 : decode cL_law 835 = .ok (.iadd, 1) := by decide +kernel
theorem dL_law_836 : decode cL_law 836 = .ok (.iaload, 1) := by decide +kernel
theorem dL_law_837 : decode cL_law 837 = .ok (.aload_n 3, 1) := by decide +kernel
theorem dL_law_838 : decode cL_law 838 = .ok (.invokestatic 124, 3) := by decide +kernel
theorem dL_law_841 : decode cL_law 841 = .ok (.istore 6, 2) := by decide +kernel
theorem dL_law_843 : decode cL_law 843 = .ok (.aload_n 2, 1) := by decide +kernel
theorem dL_law_844 : decode cL_law 844 = .ok (.aload_n 0, 1) := by decide +kernel
theorem dL_law_845 : decode cL_law 845 = .ok (.iload 5, 2) := by decide +kernel
theorem dL_law_847 : decode cL_law 847 = .ok (.iconst 1, 1) := by decide +kernel
theorem dL_law_848 : decode cL_law 848 = .ok (.iadd, 1) := by decide +kernel
theorem dL_law_849 : decode cL_law 849 = .ok (.iaload, 1) := by decide +kernel
theorem dL_law_850 : decode cL_law 850 = .ok (.aload_n 0, 1) := by decide +kernel
theorem dL_law_851 : decode cL_law 851 = .ok (.iload 5, 2) := by decide +kernel
theorem dL_law_853 : decode cL_law 853 = .ok (.iconst 2, 1) := by decide +kernel
theorem dL_law_854 : decode cL_law 854 = .ok (.iadd, 1) := by decide +kernel
theorem dL_law_855 : decode cL_law 855 = .ok (.iaload, 1) := by decide +kernel
theorem dL_law_856 : decode cL_law 856 = .ok (.invokevirtual 126, 3) := by decide +kernel
theorem dL_law_859 : decode cL_law 859 = .ok (.istore 7, 2) := by decide +kernel
theorem dL_law_861 : decode cL_law 861 = .ok (.aload_n 2, 1) := by decide +kernel
theorem dL_law_862 : decode cL_law 862 = .ok (.invokevirtual 91, 3) := by decide +kernel
theorem dL_law_865 : decode cL_law 865 = .ok (.iload 6, 2) := by decide +kernel
theorem dL_law_867 : decode cL_law 867 = .ok (.if_icmp .eq 5, 3) := by decide +kernel
theorem dL_law_870 : decode cL_law 870 = .ok (.iconst 0, 1) := by decide +kernel
theorem dL_law_871 : decode cL_law 871 = .ok (.ireturn, 1) := by decide +kernel
theorem dL_law_872 : decode cL_law 872 = .ok (.iload 6, 2) := by decide +kernel
theorem dL_law_874 : decode cL_law 874 = .ok (.ifCond .ne 15, 3) := by decide +kernel
theorem dL_law_877 : decode cL_law 877 = .ok (.aload_n 3, 1) := by decide +kernel
theorem dL_law_878 : decode cL_law 878 = .ok (.iconst 0, 1) := by decide +kernel
theorem dL_law_879 : decode cL_law 879 = .ok (.laload, 1) := by decide +kernel
theorem dL_law_880 : decode cL_law 880 = .ok (.iload 7, 2) := by decide +kernel
theorem dL_law_882 : decode cL_law 882 = .ok (.i2l, 1) := by decide +kernel
theorem dL_law_883 : decode cL_law 883 = .ok (.lcmp, 1) := by decide +kernel
theorem dL_law_884 : decode cL_law 884 = .ok (.ifCond .eq 5, 3) := by decide +kernel
theorem dL_law_887 : decode cL_law 887 = .ok (.iconst 0, 1) := by decide +kernel
theorem dL_law_888 : decode cL_law 888 = .ok (.ireturn, 1) := by decide +kernel
theorem dL_law_889 : decode cL_law 889 = .ok (.goto 641, 3) := by decide +kernel
theorem dL_law_892 : decode cL_law 892 = .ok (.aload_n 1, 1) := by decide +kernel
theorem dL_law_893 : decode cL_law 893 = .ok (.aload_n 0, 1) := by decide +kernel
theorem dL_law_894 : decode cL_law 894 = .ok (.iload 5, 2) := by decide +kernel
theorem dL_law_896 : decode cL_law 896 = .ok (.iconst 1, 1) := by decide +kernel
theorem dL_law_897 : decode cL_law 897 = .ok (.iadd, 1) := by decide +kernel
theorem dL_law_898 : decode cL_law 898 = .ok (.iaload, 1) := by decide +kernel
theorem dL_law_899 : decode cL_law 899 = .ok (.aload 4, 2) := by decide +kernel
theorem dL_law_901 : decode cL_law 901 = .ok (.invokestatic 127, 3) := by decide +kernel
theorem dL_law_904 : decode cL_law 904 = .ok (.istore 6, 2) := by decide +kernel
theorem dL_law_906 : decode cL_law 906 = .ok (.aload_n 2, 1) := by decide +kernel
theorem dL_law_907 : decode cL_law 907 = .ok (.aload_n 0, 1) := by decide +kernel
theorem dL_law_908 : decode cL_law 908 = .ok (.iload 5, 2) := by decide +kernel
theorem dL_law_910 : decode cL_law 910 = .ok (.iconst 1, 1) := by decide +kernel
theorem dL_law_911 : decode cL_law 911 = .ok (.iadd, 1) := by decide +kernel
theorem dL_law_912 : decode cL_law 912 = .ok (.iaload, 1) := by decide +kernel
theorem dL_law_913 : decode cL_law 913 = .ok (.invokevirtual 130, 3) := by decide +kernel
theorem dL_law_916 : decode cL_law 916 = .ok (.dstore 7, 2) := by decide +kernel
theorem dL_law_918 : decode cL_law 918 = .ok (.aload_n 2, 1) := by decide +kernel
theorem dL_law_919 : decode cL_law 919 = .ok (.invokevirtual 91, 3) := by decide +kernel
theorem dL_law_922 : decode cL_law 922 = .ok (.iload 6, 2) := by decide +kernel
theorem dL_law_924 : decode cL_law 924 = .ok (.if_icmp .eq 5, 3) := by decide +kernel
theorem dL_law_927 : decode cL_law 927 = .ok (.iconst 0, 1) := by decide +kernel
theorem dL_law_928 : decode cL_law 928 = .ok (.ireturn, 1) := by decide +kernel
theorem dL_law_929 : decode cL_law 929 = .ok (.iload 6, 2) := by decide +kernel
theorem dL_law_931 : decode cL_law 931 = .ok (.ifCond .ne 35, 3) := by decide +kernel
theorem dL_law_934 : decode cL_law 934 = .ok (.aload 4, 2) := by decide +kernel
theorem dL_law_936 : decode cL_law 936 = .ok (.iconst 0, 1) := by decide +kernel
theorem dL_law_937 : decode cL_law 937 = .ok (.daload, 1) := by decide +kernel
theorem dL_law_938 : decode cL_law 938 = .ok (.dload 7, 2) := by decide +kernel
theorem dL_law_940 : decode cL_law 940 = .ok (.dcmp .l, 1) := by decide +kernel
theorem dL_law_941 : decode cL_law 941 = .ok (.ifCond .eq 25, 3) := by decide +kernel
theorem dL_law_944 : decode cL_law 944 = .ok (.aload 4, 2) := by decide +kernel
theorem dL_law_946 : decode cL_law 946 = .ok (.iconst 0, 1) := by decide +kernel
theorem dL_law_947 : decode cL_law 947 = .ok (.daload, 1) := by decide +kernel
theorem dL_law_948 : decode cL_law 948 = .ok (.aload 4, 2) := by decide +kernel
theorem dL_law_950 : decode cL_law 950 = .ok (.iconst 0, 1) := by decide +kernel
theorem dL_law_951 : decode cL_law 951 = .ok (.daload, 1) := by decide +kernel
theorem dL_law_952 : decode cL_law 952 = .ok (.dcmp .l, 1) := by decide +kernel
theorem dL_law_953 : decode cL_law 953 = .ok (.ifCond .eq 11, 3) := by decide +kernel
theorem dL_law_956 : decode cL_law 956 = .ok (.dload 7, 2) := by decide +kernel
theorem dL_law_958 : decode cL_law 958 = .ok (.dload 7, 2) := by decide +kernel
theorem dL_law_960 : decode cL_law 960 = .ok (.dcmp .l, 1) := by decide +kernel
theorem dL_law_961 : decode cL_law 961 = .ok (.ifCond .ne 5, 3) := by decide +kernel
theorem dL_law_964 : decode cL_law 964 = .ok (.iconst 0, 1) := by decide +kernel
theorem dL_law_965 : decode cL_law 965 = .ok (.ireturn, 1) := by decide +kernel
theorem dL_law_966 : decode cL_law 966 = .ok (.goto 564, 3) := by decide +kernel
theorem dL_law_969 : decode cL_law 969 = .ok (.aload_n 1, 1) := by decide +kernel
theorem dL_law_970 : decode cL_law 970 = .ok (.aload_n 0, 1) := by decide +kernel
theorem dL_law_971 : decode cL_law 971 = .ok (.iload 5, 2) := by decide +kernel
theorem dL_law_973 : decode cL_law 973 = .ok (.iconst 1, 1) := by decide +kernel
theorem dL_law_974 : decode cL_law 974 = .ok (.iadd, 1) := by decide +kernel
theorem dL_law_975 : decode cL_law 975 = .ok (.iaload, 1) := by decide +kernel
theorem dL_law_976 : decode cL_law 976 = .ok (.aload_n 0, 1) := by decide +kernel
theorem dL_law_977 : decode cL_law 977 = .ok (.iload 5, 2) := by decide +kernel
theorem dL_law_979 : decode cL_law 979 = .ok (.iconst 2, 1) := by decide +kernel
theorem dL_law_980 : decode cL_law 980 = .ok (.iadd, 1) := by decide +kernel
theorem dL_law_981 : decode cL_law 981 = .ok (.iaload, 1) := by decide +kernel
theorem dL_law_982 : decode cL_law 982 = .ok (.aload_n 3, 1) := by decide +kernel
theorem dL_law_983 : decode cL_law 983 = .ok (.invokestatic 131, 3) := by decide +kernel
theorem dL_law_986 : decode cL_law 986 = .ok (.istore 6, 2) := by decide +kernel
theorem dL_law_988 : decode cL_law 988 = .ok (.aload_n 2, 1) := by decide +kernel
theorem dL_law_989 : decode cL_law 989 = .ok (.aload_n 0, 1) := by decide +kernel
theorem dL_law_990 : decode cL_law 990 = .ok (.iload 5, 2) := by decide +kernel
theorem dL_law_992 : decode cL_law 992 = .ok (.iconst 1, 1) := by decide +kernel
theorem dL_law_993 : decode cL_law 993 = .ok (.iadd, 1) := by decide +kernel
theorem dL_law_994 : decode cL_law 994 = .ok (.iaload, 1) := by decide +kernel
theorem dL_law_995 : decode cL_law 995 = .ok (.aload_n 0, 1) := by decide +kernel
theorem dL_law_996 : decode cL_law 996 = .ok (.iload 5, 2) := by decide +kernel
theorem dL_law_998 : decode cL_law 998 = .ok (.iconst 2, 1) := by decide +kernel
theorem dL_law_999 : decode cL_law 999 = .ok (.iadd, 1) := by decide +kernel
theorem dL_law_1000 : decode cL_law 1000 = .ok (.iaload, 1) := by decide +kernel
theorem dL_law_1001 : decode cL_law 1001 = .ok (.invokevirtual 133, 3) := by decide +kernel
theorem dL_law_1004 : decode cL_law 1004 = .ok (.istore 7, 2) := by decide +kernel
theorem dL_law_1006 : decode cL_law 1006 = .ok (.aload_n 2, 1) := by decide +kernel
theorem dL_law_1007 : decode cL_law 1007 = .ok (.invokevirtual 91, 3) := by decide +kernel
theorem dL_law_1010 : decode cL_law 1010 = .ok (.iload 6, 2) := by decide +kernel
theorem dL_law_1012 : decode cL_law 1012 = .ok (.if_icmp .eq 5, 3) := by decide +kernel
theorem dL_law_1015 : decode cL_law 1015 = .ok (.iconst 0, 1) := by decide +kernel
theorem dL_law_1016 : decode cL_law 1016 = .ok (.ireturn, 1) := by decide +kernel
theorem dL_law_1017 : decode cL_law 1017 = .ok (.iload 6, 2) := by decide +kernel
theorem dL_law_1019 : decode cL_law 1019 = .ok (.ifCond .ne 15, 3) := by decide +kernel
theorem dL_law_1022 : decode cL_law 1022 = .ok (.aload_n 3, 1) := by decide +kernel
theorem dL_law_1023 : decode cL_law 1023 = .ok (.iconst 0, 1) := by decide +kernel
theorem dL_law_1024 : decode cL_law 1024 = .ok (.laload, 1) := by decide +kernel
theorem dL_law_1025 : decode cL_law 1025 = .ok (.iload 7, 2) := by decide +kernel
theorem dL_law_1027 : decode cL_law 1027 = .ok (.i2l, 1) := by decide +kernel
theorem dL_law_1028 : decode cL_law 1028 = .ok (.lcmp, 1) := by decide +kernel
theorem dL_law_1029 : decode cL_law 1029 = .ok (.ifCond .eq 5, 3) := by decide +kernel
theorem dL_law_1032 : decode cL_law 1032 = .ok (.iconst 0, 1) := by decide +kernel
theorem dL_law_1033 : decode cL_law 1033 = .ok (.ireturn, 1) := by decide +kernel
theorem dL_law_1034 : decode cL_law 1034 = .ok (.goto 496, 3) := by decide +kernel
theorem dL_law_1037 : decode cL_law 1037 = .ok (.aload_n 1, 1) := by decide +kernel
theorem dL_law_1038 : decode cL_law 1038 = .ok (.aload_n 0, 1) := by decide +kernel
theorem dL_law_1039 : decode cL_law 1039 = .ok (.iload 5, 2) := by decide +kernel
theorem dL_law_1041 : decode cL_law 1041 = .ok (.iconst 1, 1) := by decide +kernel
theorem dL_law_1042 : decode cL_law 1042 = .ok (.iadd, 1) := by decide +kernel
theorem dL_law_1043 : decode cL_law 1043 = .ok (.iaload, 1) := by decide +kernel
theorem dL_law_1044 : decode cL_law 1044 = .ok (.aload_n 3, 1) := by decide +kernel
theorem dL_law_1045 : decode cL_law 1045 = .ok (.invokestatic 134, 3) := by decide +kernel
theorem dL_law_1048 : decode cL_law 1048 = .ok (.istore 6, 2) := by decide +kernel
theorem dL_law_1050 : decode cL_law 1050 = .ok (.aload_n 2, 1) := by decide +kernel
theorem dL_law_1051 : decode cL_law 1051 = .ok (.aload_n 0, 1) := by decide +kernel
theorem dL_law_1052 : decode cL_law 1052 = .ok (.iload 5, 2) := by decide +kernel
theorem dL_law_1054 : decode cL_law 1054 = .ok (.iconst 1, 1) := by decide +kernel
theorem dL_law_1055 : decode cL_law 1055 = .ok (.iadd, 1) := by decide +kernel
theorem dL_law_1056 : decode cL_law 1056 = .ok (.iaload, 1) := by decide +kernel
theorem dL_law_1057 : decode cL_law 1057 = .ok (.invokevirtual 136, 3) := by decide +kernel
theorem dL_law_1060 : decode cL_law 1060 = .ok (.istore 7, 2) := by decide +kernel
theorem dL_law_1062 : decode cL_law 1062 = .ok (.aload_n 2, 1) := by decide +kernel
theorem dL_law_1063 : decode cL_law 1063 = .ok (.invokevirtual 91, 3) := by decide +kernel
theorem dL_law_1066 : decode cL_law 1066 = .ok (.iload 6, 2) := by decide +kernel
theorem dL_law_1068 : decode cL_law 1068 = .ok (.if_icmp .eq 5, 3) := by decide +kernel
theorem dL_law_1071 : decode cL_law 1071 = .ok (.iconst 0, 1) := by decide +kernel
theorem dL_law_1072 : decode cL_law 1072 = .ok (.ireturn, 1) := by decide +kernel
theorem dL_law_1073 : decode cL_law 1073 = .ok (.iload 6, 2) := by decide +kernel
theorem dL_law_1075 : decode cL_law 1075 = .ok (.ifCond .ne 15, 3) := by decide +kernel
theorem dL_law_1078 : decode cL_law 1078 = .ok (.aload_n 3, 1) := by decide +kernel
theorem dL_law_1079 : decode cL_law 1079 = .ok (.iconst 0, 1) := by decide +kernel
theorem dL_law_1080 : decode cL_law 1080 = .ok (.laload, 1) := by decide +kernel
theorem dL_law_1081 : decode cL_law 1081 = .ok (.iload 7, 2) := by decide +kernel
theorem dL_law_1083 : decode cL_law 1083 = .ok (.i2l, 1) := by decide +kernel
theorem dL_law_1084 : decode cL_law 1084 = .ok (.lcmp, 1) := by decide +kernel
theorem dL_law_1085 : decode cL_law 1085 = .ok (.ifCond .eq 5, 3) := by decide +kernel
theorem dL_law_1088 : decode cL_law 1088 = .ok (.iconst 0, 1) := by decide +kernel
theorem dL_law_1089 : decode cL_law 1089 = .ok (.ireturn, 1) := by decide +kernel
theorem dL_law_1090 : decode cL_law 1090 = .ok (.goto 440, 3) := by decide +kernel
theorem dL_law_1093 : decode cL_law 1093 = .ok (.aload_n 1, 1) := by decide +kernel
theorem dL_law_1094 : decode cL_law 1094 = .ok (.aload_n 0, 1) := by decide +kernel
theorem dL_law_1095 : decode cL_law 1095 = .ok (.iload 5, 2) := by decide +kernel
theorem dL_law_1097 : decode cL_law 1097 = .ok (.iconst 1, 1) := by decide +kernel
theorem dL_law_1098 : decode cL_law 1098 = .ok (.iadd, 1) := by decide +kernel
theorem dL_law_1099 : decode cL_law 1099 = .ok (.iaload, 1) := by decide +kernel
theorem dL_law_1100 : decode cL_law 1100 = .ok (.aload_n 0, 1) := by decide +kernel
theorem dL_law_1101 : decode cL_law 1101 = .ok (.iload 5, 2) := by decide +kernel
theorem dL_law_1103 : decode cL_law 1103 = .ok (.iconst 2, 1) := by decide +kernel
theorem dL_law_1104 : decode cL_law 1104 = .ok (.iadd, 1) := by decide +kernel
theorem dL_law_1105 : decode cL_law 1105 = .ok (.iaload, 1) := by decide +kernel
theorem dL_law_1106 : decode cL_law 1106 = .ok (.aload_n 3, 1) := by decide +kernel
theorem dL_law_1107 : decode cL_law 1107 = .ok (.invokestatic 137, 3) := by decide +kernel
theorem dL_law_1110 : decode cL_law 1110 = .ok (.istore 6, 2) := by decide +kernel
theorem dL_law_1112 : decode cL_law 1112 = .ok (.aload_n 2, 1) := by decide +kernel
theorem dL_law_1113 : decode cL_law 1113 = .ok (.aload_n 0, 1) := by decide +kernel
theorem dL_law_1114 : decode cL_law 1114 = .ok (.iload 5, 2) := by decide +kernel
theorem dL_law_1116 : decode cL_law 1116 = .ok (.iconst 1, 1) := by decide +kernel
theorem dL_law_1117 : decode cL_law 1117 = .ok (.iadd, 1) := by decide +kernel
theorem dL_law_1118 : decode cL_law 1118 = .ok (.iaload, 1) := by decide +kernel
theorem dL_law_1119 : decode cL_law 1119 = .ok (.aload_n 0, 1) := by decide +kernel
theorem dL_law_1120 : decode cL_law 1120 = .ok (.iload 5, 2) := by decide +kernel
theorem dL_law_1122 : decode cL_law 1122 = .ok (.iconst 2, 1) := by decide +kernel
theorem dL_law_1123 : decode cL_law 1123 = .ok (.iadd, 1) := by decide +kernel
theorem dL_law_1124 : decode cL_law 1124 = .ok (.iaload, 1) := by decide +kernel
theorem dL_law_1125 : decode cL_law 1125 = .ok (.invokevirtual 139, 3) := by decide +kernel
theorem dL_law_1128 : decode cL_law 1128 = .ok (.istore 7, 2) := by decide +kernel
theorem dL_law_1130 : decode cL_law 1130 = .ok (.aload_n 2, 1) := by decide +kernel
theorem dL_law_1131 : decode cL_law 1131 = .ok (.invokevirtual 91, 3) := by decide +kernel
theorem dL_law_1134 : decode cL_law 1134 = .ok (.iload 6, 2) := by decide +kernel
theorem dL_law_1136 : decode cL_law 1136 = .ok (.if_icmp .eq 5, 3) := by decide +kernel
theorem dL_law_1139 : decode cL_law 1139 = .ok (.iconst 0, 1) := by decide +kernel
theorem dL_law_1140 : decode cL_law 1140 = .ok (.ireturn, 1) := by decide +kernel
theorem dL_law_1141 : decode cL_law 1141 = .ok (.iload 6, 2) := by decide +kernel
theorem dL_law_1143 : decode cL_law 1143 = .ok (.ifCond .ne 15, 3) := by decide +kernel
theorem dL_law_1146 : decode cL_law 1146 = .ok (.aload_n 3, 1) := by decide +kernel
theorem dL_law_1147 : decode cL_law 1147 = .ok (.iconst 0, 1) := by decide +kernel
theorem dL_law_1148 : decode cL_law 1148 = .ok (.laload, 1) := by decide +kernel
theorem dL_law_1149 : decode cL_law 1149 = .ok (.iload 7, 2) := by decide +kernel
theorem dL_law_1151 : decode cL_law 1151 = .ok (.i2l, 1) := by decide +kernel
theorem dL_law_1152 : decode cL_law 1152 = .ok (.lcmp, 1) := by decide +kernel
theorem dL_law_1153 : decode cL_law 1153 = .ok (.ifCond .eq 5, 3) := by decide +kernel
theorem dL_law_1156 : decode cL_law 1156 = .ok (.iconst 0, 1) := by decide +kernel
theorem dL_law_1157 : decode cL_law 1157 = .ok (.ireturn, 1) := by decide +kernel
theorem dL_law_1158 : decode cL_law 1158 = .ok (.goto 372, 3) := by decide +kernel
theorem dL_law_1161 : decode cL_law 1161 = .ok (.aload_n 1, 1) := by decide +kernel
theorem dL_law_1162 : decode cL_law 1162 = .ok (.aload_n 0, 1) := by decide +kernel
theorem dL_law_1163 : decode cL_law 1163 = .ok (.iload 5, 2) := by decide +kernel
theorem dL_law_1165 : decode cL_law 1165 = .ok (.iconst 1, 1) := by decide +kernel
theorem dL_law_1166 : decode cL_law 1166 = .ok (.iadd, 1) := by decide +kernel
theorem dL_law_1167 : decode cL_law 1167 = .ok (.iaload, 1) := by decide +kernel
theorem dL_law_1168 : decode cL_law 1168 = .ok (.aload_n 0, 1) := by decide +kernel
theorem dL_law_1169 : decode cL_law 1169 = .ok (.iload 5, 2) := by decide +kernel
theorem dL_law_1171 : decode cL_law 1171 = .ok (.iconst 2, 1) := by decide +kernel
theorem dL_law_1172 : decode cL_law 1172 = .ok (.iadd, 1) := by decide +kernel
theorem dL_law_1173 : decode cL_law 1173 = .ok (.iaload, 1) := by decide +kernel
theorem dL_law_1174 : decode cL_law 1174 = .ok (.aload_n 0, 1) := by decide +kernel
theorem dL_law_1175 : decode cL_law 1175 = .ok (.iload 5, 2) := by decide +kernel
theorem dL_law_1177 : decode cL_law 1177 = .ok (.iconst 3, 1) := by decide +kernel
theorem dL_law_1178 : decode cL_law 1178 = .ok (.iadd, 1) := by decide +kernel
theorem dL_law_1179 : decode cL_law 1179 = .ok (.iaload, 1) := by decide +kernel
theorem dL_law_1180 : decode cL_law 1180 = .ok (.aload_n 3, 1) := by decide +kernel
theorem dL_law_1181 : decode cL_law 1181 = .ok (.invokestatic 140, 3) := by decide +kernel
theorem dL_law_1184 : decode cL_law 1184 = .ok (.istore 6, 2) := by decide +kernel
theorem dL_law_1186 : decode cL_law 1186 = .ok (.aload_n 2, 1) := by decide +kernel
theorem dL_law_1187 : decode cL_law 1187 = .ok (.aload_n 0, 1) := by decide +kernel
theorem dL_law_1188 : decode cL_law 1188 = .ok (.iload 5, 2) := by decide +kernel
theorem dL_law_1190 : decode cL_law 1190 = .ok (.iconst 1, 1) := by decide +kernel
theorem dL_law_1191 : decode cL_law 1191 = .ok (.iadd, 1) := by decide +kernel
theorem dL_law_1192 : decode cL_law 1192 = .ok (.iaload, 1) := by decide +kernel
theorem dL_law_1193 : decode cL_law 1193 = .ok (.aload_n 0, 1) := by decide +kernel
theorem dL_law_1194 : decode cL_law 1194 = .ok (.iload 5, 2) := by decide +kernel
theorem dL_law_1196 : decode cL_law 1196 = .ok (.iconst 2, 1) := by decide +kernel
theorem dL_law_1197 : decode cL_law 1197 = .ok (.iadd, 1) := by decide +kernel
theorem dL_law_1198 : decode cL_law 1198 = .ok (.iaload, 1) := by decide +kernel
theorem dL_law_1199 : decode cL_law 1199 = .ok (.aload_n 0, 1) := by decide +kernel
theorem dL_law_1200 : decode cL_law 1200 = .ok (.iload 5, 2) := by decide +kernel
theorem dL_law_1202 : decode cL_law 1202 = .ok (.iconst 3, 1) := by decide +kernel
theorem dL_law_1203 : decode cL_law 1203 = .ok (.iadd, 1) := by decide +kernel
theorem dL_law_1204 : decode cL_law 1204 = .ok (.iaload, 1) := by decide +kernel
theorem dL_law_1205 : decode cL_law 1205 = .ok (.invokevirtual 142, 3) := by decide +kernel
theorem dL_law_1208 : decode cL_law 1208 = .ok (.istore 7, 2) := by decide +kernel
theorem dL_law_1210 : decode cL_law 1210 = .ok (.aload_n 2, 1) := by decide +kernel
theorem dL_law_1211 : decode cL_law 1211 = .ok (.invokevirtual 91, 3) := by decide +kernel
theorem dL_law_1214 : decode cL_law 1214 = .ok (.iload 6, 2) := by decide +kernel
theorem dL_law_1216 : decode cL_law 1216 = .ok (.if_icmp .eq 5, 3) := by decide +kernel
theorem dL_law_1219 : decode cL_law 1219 = .ok (.iconst 0, 1) := by decide +kernel
theorem dL_law_1220 : decode cL_law 1220 = .ok (.ireturn, 1) := by decide +kernel
theorem dL_law_1221 : decode cL_law 1221 = .ok (.iload 6, 2) := by decide +kernel
theorem dL_law_1223 : decode cL_law 1223 = .ok (.ifCond .ne 15, 3) := by decide +kernel
theorem dL_law_1226 : decode cL_law 1226 = .ok (.aload_n 3, 1) := by decide +kernel
theorem dL_law_1227 : decode cL_law 1227 = .ok (.iconst 0, 1) := by decide +kernel
theorem dL_law_1228 : decode cL_law 1228 = .ok (.laload, 1) := by decide +kernel
theorem dL_law_1229 : decode cL_law 1229 = .ok (.iload 7, 2) := by decide +kernel
theorem dL_law_1231 : decode cL_law 1231 = .ok (.i2l, 1) := by decide +kernel
theorem dL_law_1232 : decode cL_law 1232 = .ok (.lcmp, 1) := by decide +kernel
theorem dL_law_1233 : decode cL_law 1233 = .ok (.ifCond .eq 5, 3) := by decide +kernel
theorem dL_law_1236 : decode cL_law 1236 = .ok (.iconst 0, 1) := by decide +kernel
theorem dL_law_1237 : decode cL_law 1237 = .ok (.ireturn, 1) := by decide +kernel
theorem dL_law_1238 : decode cL_law 1238 = .ok (.goto 292, 3) := by decide +kernel
theorem dL_law_1241 : decode cL_law 1241 = .ok (.aload_n 1, 1) := by decide +kernel
theorem dL_law_1242 : decode cL_law 1242 = .ok (.aload_n 0, 1) := by decide +kernel
theorem dL_law_1243 : decode cL_law 1243 = .ok (.iload 5, 2) := by decide +kernel
theorem dL_law_1245 : decode cL_law 1245 = .ok (.iconst 1, 1) := by decide +kernel
theorem dL_law_1246 : decode cL_law 1246 = .ok (.iadd, 1) := by decide +kernel
theorem dL_law_1247 : decode cL_law 1247 = .ok (.iaload, 1) := by decide +kernel
theorem dL_law_1248 : decode cL_law 1248 = .ok (.aload_n 0, 1) := by decide +kernel
theorem dL_law_1249 : decode cL_law 1249 = .ok (.iload 5, 2) := by decide +kernel
theorem dL_law_1251 : decode cL_law 1251 = .ok (.iconst 2, 1) := by decide +kernel
theorem dL_law_1252 : decode cL_law 1252 = .ok (.iadd, 1) := by decide +kernel
theorem dL_law_1253 : decode cL_law 1253 = .ok (.iaload, 1) := by decide +kernel
theorem dL_law_1254 : decode cL_law 1254 = .ok (.aload_n 0, 1) := by decide +kernel
theorem dL_law_1255 : decode cL_law 1255 = .ok (.iload 5, 2) := by decide +kernel
theorem dL_law_1257 : decode cL_law 1257 = .ok (.iconst 3, 1) := by decide +kernel
theorem dL_law_1258 : decode cL_law 1258 = .ok (.iadd, 1) := by decide +kernel
theorem dL_law_1259 : decode cL_law 1259 = .ok (.iaload, 1) := by decide +kernel
theorem dL_law_1260 : decode cL_law 1260 = .ok (.aload_n 3, 1) := by decide +kernel
theorem dL_law_1261 : decode cL_law 1261 = .ok (.invokestatic 143, 3) := by decide +kernel
theorem dL_law_1264 : decode cL_law 1264 = .ok (.istore 6, 2) := by decide +kernel
theorem dL_law_1266 : decode cL_law 1266 = .ok (.aload_n 2, 1) := by decide +kernel
theorem dL_law_1267 : decode cL_law 1267 = .ok (.aload_n 0, 1) := by decide +kernel
theorem dL_law_1268 : decode cL_law 1268 = .ok (.iload 5, 2) := by decide +kernel
theorem dL_law_1270 : decode cL_law 1270 = .ok (.iconst 1, 1) := by decide +kernel
theorem dL_law_1271 : decode cL_law 1271 = .ok (.iadd, 1) := by decide +kernel
theorem dL_law_1272 : decode cL_law 1272 = .ok (.iaload, 1) := by decide +kernel
theorem dL_law_1273 : decode cL_law 1273 = .ok (.aload_n 0, 1) := by decide +kernel
theorem dL_law_1274 : decode cL_law 1274 = .ok (.iload 5, 2) := by decide +kernel
theorem dL_law_1276 : decode cL_law 1276 = .ok (.iconst 2, 1) := by decide +kernel
theorem dL_law_1277 : decode cL_law 1277 = .ok (.iadd, 1) := by decide +kernel
theorem dL_law_1278 : decode cL_law 1278 = .ok (.iaload, 1) := by decide +kernel
theorem dL_law_1279 : decode cL_law 1279 = .ok (.aload_n 0, 1) := by decide +kernel
theorem dL_law_1280 : decode cL_law 1280 = .ok (.iload 5, 2) := by decide +kernel
theorem dL_law_1282 : decode cL_law 1282 = .ok (.iconst 3, 1) := by decide +kernel
theorem dL_law_1283 : decode cL_law 1283 = .ok (.iadd, 1) := by decide +kernel
theorem dL_law_1284 : decode cL_law 1284 = .ok (.iaload, 1) := by decide +kernel
theorem dL_law_1285 : decode cL_law 1285 = .ok (.invokevirtual 145, 3) := by decide +kernel
theorem dL_law_1288 : decode cL_law 1288 = .ok (.istore 7, 2) := by decide +kernel
theorem dL_law_1290 : decode cL_law 1290 = .ok (.aload_n 2, 1) := by decide +kernel
theorem dL_law_1291 : decode cL_law 1291 = .ok (.invokevirtual 91, 3) := by decide +kernel
theorem dL_law_1294 : decode cL_law 1294 = .ok (.iload 6, 2) := by decide +kernel
theorem dL_law_1296 : decode cL_law 1296 = .ok (.if_icmp .eq 5, 3) := by decide +kernel
theorem dL_law_1299 : decode cL_law 1299 = .ok (.iconst 0, 1) := by decide +kernel
theorem dL_law_1300 : decode cL_law 1300 = .ok (.ireturn, 1) := by decide +kernel
theorem dL_law_1301 : decode cL_law 1301 = .ok (.iload 6, 2) := by decide +kernel
theorem dL_law_1303 : decode cL_law 1303 = .ok (.ifCond .ne 15, 3) := by decide +kernel
theorem dL_law_1306 : decode cL_law 1306 = .ok (.aload_n 3, 1) := by decide +kernel
theorem dL_law_1307 : decode cL_law 1307 = .ok (.iconst 0, 1) := by decide +kernel
theorem dL_law_1308 : decode cL_law 1308 = .ok (.laload, 1) := by decide +kernel
theorem dL_law_1309 : decode cL_law 1309 = .ok (.iload 7, 2) := by decide +kernel
theorem dL_law_1311 : decode cL_law 1311 = .ok (.i2l, 1) := by decide +kernel
theorem dL_law_1312 : decode cL_law 1312 = .ok (.lcmp, 1) := by decide +kernel
theorem dL_law_1313 : decode cL_law 1313 = .ok (.ifCond .eq 5, 3) := by decide +kernel
theorem dL_law_1316 : decode cL_law 1316 = .ok (.iconst 0, 1) := by decide +kernel
theorem dL_law_1317 : decode cL_law 1317 = .ok (.ireturn, 1) := by decide +kernel
theorem dL_law_1318 : decode cL_law 1318 = .ok (.goto 212, 3) := by decide +kernel
theorem dL_law_1321 : decode cL_law 1321 = .ok (.aload_n 1, 1) := by decide +kernel
theorem dL_law_1322 : decode cL_law 1322 = .ok (.invokevirtual 146, 3) := by decide +kernel
theorem dL_law_1325 : decode cL_law 1325 = .ok (.aload_n 2, 1) := by decide +kernel
theorem dL_law_1326 : decode cL_law 1326 = .ok (.invokevirtual 149, 3) := by decide +kernel
theorem dL_law_1329 : decode cL_law 1329 = .ok (.if_icmp .eq 201, 3) := by decide +kernel
theorem dL_law_1332 : decode cL_law 1332 = .ok (.iconst 0, 1) := by decide +kernel
theorem dL_law_1333 : decode cL_law 1333 = .ok (.ireturn, 1) := by decide +kernel
theorem dL_law_1334 : decode cL_law 1334 = .ok (.aload_n 1, 1) := by decide +kernel
theorem dL_law_1335 : decode cL_law 1335 = .ok (.invokevirtual 150, 3) := by decide +kernel
theorem dL_law_1338 : decode cL_law 1338 = .ok (.aload_n 2, 1) := by decide +kernel
theorem dL_law_1339 : decode cL_law 1339 = .ok (.invokevirtual 153, 3) := by decide +kernel
theorem dL_law_1342 : decode cL_law 1342 = .ok (.if_icmp .eq 188, 3) := by decide +kernel
theorem dL_law_1345 : decode cL_law 1345 = .ok (.iconst 0, 1) := by decide +kernel
theorem dL_law_1346 : decode cL_law 1346 = .ok (.ireturn, 1) := by decide +kernel
theorem dL_law_1347 : decode cL_law 1347 = .ok (.aload_n 1, 1) := by decide +kernel
theorem dL_law_1348 : decode cL_law 1348 = .ok (.aload_n 0, 1) := by decide +kernel
theorem dL_law_1349 : decode cL_law 1349 = .ok (.iload 5, 2) := by decide +kernel
theorem dL_law_1351 : decode cL_law 1351 = .ok (.iconst 1, 1) := by decide +kernel
theorem dL_law_1352 : decode cL_law 1352 = .ok (.iadd, 1) := by decide +kernel
theorem dL_law_1353 : decode cL_law 1353 = .ok (.iaload, 1) := by decide +kernel
theorem dL_law_1354 : decode cL_law 1354 = .ok (.aload_n 3, 1) := by decide +kernel
theorem dL_law_1355 : decode cL_law 1355 = .ok (.invokestatic 154, 3) := by decide +kernel
theorem dL_law_1358 : decode cL_law 1358 = .ok (.istore 6, 2) := by decide +kernel
theorem dL_law_1360 : decode cL_law 1360 = .ok (.aload_n 2, 1) := by decide +kernel
theorem dL_law_1361 : decode cL_law 1361 = .ok (.aload_n 0, 1) := by decide +kernel
theorem dL_law_1362 : decode cL_law 1362 = .ok (.iload 5, 2) := by decide +kernel
theorem dL_law_1364 : decode cL_law 1364 = .ok (.iconst 1, 1) := by decide +kernel
theorem dL_law_1365 : decode cL_law 1365 = .ok (.iadd, 1) := by decide +kernel
theorem dL_law_1366 : decode cL_law 1366 = .ok (.iaload, 1) := by decide +kernel
theorem dL_law_1367 : decode cL_law 1367 = .ok (.invokevirtual 156, 3) := by decide +kernel
theorem dL_law_1370 : decode cL_law 1370 = .ok (.istore 7, 2) := by decide +kernel
theorem dL_law_1372 : decode cL_law 1372 = .ok (.aload_n 2, 1) := by decide +kernel
theorem dL_law_1373 : decode cL_law 1373 = .ok (.invokevirtual 91, 3) := by decide +kernel
theorem dL_law_1376 : decode cL_law 1376 = .ok (.iload 6, 2) := by decide +kernel
theorem dL_law_1378 : decode cL_law 1378 = .ok (.if_icmp .eq 5, 3) := by decide +kernel
theorem dL_law_1381 : decode cL_law 1381 = .ok (.iconst 0, 1) := by decide +kernel
theorem dL_law_1382 : decode cL_law 1382 = .ok (.ireturn, 1) := by decide +kernel
theorem dL_law_1383 : decode cL_law 1383 = .ok (.iload 6, 2) := by decide +kernel
theorem dL_law_1385 : decode cL_law 1385 = .ok (.ifCond .ne 15, 3) := by decide +kernel
theorem dL_law_1388 : decode cL_law 1388 = .ok (.aload_n 3, 1) := by decide +kernel
theorem dL_law_1389 : decode cL_law 1389 = .ok (.iconst 0, 1) := by decide +kernel
theorem dL_law_1390 : decode cL_law 1390 = .ok (.laload, 1) := by decide +kernel
theorem dL_law_1391 : decode cL_law 1391 = .ok (.iload 7, 2) := by decide +kernel
theorem dL_law_1393 : decode cL_law 1393 = .ok (.i2l, 1) := by decide +kernel
theorem dL_law_1394 : decode cL_law 1394 = .ok (.lcmp, 1) := by decide +kernel
theorem dL_law_1395 : decode cL_law 1395 = .ok (.ifCond .eq 5, 3) := by decide +kernel
theorem dL_law_1398 : decode cL_law 1398 = .ok (.iconst 0, 1) := by decide +kernel
theorem dL_law_1399 : decode cL_law 1399 = .ok (.ireturn, 1) := by decide +kernel
theorem dL_law_1400 : decode cL_law 1400 = .ok (.goto 130, 3) := by decide +kernel
theorem dL_law_1403 : decode cL_law 1403 = .ok (.aload_n 1, 1) := by decide +kernel
theorem dL_law_1404 : decode cL_law 1404 = .ok (.invokevirtual 157, 3) := by decide +kernel
theorem dL_law_1407 : decode cL_law 1407 = .ok (.aload_n 2, 1) := by decide +kernel
theorem dL_law_1408 : decode cL_law 1408 = .ok (.invokevirtual 160, 3) := by decide +kernel
theorem dL_law_1411 : decode cL_law 1411 = .ok (.if_icmp .eq 119, 3) := by decide +kernel
theorem dL_law_1414 : decode cL_law 1414 = .ok (.iconst 0, 1) := by decide +kernel
theorem dL_law_1415 : decode cL_law 1415 = .ok (.ireturn, 1) := by decide +kernel
theorem dL_law_1416 : decode cL_law 1416 = .ok (.aload_n 1, 1) := by decide +kernel
theorem dL_law_1417 : decode cL_law 1417 = .ok (.aload_n 0, 1) := by decide +kernel
theorem dL_law_1418 : decode cL_law 1418 = .ok (.iload 5, 2) := by decide +kernel
theorem dL_law_1420 : decode cL_law 1420 = .ok (.iconst 1, 1) := by decide +kernel
theorem dL_law_1421 : decode cL_law 1421 = .ok (.iadd, 1) := by decide +kernel
theorem dL_law_1422 : decode cL_law 1422 = .ok (.iaload, 1) := by decide +kernel
theorem dL_law_1423 : decode cL_law 1423 = .ok (.aload_n 3, 1) := by decide +kernel
theorem dL_law_1424 : decode cL_law 1424 = .ok (.invokestatic 161, 3) := by decide +kernel
theorem dL_law_1427 : decode cL_law 1427 = .ok (.istore 6, 2) := by decide +kernel
theorem dL_law_1429 : decode cL_law 1429 = .ok (.aload_n 2, 1) := by decide +kernel
theorem dL_law_1430 : decode cL_law 1430 = .ok (.aload_n 0, 1) := by decide +kernel
theorem dL_law_1431 : decode cL_law 1431 = .ok (.iload 5, 2) := by decide +kernel
theorem dL_law_1433 : decode cL_law 1433 = .ok (.iconst 1, 1) := by decide +kernel
theorem dL_law_1434 : decode cL_law 1434 = .ok (.iadd, 1) := by decide +kernel
theorem dL_law_1435 : decode cL_law 1435 = .ok (.iaload, 1) := by decide +kernel
theorem dL_law_1436 : decode cL_law 1436 = .ok (.invokevirtual 163, 3) := by decide +kernel
theorem dL_law_1439 : decode cL_law 1439 = .ok (.istore 7, 2) := by decide +kernel
theorem dL_law_1441 : decode cL_law 1441 = .ok (.aload_n 2, 1) := by decide +kernel
theorem dL_law_1442 : decode cL_law 1442 = .ok (.invokevirtual 91, 3) := by decide +kernel
theorem dL_law_1445 : decode cL_law 1445 = .ok (.iload 6, 2) := by decide +kernel
theorem dL_law_1447 : decode cL_law 1447 = .ok (.if_icmp .eq 5, 3) := by decide +kernel
theorem dL_law_1450 : decode cL_law 1450 = .ok (.iconst 0, 1) := by decide +kernel
theorem dL_law_1451 : decode cL_law 1451 = .ok (.ireturn, 1) := by decide +kernel
theorem dL_law_1452 : decode cL_law 1452 = .ok (.iload 6, 2) := by decide +kernel
theorem dL_law_1454 : decode cL_law 1454 = .ok (.ifCond .ne 15, 3) := by decide +kernel
theorem dL_law_1457 : decode cL_law 1457 = .ok (.aload_n 3, 1) := by decide +kernel
theorem dL_law_1458 : decode cL_law 1458 = .ok (.iconst 0, 1) := by decide +kernel
theorem dL_law_1459 : decode cL_law 1459 = .ok (.laload, 1) := by decide +kernel
theorem dL_law_1460 : decode cL_law 1460 = .ok (.iload 7, 2) := by decide +kernel
theorem dL_law_1462 : decode cL_law 1462 = .ok (.i2l, 1) := by decide +kernel
theorem dL_law_1463 : decode cL_law 1463 = .ok (.lcmp, 1) := by decide +kernel
theorem dL_law_1464 : decode cL_law 1464 = .ok (.ifCond .eq 5, 3) := by decide +kernel
theorem dL_law_1467 : decode cL_law 1467 = .ok (.iconst 0, 1) := by decide +kernel
theorem dL_law_1468 : decode cL_law 1468 = .ok (.ireturn, 1) := by decide +kernel
theorem dL_law_1469 : decode cL_law 1469 = .ok (.goto 61, 3) := by decide +kernel
theorem dL_law_1472 : decode cL_law 1472 = .ok (.aload_n 1, 1) := by decide +kernel
theorem dL_law_1473 : decode cL_law 1473 = .ok (.aload_n 3, 1) := by decide +kernel
theorem dL_law_1474 : decode cL_law 1474 = .ok (.invokestatic 164, 3) := by decide +kernel
theorem dL_law_1477 : decode cL_law 1477 = .ok (.istore 6, 2) := by decide +kernel
theorem dL_law_1479 : decode cL_law 1479 = .ok (.aload_n 2, 1) := by decide +kernel
theorem dL_law_1480 : decode cL_law 1480 = .ok (.invokevirtual 167, 3) := by decide +kernel
theorem dL_law_1483 : decode cL_law 1483 = .ok (.istore 7, 2) := by decide +kernel
theorem dL_law_1485 : decode cL_law 1485 = .ok (.aload_n 2, 1) := by decide +kernel
theorem dL_law_1486 : decode cL_law 1486 = .ok (.invokevirtual 91, 3) := by decide +kernel
theorem dL_law_1489 : decode cL_law 1489 = .ok (.iload 6, 2) := by decide +kernel
theorem dL_law_1491 : decode cL_law 1491 = .ok (.if_icmp .eq 5, 3) := by decide +kernel
theorem dL_law_1494 : decode cL_law 1494 = .ok (.iconst 0, 1) := by decide +kernel
theorem dL_law_1495 : decode cL_law 1495 = .ok (.ireturn, 1) := by decide +kernel
theorem dL_law_1496 : decode cL_law 1496 = .ok (.iload 6, 2) := by decide +kernel
theorem dL_law_1498 : decode cL_law 1498 = .ok (.ifCond .ne 15, 3) := by decide +kernel
theorem dL_law_1501 : decode cL_law 1501 = .ok (.aload_n 3, 1) := by decide +kernel
theorem dL_law_1502 : decode cL_law 1502 = .ok (.iconst 0, 1) := by decide +kernel
theorem dL_law_1503 : decode cL_law 1503 = .ok (.laload, 1) := by decide +kernel
theorem dL_law_1504 : decode cL_law 1504 = .ok (.iload 7, 2) := by decide +kernel
theorem dL_law_1506 : decode cL_law 1506 = .ok (.i2l, 1) := by decide +kernel
theorem dL_law_1507 : decode cL_law 1507 = .ok (.lcmp, 1) := by decide +kernel
theorem dL_law_1508 : decode cL_law 1508 = .ok (.ifCond .eq 5, 3) := by decide +kernel
theorem dL_law_1511 : decode cL_law 1511 = .ok (.iconst 0, 1) := by decide +kernel
theorem dL_law_1512 : decode cL_law 1512 = .ok (.ireturn, 1) := by decide +kernel
theorem dL_law_1513 : decode cL_law 1513 = .ok (.goto 17, 3) := by decide +kernel
theorem dL_law_1516 : decode cL_law 1516 = .ok (.aload_n 1, 1) := by decide +kernel
theorem dL_law_1517 : decode cL_law 1517 = .ok (.invokevirtual 168, 3) := by decide +kernel
theorem dL_law_1520 : decode cL_law 1520 = .ok (.aload_n 2, 1) := by decide +kernel
theorem dL_law_1521 : decode cL_law 1521 = .ok (.invokevirtual 172, 3) := by decide +kernel
theorem dL_law_1524 : decode cL_law 1524 = .ok (.lcmp, 1) := by decide +kernel
theorem dL_law_1525 : decode cL_law 1525 = .ok (.ifCond .eq 5, 3) := by decide +kernel
theorem dL_law_1528 : decode cL_law 1528 = .ok (.iconst 0, 1) := by decide +kernel
theorem dL_law_1529 : decode cL_law 1529 = .ok (.ireturn, 1) := by decide +kernel
theorem dL_law_1530 : decode cL_law 1530 = .ok (.iinc 5 5, 3) := by decide +kernel
theorem dL_law_1533 : decode cL_law 1533 = .ok (.goto (-1505), 3) := by decide +kernel
theorem dL_law_1536 : decode cL_law 1536 = .ok (.iconst 1, 1) := by decide +kernel
theorem dL_law_1537 : decode cL_law 1537 = .ok (.ireturn, 1) := by decide +kernel
end
section
/-! ===== whole numbers: an int of the machine as the number z that it stands for ===== -/
def iI (z : Int) : Int32 := Int32.ofInt z
abbrev IR (z : Int) : Prop := -2147483648 ≤ z ∧ z < 2147483648
theorem iI_add (a b : Int) : iI a + iI b = iI (a + b) := by unfold iI; exact (Int32.ofInt_add a b).symm
theorem iI_sub (a b : Int) : iI a - iI b = iI (a - b) := by unfold iI; exact (Int32.ofInt_sub a b).symm
theorem iI_mul (a b : Int) : iI a * iI b = iI (a * b) := by unfold iI; exact (Int32.ofInt_mul a b).symm
theorem iI_toInt {z : Int} (h : IR z) : (iI z).toInt = z := by
  unfold iI
  exact Int32.toInt_ofInt_of_le (by have := h.1; simpa using this) (by have := h.2; simpa using this)
theorem iI_self (x : Int32) : iI x.toInt = x := by unfold iI; exact Int32.ofInt_toInt x
theorem iI_IR (x : Int32) : IR x.toInt := ⟨by have := Int32.le_toInt x; simpa using this, by have := Int32.toInt_lt x; simpa using this⟩
theorem iI_lt {a b : Int} (ha : IR a) (hb : IR b) : iI a < iI b ↔ a < b := by rw [Int32.lt_iff_toInt_lt, iI_toInt ha, iI_toInt hb]
theorem iI_le {a b : Int} (ha : IR a) (hb : IR b) : iI a ≤ iI b ↔ a ≤ b := by rw [Int32.le_iff_toInt_le, iI_toInt ha, iI_toInt hb]
theorem iI_eq {a b : Int} (ha : IR a) (hb : IR b) : iI a = iI b ↔ a = b := by
  constructor
  · intro h
    have h2 := congrArg Int32.toInt h
    rwa [iI_toInt ha, iI_toInt hb] at h2
  · intro h; rw [h]
theorem iI_0 : (0 : Int32) = iI 0 := by decide
theorem iI_lt0 {a : Int} (ha : IR a) : iI a < 0 ↔ a < 0 := by rw [iI_0, iI_lt ha (by decide)]
theorem iI_le0 {a : Int} (ha : IR a) : iI a ≤ 0 ↔ a ≤ 0 := by rw [iI_0, iI_le ha (by decide)]
theorem iI_eq0 {a : Int} (ha : IR a) : iI a = 0 ↔ a = 0 := by rw [iI_0, iI_eq ha (by decide)]
theorem iI_nI (n : Nat) : iI n = nI n := by
  unfold iI nI
  first | rfl | exact Int32.ofInt_eq_ofNat | simp
theorem iI_clamp {z : Int} (h0 : 0 ≤ z) (h : z < 2147483648) : (iI z).toNatClampNeg = z.toNat := by
  obtain ⟨n, rfl⟩ := Int.eq_ofNat_of_zero_le h0
  rw [iI_nI, nI_clamp (by omega)]
  omega
theorem iI_in {z : Int} {n : Nat} (h0 : 0 ≤ z) (h : z < n) (hn : n < 2147483648) : vp_in (iI z) n := by
  obtain ⟨k, rfl⟩ := Int.eq_ofNat_of_zero_le h0
  rw [iI_nI]
  exact vp_in_nI (by omega) (by omega)
theorem iI_div {a b : Int} (ha : 0 ≤ a) (ha2 : a < 2147483648) (hb : 0 < b) (hb2 : b < 2147483648) : iI a / iI b = iI (a / b) := by
  obtain ⟨n, rfl⟩ := Int.eq_ofNat_of_zero_le ha
  obtain ⟨k, rfl⟩ := Int.eq_ofNat_of_zero_le (Int.le_of_lt hb)
  rw [iI_nI, iI_nI, pk_div (by omega) (by omega) (by omega), ← iI_nI]
  congr 1
theorem iI_rem {a b : Int} (ha : 0 ≤ a) (ha2 : a < 2147483648) (hb : 0 < b) (hb2 : b < 2147483648) : iI a - iI a / iI b * iI b = iI (a % b) := by
  rw [iI_div ha ha2 hb hb2, iI_mul, iI_sub]
  congr 1
  have := Int.mul_ediv_add_emod a b
  rw [Int.mul_comm] at this
  omega
theorem iI_sh : ∀ k : Nat, k < 32 → ((iI k &&& 31).toBitVec.smod 32).toNat = k := by
  intro k hk
  have : ∀ k : Fin 32, ((iI (k.val : Int) &&& 31).toBitVec.smod 32).toNat = k.val := by decide +kernel
  exact this ⟨k, hk⟩
theorem iI_shr {a : Int} {k : Nat} (h0 : 0 ≤ a) (h : a < 2147483648) (hk : k < 32) : iI a >>> (iI k &&& 31) = iI (a / 2 ^ k) := by
  obtain ⟨n, rfl⟩ := Int.eq_ofNat_of_zero_le h0
  rw [iI_nI n, pk_shrN (by omega) (iI k &&& 31) k (iI_sh k hk), ← iI_nI]
  congr 1
theorem iI_shl {a : Int} {k : Nat} (h0 : 0 ≤ a) (h : a * 2 ^ k < 2147483648) (hk : k < 32) : iI a <<< (iI k &&& 31) = iI (a * 2 ^ k) := by
  obtain ⟨n, rfl⟩ := Int.eq_ofNat_of_zero_le h0
  have h2 : n * 2 ^ k < 2147483648 := by
    have : ((n * 2 ^ k : Nat) : Int) < 2147483648 := by push_cast; exact h
    omega
  rw [iI_nI n, pk_shlN (iI k &&& 31) k (iI_sh k hk) (by omega), ← iI_nI]
  congr 1
theorem iI_andm {a : Int} (h0 : 0 ≤ a) (h : a < 4294967296) (k : Nat) {m : Int32} (hm : m.toBitVec.toNat = 2 ^ k - 1) : iI a &&& m = iI (a % 2 ^ k) := by
  obtain ⟨n, rfl⟩ := Int.eq_ofNat_of_zero_le h0
  rw [iI_nI n, pk_andN (by omega) k hm, ← iI_nI]
  congr 1
theorem iI_and1 {a : Int} (h0 : 0 ≤ a) (h : a < 2147483648) : iI a &&& iI 1 = iI (a % 2) := iI_andm h0 (by omega) 1 (by decide)
theorem iI_and31 (x : Int32) : ∃ j : Nat, j < 32 ∧ x &&& iI 31 = iI j := by
  obtain ⟨j, hj, e⟩ := pk_andE x (m := iI 31) 5 (by decide)
  exact ⟨j, hj, by rw [e, iI_nI]⟩
theorem iI_or01 {a b : Int} (ha : a = 0 ∨ a = 1) (hb : b = 0 ∨ b = 1) : iI a ||| iI b = iI (if a = 0 then b else 1) := by
  rcases ha with rfl | rfl <;> rcases hb with rfl | rfl <;> decide
theorem iI_l {a : Int} (h : IR a) : (iI a).toInt64 = Int64.ofInt a := by
  have := Int64.ofInt_int32ToInt (iI a)
  rw [iI_toInt h] at this
  exact this.symm
theorem iI_bool (c : Prop) [Decidable c] : (if c then iI 1 else iI 0) = iI (if c then 1 else 0) := by by_cases h : c <;> simp [h]
end
section
/-! ===== THE ENGINE: a judgement over a picture of the heap. Objects are numbered by the order in which they were made since the law began: object i lies at the address B + i. The picture h gives each its contents. ===== -/
abbrev ECell : Type := Nat × Nat × ((Int → Int) ⊕ (Nat → Int64) ⊕ (Nat → UInt64) ⊕ (Int → Option Nat) ⊕ List Value)
abbrev EHp : Type := Nat → ECell
abbrev NB : Type := Nat × Bool
def cI (n : Nat) (f : Int → Int) : ECell := (0, n, .inl f)
def cZ (n : Nat) (f : Int → Int) : ECell := (1, n, .inl f)
def cJ (n : Nat) (f : Nat → Int64) : ECell := (2, n, .inr (.inl f))
def cD (n : Nat) (f : Nat → UInt64) : ECell := (3, n, .inr (.inr (.inl f)))
def cR (t n : Nat) (f : Int → Option Nat) : ECell := (t, n, .inr (.inr (.inr (.inl f))))
def cO (ci : Nat) (fs : List Value) : ECell := (ci, 0, .inr (.inr (.inr (.inr fs))))
/-- a value of the picture, as the machine has it: references by their addresses; a float stands for the script -/
def cv (B b : Nat) : Value → Value
  | .ref i => .ref (B + i)
  | .float _ => .ref b
  | v => v
def ce (tc : Nat → ClassId) (B b : Nat) : ECell → va_E
  | (t, n, .inl f) => .inl (tc t, n, .inl (fun j => iI (f (j : Nat))))
  | (t, n, .inr (.inl f)) => .inl (tc t, n, .inr (.inl f))
  | (t, n, .inr (.inr (.inl f))) => .inl (tc t, n, .inr (.inr (.inr (.inl f))))
  | (t, n, .inr (.inr (.inr (.inl f)))) => .inl (tc t, n, .inr (.inr (.inr (.inr (fun j => (f (j : Nat)).map (B + ·))))))
  | (t, _, .inr (.inr (.inr (.inr fs)))) => .inr (t, fs.map (cv B b))
def wl (tc : Nat → ClassId) (B b N : Nat) (h : EHp) : va_W := (List.range N).map (fun i => (B + i, ce tc B b (h i)))
def ueh (h : EHp) (i : Nat) (c : ECell) : EHp := fun j => if j = i then c else h j
theorem ueh_s {h : EHp} {i : Nat} {c : ECell} : ueh h i c i = c := if_pos rfl
theorem ueh_n {h : EHp} {i j : Nat} {c : ECell} (hn : j ≠ i) : ueh h i c j = h j := if_neg hn
theorem wl_at {tc : Nat → ClassId} {B b N : Nat} {h : EHp} {i : Nat} (hi : i < N) : (wl tc B b N h)[i]? = some (B + i, ce tc B b (h i)) := by
  simp [wl, hi]
theorem wl_get {tc : Nat → ClassId} {B b N : Nat} {h : EHp} {k : Nat} {q : Nat × va_E} (hk : (wl tc B b N h)[k]? = some q) : k < N ∧ q = (B + k, ce tc B b (h k)) := by
  have hl : k < N := by
    have := (List.getElem?_eq_some_iff.mp hk).1
    simpa [wl] using this
  refine ⟨hl, ?_⟩
  rw [wl_at hl] at hk
  exact (Option.some.inj hk).symm
theorem wl_set {tc : Nat → ClassId} {B b N : Nat} {h : EHp} {i : Nat} {c : ECell} : (wl tc B b N h).set i (B + i, ce tc B b c) = wl tc B b N (ueh h i c) := by
  apply List.ext_getElem?
  intro k
  rw [List.getElem?_set]
  by_cases hk : i = k
  · subst hk
    by_cases hl : i < N
    · rw [if_pos rfl, wl_at hl, ueh_s, if_pos (by simpa [wl] using hl)]
    · simp [wl, hl]
  · rw [if_neg hk]
    by_cases hl : k < N
    · rw [wl_at hl, wl_at hl, ueh_n (fun h => hk h.symm)]
    · simp [wl, hl]
theorem wl_push {tc : Nat → ClassId} {B b N : Nat} {h : EHp} {c : ECell} : wl tc B b N h ++ [(B + N, ce tc B b c)] = wl tc B b (N + 1) (ueh h N c) := by
  unfold wl
  rw [List.range_succ, List.map_append]
  congr 1
  · apply List.map_congr_left
    intro i hi
    have : i ≠ N := Nat.ne_of_lt (List.mem_range.mp hi)
    rw [ueh_n this]
  · simp [ueh_s]
theorem wl_D {tc : Nat → ClassId} {B b N : Nat} {h : EHp} : va_D (fun q => B ≤ q) (wl tc B b N h) := by
  refine ⟨fun i j p q hp hq e => ?_, fun k q hk => ?_⟩
  · obtain ⟨-, rfl⟩ := wl_get hp
    obtain ⟨-, rfl⟩ := wl_get hq
    have e' : B + i = B + j := e
    omega
  · obtain ⟨-, rfl⟩ := wl_get hk
    exact Nat.le_add_right _ _
def tyl (tc : Nat → ClassId) : List (ClassId × FieldType) := [(tc 0, .int), (tc 1, .boolean), (tc 2, .long), (tc 3, .double), (tc 4, .object RX4), (tc 5, .object RX6)]
/-- methods: name, code, locals, what it returns, its table -/
abbrev MD : Type := MethodName × ByteArray × Nat × Option FieldType × List (Nat × Nat × Nat × Nat)
abbrev Out : Type := Option Value ⊕ String
abbrev rmo (d mc ms : Nat) : Room := { frames := d, cells := mc, slots := ms, locals := 37 * d }
def strL : List (Nat × String) := [(195, "no such list or index"), (198, "out of range"), (64, "not greater than the last document"), (75, "the list is full"), (142, "the union is too long"), (170, "no saved state")]
abbrev eIO : String := "java/lang/IndexOutOfBoundsException"
abbrev eIA : String := "java/lang/IllegalArgumentException"
abbrev eIS : String := "java/lang/IllegalStateException"
def nwC : List (String × String) := [(eIO, eIO), (eIA, eIA), (eIS, eIS)]
def nwM : List (String × Nat × MethodName × String) := [(RX7, 25, yX3_init, RX7), (RX7, 32, yX1_init, RX7), (RX6, 19, yX0_init, RX7), (RX6, 31, yX4_init, RX7)]
def nwD : List MethodName := [Bundle.initS "java/lang/RuntimeException", Bundle.initS "java/lang/Exception", Bundle.initS "java/lang/Throwable"]
def ncL : List (String × String) := [(eIO, eIA), (eIO, eIS), (eIA, eIO), (eIA, eIS), (eIS, eIO), (eIS, eIA)]
/-- what the machine's tables and old cells give for throws, nest mates and arrays of objects -/
def EV (l : Launch) (B : Nat) (s : State) : Prop :=
  l.stackTraces = false ∧ vx_Zq Bundle.tN "UNASSIGNED_STACK" Bundle.steD (fun q => B ≤ q) s s.heap ∧ vx_Zq Bundle.tN "SUPPRESSED_SENTINEL" Bundle.listD (fun q => B ≤ q) s s.heap ∧
  (∀ q ∈ strL, ∃ sa, vk_R RX7 q.1 q.2 sa s) ∧ (∀ q ∈ nwC, va_Nw (.castable q.1 q.2) s) ∧ (∀ q ∈ nwM, va_Nw (.methodLinkNest q.1 q.2.1 q.2.2.1 q.2.2.2) s) ∧ (∀ q ∈ ncL, va_Nc q.1 q.2 s) ∧ va_AO RX4 s ∧ va_AO RX6 s ∧ (∀ y ∈ nwD, va_Nw (.declares y) s)
theorem EV.warm {l : Launch} {B : Nat} {s U : State} (h : EV l B s) (hW : s.WarmedH U.vm) (hq : ∀ a : Nat, a < s.heap.size → ¬ B ≤ a → U.heap[a]? = s.heap[a]?) : EV l B U := by
  obtain ⟨h1, h2, h3, h4, h5, h6, h7, h8, h9, h10⟩ := h
  refine ⟨h1, vx_Zq.moved hW.alike (h2.kept hq), vx_Zq.moved hW.alike (h3.kept hq), fun q hm => ?_, fun q hm => va_Nw.warmC hW (h5 q hm), fun q hm => va_Nw.warmM hW (h6 q hm), fun q hm => va_Nc.moved hW.alike (h7 q hm), va_AO.moved hW.alike h8, va_AO.moved hW.alike h9, fun y hy => va_Nw.warmD hW (h10 y hy)⟩
  obtain ⟨sa, hs⟩ := h4 q hm
  exact ⟨sa, vk_R.warm hW hs⟩
def PK (D : va_G) (tc : Nat → ClassId) (B b : Nat) (N : NB) (h : EHp) (t : State) : Prop :=
  va_P D vwCl (wl tc B b N.1 h) t.heap ∧ va_K D vwCl (tyl tc) t ∧ B ≤ t.heap.size ∧ (N.2 = true → t.heap.size = B + N.1)
abbrev Post : Type := Out → NB → EHp → Prop
def QQ (D : va_G) (tc : Nat → ClassId) (B b : Nat) (post : Post) : Array Value → State → Outcome → State → Prop := fun _ st oc t =>
  (∃ (r : Option Value) (N : NB) (h : EHp), oc = .returned (r.map (cv B b)) ∧ post (.inl r) N h ∧ PK D tc B b N h t) ∧ va_F (fun q => B ≤ q) st t
def XX (D : va_G) (tc : Nat → ClassId) (B b : Nat) (post : Post) : String → State → State → Prop := fun E st t =>
  (∃ (N : NB) (h : EHp), post (.inr E) N h ∧ PK D tc B b N h t) ∧ va_F (fun q => B ≤ q) st t
def CX (p : Program) (s : State) (m : MethodId) (args : Array Value) (meth : Method) (c : Code) (md : MD) : Prop :=
  p.tables.exec = Jvm.exec ∧ c.code = md.2.1 ∧ c.maxLocals = md.2.2.1 ∧ meth.sig.returnType = md.2.2.2.1 ∧ s.vm.findClass md.1.cls = some m.cls ∧ (∀ w ∈ LT, w.before args s = true) ∧ meth.locks = false ∧ meth.name = md.1.name ∧ c.exceptionTable.toList = tableOf md.2.2.2.2
def HR (D : va_G) (tc : Nat → ClassId) (B b : Nat) (N : NB) (h : EHp) (s : State) (H : Heap) (locs : List Loc) (k : Nat) : Prop :=
  va_K D vwCl (tyl tc) s ∧ va_P D vwCl (wl tc B b N.1 h) H ∧ va_S (fun q => B ≤ q) s.heap H locs ∧ B ≤ s.heap.size ∧ (N.2 = true → s.heap.size + k ≤ B + N.1)
theorem HR.lt {D : va_G} {tc : Nat → ClassId} {B b : Nat} {N : NB} {h : EHp} {s : State} {H : Heap} {locs : List Loc} {k : Nat} (hH : HR D tc B b N h s H locs k) {i : Nat} (hi : i < N.1) : B + i < H.size := (hH.2.1 i _ (wl_at hi)).lt
theorem HR.tight {D : va_G} {tc : Nat → ClassId} {B b : Nat} {N : NB} {h : EHp} {s : State} {H : Heap} {locs : List Loc} {k : Nat} (hH : HR D tc B b N h s H locs k) {T : State} (hT : T.heap = H) (hX : T.heap.size ≤ s.heap.size + k) (hz : N.2 = true) : H.size = B + N.1 := by
  have h1 := hH.2.2.2.2 hz
  rw [hT] at hX
  have h2 : B + N.1 ≤ H.size := by
    cases hn : N.1 with
    | zero =>
      have := hH.2.2.1.1
      have := hH.2.2.2.1
      omega
    | succ j =>
      have := hH.lt (i := j) (by omega)
      omega
  omega
def LR (B b nL : Nat) (al : List (Option Value)) (ls : Array Slot) : Prop :=
  ls.size = nL ∧ lv_wf ls ∧ ∀ (i : Nat) (v : Value), al[i]? = some (some v) → ls[i]? = some (.val (cv B b v))
def rIns : Option Value → Instr
  | none => .return_
  | some (.int _) => .ireturn
  | some (.long _) => .lreturn
  | some (.double _) => .dreturn
  | some _ => .areturn
def rOk (ret : Option FieldType) : Option Value → Prop
  | none => ret = none
  | some (.int v) => ∃ ty, ret = some ty ∧ narrow ty (.int v) = .int v
  | some (.long _) => ret = some .long
  | some (.double _) => ret = some .double
  | some (.ref _) => ∃ n, ret = some (.object n)
  | some _ => False
/-- from this point of the method's body, with these locals, this stack and this picture of the heap, the method ends as 'post' says -/
def G (l : Launch) (X : State → Nat → Nat → Prop) (md : MD) (d mc ms : Nat) (post : Post) (k n pc : Nat) (al : List (Option Value)) (st : List Value) (N : NB) (h : EHp) : Prop :=
  ∀ (p : Program) (e : Env) (s : State) (m : MethodId) (args : Array Value) (below : List Frame) (meth : Method) (c : Code) (D : va_G) (tc : Nat → ClassId) (B b : Nat) (H : Heap) (locs : List Loc) (ls : Array Slot) (Q : State → Prop),
    CX p s m args meth c md → EV l B s → X s B b → HR D tc B b N h s H locs k → LR B b md.2.2.1 al ls →
    (∀ (r : Option Value) (N' : NB) (h' : EHp) (H' : Heap) (locs' : List Loc) (pc' : Nat) (ls' : Array Slot), post (.inl r) N' h' → HR D tc B b N' h' s H' locs' mc → rOk md.2.2.2.1 r → decode md.2.1 pc' = .ok (rIns r, 1) → W p l e (rmo d mc ms) s m args below meth c H' locs' mc ms Q (F0 m pc' ls' (r.map (cv B b)).toList)) →
    (Q = vx_MQ below (QQ D tc B b post) (XX D tc B b post) args s mc ms (fun q => B ≤ q) ∨ ∀ E N' h', ¬ post (.inr E) N' h') →
    W p l e (rmo d mc ms) s m args below meth c H locs k n Q (F0 m pc ls (st.map (cv B b)))
def wsM (md : MD) : List Cond := (match md.2.2.2.2 with
  | [] => Cond.code md.1 md.2.1 md.2.2.1 md.2.2.2.1
  | hh => Cond.codeWith md.1 md.2.1 md.2.2.1 md.2.2.2.1 hh) :: LT
/-- a method's contract over the picture -/
def CT (l : Launch) (md : MD) (d mc ms : Nat) (av : List Value) (N : NB) (h : EHp) (post : Post) : Prop :=
  ∀ (D : va_G) (tc : Nat → ClassId) (B b : Nat), vx_Met l md.1 (wsM md) (rmo d mc ms) (va_Pc (av.map (cv B b)) (fun U => PK D tc B b N h U ∧ EV l B U)) (QQ D tc B b post) (XX D tc B b post) mc ms (fun q => B ≤ q)
def noX : State → Nat → Nat → Prop := fun _ _ _ => True
def lvl : List Value → List (Option Value)
  | [] => []
  | v :: vs => if v.category = 2 then some v :: none :: lvl vs else some v :: lvl vs
theorem cv_cat (B b : Nat) : ∀ v : Value, (cv B b v).category = v.category := by intro v; cases v <;> rfl
theorem lvl_at (B b : Nat) : ∀ (vs : List Value) (i0 i : Nat) (v : Value), (lvl vs)[i]? = some (some v) → (i0 + i, cv B b v) ∈ lv_args i0 (vs.map (cv B b)) := by
  intro vs
  induction vs with
  | nil => intro i0 i v h; simp [lvl] at h
  | cons w vs ih =>
    intro i0 i v h
    unfold lvl at h
    simp only [List.map_cons, lv_args, cv_cat]
    by_cases hc : w.category = 2
    · rw [if_pos hc] at h
      rw [if_pos hc]
      match i, h with
      | 0, h =>
        simp at h
        subst h
        exact List.mem_cons_self
      | 1, h => simp at h
      | i + 2, h =>
        simp at h
        have := ih (i0 + 2) i v h
        refine List.mem_cons_of_mem _ ?_
        rw [show i0 + (i + 2) = i0 + 2 + i by omega]
        exact this
    · rw [if_neg hc] at h
      rw [if_neg hc]
      match i, h with
      | 0, h =>
        simp at h
        subst h
        exact List.mem_cons_self
      | i + 1, h =>
        simp at h
        have := ih (i0 + 1) i v h
        refine List.mem_cons_of_mem _ ?_
        rw [show i0 + (i + 1) = i0 + 1 + i by omega]
        exact this
theorem lvl_pad (vs : List Value) (n : Nat) (i : Nat) (v : Value) (h : (lvl vs ++ List.replicate n none)[i]? = some (some v)) : (lvl vs)[i]? = some (some v) := by
  by_cases hi : i < (lvl vs).length
  · rwa [List.getElem?_append_left hi] at h
  · rw [List.getElem?_append_right (by omega)] at h
    have := List.mem_of_getElem? h
    have := List.eq_of_mem_replicate this
    cases this
theorem G.ret {l : Launch} {p : Program} {e : Env} {s : State} {m : MethodId} {args : Array Value} {below : List Frame} {meth : Method} {c : Code} {D : va_G} {tc : Nat → ClassId} {B b : Nat} {md : MD} {d mc ms : Nat} {post : Post} (hC : CX p s m args meth c md) :
    ∀ (r : Option Value) (N' : NB) (h' : EHp) (H' : Heap) (locs' : List Loc) (pc' : Nat) (ls' : Array Slot), post (.inl r) N' h' → HR D tc B b N' h' s H' locs' mc → rOk md.2.2.2.1 r → decode md.2.1 pc' = .ok (rIns r, 1) → W p l e (rmo d mc ms) s m args below meth c H' locs' mc ms (vx_MQ below (QQ D tc B b post) (XX D tc B b post) args s mc ms (fun q => B ≤ q)) (F0 m pc' ls' (r.map (cv B b)).toList) := by
  intro r N' h' H' locs' pc' ls' hp hH hr hd T hT hX
  have hsz := fun z => hH.tight hT hX.heapSize z
  obtain ⟨hx, hb, -, hrt, -, -, hlk, -, -⟩ := hC
  obtain ⟨hK, hP, hS, hB, -⟩ := hH
  have hq : ∀ t : State, t.heap = H' → s.WarmedH t.vm → QQ D tc B b post args s (.returned (r.map (cv B b))) t := by
    intro t ht hW
    refine ⟨⟨r, N', h', rfl, hp, ?_⟩, hS.F ht⟩
    refine ⟨by rw [ht]; exact hP, va_K.moved hW.alike hK, ?_, by rw [ht]; exact hsz⟩
    rw [ht]; exact Nat.le_trans hB hS.1
  refine vx_ret ?_ T hT hX
  match r, hr, hd, hq with
  | none, hr, hd, hq => exact W.vret hx hb (hrt.trans hr) hq hS.2.2 hd hlk
  | some (.int v), hr, hd, hq =>
    obtain ⟨ty, e1, e2⟩ := hr
    exact W.zret hx hb (hrt.trans e1) e2 hq hS.2.2 hd hlk
  | some (.long v), hr, hd, hq => exact W.lret hx hb (hrt.trans hr) hq hS.2.2 hd hlk
  | some (.double v), hr, hd, hq => exact W.dret hx hb (hrt.trans hr) hq hS.2.2 hd hlk
  | some (.ref v), hr, hd, hq =>
    obtain ⟨n, e1⟩ := hr
    exact W.aret hx hb (hrt.trans e1) (Or.inl ⟨n, rfl⟩) (Or.inr ⟨_, rfl⟩) hq hS.2.2 hd hlk
theorem CT.of {l : Launch} {md : MD} {d mc ms : Nat} {av : List Value} {N : NB} {h : EHp} {post : Post} (hy : plainName md.1.cls = true) (hlen : (lg_sl av).length ≤ md.2.2.1)
    (g : G l noX md d mc ms post 0 0 0 (lvl av ++ List.replicate (md.2.2.1 - (lg_sl av).length) none) [] N h) : CT l md d mc ms av N h post := by
  intro D tc B b
  have hsl : ∀ vs : List Value, (lg_sl (vs.map (cv B b))).length = (lg_sl vs).length := by
    intro vs
    induction vs with
    | nil => rfl
    | cons w vs ih =>
      simp only [lg_sl, List.map_cons, List.flatMap_cons, List.length_append] at ih ⊢
      rw [ih, cv_cat]
      by_cases hc : w.category = 2 <;> simp [hc]
  have body : ∀ (p : Program) (e : Env) (s : State) (m : MethodId) (args : Array Value) (below : List Frame) (meth : Method) (c : Code), CX p s m args meth c md → va_Pc (av.map (cv B b)) (fun U => PK D tc B b N h U ∧ EV l B U) args s → W p l e (rmo d mc ms) s m args below meth c s.heap [] 0 0 (vx_MQ below (QQ D tc B b post) (XX D tc B b post) args s mc ms (fun q => B ≤ q)) (entryFrame m args md.2.2.1) := by
    intro p e s m args below meth c hC hv
    obtain ⟨rfl, hPK, hE⟩ := hv
    obtain ⟨hP, hK, hB, hz⟩ := hPK
    have hl := lv_entry (av.map (cv B b)) (n := md.2.2.1) (by rw [hsl]; exact hlen)
    rw [lg_entry_eq]
    generalize (lg_sl (av.map (cv B b)) ++ List.replicate (md.2.2.1 - (lg_sl (av.map (cv B b))).length) Slot.unset).toArray = ls at hl ⊢
    exact g p e s m _ below meth c D tc B b s.heap [] ls _ hC hE trivial ⟨hK, hP, va_S.rf, hB, fun z => Nat.le_of_eq (hz z)⟩ ⟨hl.1, hl.2.1, fun i v hi => by
      have := lvl_at B b av 0 i v (lvl_pad av _ i v hi)
      rw [Nat.zero_add] at this
      exact hl.2.2 _ this⟩ (G.ret hC) (Or.inl rfl)
  obtain ⟨y, cc, nL, rt, hh⟩ := md
  cases hh with
  | nil =>
    refine vx_ofW (cc := cc) (maxL := nL) (ret := rt) hy rfl ?_
    intro p e s m args below meth c s₁ Bd hml htab hv
    have hts := atoms_spec (ws := wsM (y, cc, nL, rt, [])) Bd.pre
    refine body p e s m args below meth c ⟨Bd.exec, Bd.bytes, hml, Bd.returns, findClass_of_methodNamed Bd.named, fun w hw => hts w (List.mem_cons_of_mem _ hw), Bd.notSynchronized, (name_of_methodNamed Bd.named Bd.method).1, ?_⟩ hv
    have : c.exceptionTable.toList = [] := List.eq_nil_iff_forall_not_mem.mpr (fun x hx => htab x hx)
    rw [this]; rfl
  | cons z hh =>
    refine vx_ofWH (cc := cc) (maxL := nL) (ret := rt) (hh := z :: hh) hy rfl ?_
    intro p e s m args below meth c s₁ Bd hml hv
    have hts := atoms_spec (ws := wsM (y, cc, nL, rt, z :: hh)) Bd.pre
    refine body p e s m args below meth c ⟨Bd.exec, Bd.bytes, hml, Bd.returns, findClass_of_methodNamed Bd.named, fun w hw => hts w (List.mem_cons_of_mem _ hw), Bd.notSynchronized, (name_of_methodNamed Bd.named Bd.method).1, ?_⟩ hv
    exact vx_table (x := y) Bd (hts _ List.mem_cons_self)
end
section
/-! ===== the engine's rows: one for each instruction ===== -/
def asl (B b : Nat) (al : List (Option Value)) : List (Nat × Value) := (List.range al.length).filterMap (fun i => match al[i]? with
  | some (some v) => some (i, cv B b v)
  | _ => none)
theorem asl_mem {B b : Nat} {al : List (Option Value)} {i : Nat} {w : Value} : (i, w) ∈ asl B b al ↔ ∃ v, al[i]? = some (some v) ∧ w = cv B b v := by
  unfold asl
  rw [List.mem_filterMap]
  constructor
  · rintro ⟨j, -, hj⟩
    split at hj
    next v hv =>
      have := Option.some.inj hj
      cases this
      exact ⟨v, hv, rfl⟩
    next => cases hj
  · rintro ⟨v, hv, rfl⟩
    refine ⟨i, List.mem_range.mpr (List.getElem?_eq_some_iff.mp hv).1, ?_⟩
    rw [hv]
theorem LR.has {B b nL : Nat} {al : List (Option Value)} {ls : Array Slot} (h : LR B b nL al ls) : lv_has ls nL (asl B b al) := by
  refine ⟨h.1, h.2.1, fun q hq => ?_⟩
  obtain ⟨i, w⟩ := q
  obtain ⟨v, hv, rfl⟩ := asl_mem.mp hq
  exact h.2.2 i v hv
def okS (al : List (Option Value)) (i : Nat) : Bool := match i with
  | 0 => true
  | j + 1 => match al[j]? with
    | some (some w) => w.category != 2
    | _ => true
theorem okS_not {al : List (Option Value)} {i j : Nat} {v : Value} (h : okS al i = true) (hj : al[j]? = some (some v)) : ¬ (j + 1 = i ∧ v.category = 2) := by
  rintro ⟨rfl, hc⟩
  simp [okS, hj, hc] at h
theorem LR.put1 {B b nL i : Nat} {al : List (Option Value)} {ls : Array Slot} {v : Value} (hk : okS al i = true) (h : lv_has ls nL ((i, cv B b v) :: (asl B b al).filter (fun q => !(q.1 == i) && !(q.1 + 1 == i && q.2.category == 2)))) : LR B b nL (al.set i (some v)) ls := by
  refine ⟨h.1, h.2.1, fun j w hj => ?_⟩
  by_cases e : j = i
  · subst e
    rw [List.getElem?_set_self'] at hj
    have hw : w = v := by
      cases ha : al[j]? with
      | none => rw [ha] at hj; cases hj
      | some x => rw [ha] at hj; simp at hj; exact hj.symm
    subst hw
    exact h.2.2 _ List.mem_cons_self
  · rw [List.getElem?_set_ne (fun z => e z.symm)] at hj
    refine h.2.2 (j, cv B b w) (List.mem_cons_of_mem _ (List.mem_filter.mpr ⟨asl_mem.mpr ⟨w, hj, rfl⟩, ?_⟩))
    have := okS_not hk hj
    simp only [cv_cat]
    by_cases hc : w.category = 2
    · have : ¬ j + 1 = i := fun z => this ⟨z, hc⟩
      simp [e, this]
    · simp [e, hc]
theorem LR.put2 {B b nL i : Nat} {al : List (Option Value)} {ls : Array Slot} {v : Value} (hk : okS al i = true) (h : lv_has ls nL ((i, cv B b v) :: (asl B b al).filter (fun q => !(q.1 == i) && (!(q.1 == i + 1) && !(q.1 + 1 == i && q.2.category == 2))))) : LR B b nL ((al.set i (some v)).set (i + 1) none) ls := by
  refine ⟨h.1, h.2.1, fun j w hj => ?_⟩
  by_cases e1 : j = i + 1
  · subst e1
    rw [List.getElem?_set_self'] at hj
    cases ha : (al.set i (some v))[i + 1]? with
    | none => rw [ha] at hj; cases hj
    | some x => rw [ha] at hj; simp at hj
  · rw [List.getElem?_set_ne (fun z => e1 z.symm)] at hj
    by_cases e : j = i
    · subst e
      rw [List.getElem?_set_self'] at hj
      have hw : w = v := by
        cases ha : al[j]? with
        | none => rw [ha] at hj; cases hj
        | some x => rw [ha] at hj; simp at hj; exact hj.symm
      subst hw
      exact h.2.2 _ List.mem_cons_self
    · rw [List.getElem?_set_ne (fun z => e z.symm)] at hj
      refine h.2.2 (j, cv B b w) (List.mem_cons_of_mem _ (List.mem_filter.mpr ⟨asl_mem.mpr ⟨w, hj, rfl⟩, ?_⟩))
      have := okS_not hk hj
      simp only [cv_cat]
      by_cases hc : w.category = 2
      · have : ¬ j + 1 = i := fun z => this ⟨z, hc⟩
        simp [e, e1, this]
      · simp [e, e1, hc]
theorem LR.drop {B b nL i : Nat} {al : List (Option Value)} {ls : Array Slot} (h : LR B b nL al ls) : LR B b nL (al.set i none) ls := by
  refine ⟨h.1, h.2.1, fun j w hj => ?_⟩
  by_cases e : j = i
  · subst e
    rw [List.getElem?_set_self'] at hj
    cases ha : al[j]? with
    | none => rw [ha] at hj; cases hj
    | some x => rw [ha] at hj; simp at hj
  · rw [List.getElem?_set_ne (fun z => e z.symm)] at hj
    exact h.2.2 j w hj
theorem LR.put0 {B b nL i a : Nat} {al : List (Option Value)} {ls : Array Slot} (hk : okS al i = true) (h : lv_has ls nL ((i, .ref a) :: (asl B b al).filter (fun q => !(q.1 == i) && !(q.1 + 1 == i && q.2.category == 2)))) : LR B b nL (al.set i none) ls := by
  refine ⟨h.1, h.2.1, fun j w hj => ?_⟩
  by_cases e : j = i
  · subst e
    rw [List.getElem?_set_self'] at hj
    cases ha : al[j]? with
    | none => rw [ha] at hj; cases hj
    | some x => rw [ha] at hj; simp at hj
  · rw [List.getElem?_set_ne (fun z => e z.symm)] at hj
    refine h.2.2 (j, cv B b w) (List.mem_cons_of_mem _ (List.mem_filter.mpr ⟨asl_mem.mpr ⟨w, hj, rfl⟩, ?_⟩))
    have := okS_not hk hj
    simp only [cv_cat]
    by_cases hc : w.category = 2
    · have : ¬ j + 1 = i := fun z => this ⟨z, hc⟩
      simp [e, this]
    · simp [e, hc]
section GRows
variable {l : Launch} {X : State → Nat → Nat → Prop} {md : MD} {d mc ms : Nat} {post : Post} {k n pc q : Nat} {al : List (Option Value)} {st : List Value} {N : NB} {h : EHp}

theorem g_iload_n {j : Fin 4} {i : Nat} {x : Int32} (hi : (j : Nat) = i) (hl : al[i]? = some (some (.int x))) (hd : decode md.2.1 pc = .ok (.iload_n j, 1)) (hq : pc + 1 = q) (kk : G l X md d mc ms post k n q al (.int x :: st) N h) : G l X md d mc ms post k n pc al (st) N h := by
  subst hq
  intro p e s m args below meth c D tc B b H locs ls Q hC hE hX hH hL hK hQ
  exact lv_iload_n hC.1 hC.2.1 hd hi (hL.2.2 i _ hl) (kk p e s m args below meth c D tc B b H locs ls Q hC hE hX hH hL hK hQ)
theorem g_iload {i : Nat} {x : Int32} (hl : al[i]? = some (some (.int x))) (hd : decode md.2.1 pc = .ok (.iload i, 2)) (hq : pc + 2 = q) (kk : G l X md d mc ms post k n q al (.int x :: st) N h) : G l X md d mc ms post k n pc al (st) N h := by
  subst hq
  intro p e s m args below meth c D tc B b H locs ls Q hC hE hX hH hL hK hQ
  exact lv_iload hC.1 hC.2.1 hd (hL.2.2 i _ hl) (kk p e s m args below meth c D tc B b H locs ls Q hC hE hX hH hL hK hQ)
theorem g_lload_n {j : Fin 4} {i : Nat} {x : Int64} (hi : (j : Nat) = i) (hl : al[i]? = some (some (.long x))) (hd : decode md.2.1 pc = .ok (.lload_n j, 1)) (hq : pc + 1 = q) (kk : G l X md d mc ms post k n q al (.long x :: st) N h) : G l X md d mc ms post k n pc al (st) N h := by
  subst hq
  intro p e s m args below meth c D tc B b H locs ls Q hC hE hX hH hL hK hQ
  exact lv_lload_n hC.1 hC.2.1 hd hi (hL.2.2 i _ hl) (kk p e s m args below meth c D tc B b H locs ls Q hC hE hX hH hL hK hQ)
theorem g_lload {i : Nat} {x : Int64} (hl : al[i]? = some (some (.long x))) (hd : decode md.2.1 pc = .ok (.lload i, 2)) (hq : pc + 2 = q) (kk : G l X md d mc ms post k n q al (.long x :: st) N h) : G l X md d mc ms post k n pc al (st) N h := by
  subst hq
  intro p e s m args below meth c D tc B b H locs ls Q hC hE hX hH hL hK hQ
  exact lv_lload hC.1 hC.2.1 hd (hL.2.2 i _ hl) (kk p e s m args below meth c D tc B b H locs ls Q hC hE hX hH hL hK hQ)
theorem g_dload {i : Nat} {x : UInt64} (hl : al[i]? = some (some (.double x))) (hd : decode md.2.1 pc = .ok (.dload i, 2)) (hq : pc + 2 = q) (kk : G l X md d mc ms post k n q al (.double x :: st) N h) : G l X md d mc ms post k n pc al (st) N h := by
  subst hq
  intro p e s m args below meth c D tc B b H locs ls Q hC hE hX hH hL hK hQ
  exact lv_dload hC.1 hC.2.1 hd (hL.2.2 i _ hl) (kk p e s m args below meth c D tc B b H locs ls Q hC hE hX hH hL hK hQ)
theorem g_aload_n {j : Fin 4} {i : Nat} {x : Nat} (hi : (j : Nat) = i) (hl : al[i]? = some (some (.ref x))) (hd : decode md.2.1 pc = .ok (.aload_n j, 1)) (hq : pc + 1 = q) (kk : G l X md d mc ms post k n q al (.ref x :: st) N h) : G l X md d mc ms post k n pc al (st) N h := by
  subst hq
  intro p e s m args below meth c D tc B b H locs ls Q hC hE hX hH hL hK hQ
  exact lv_aload_n hC.1 hC.2.1 hd hi (hL.2.2 i _ hl) (kk p e s m args below meth c D tc B b H locs ls Q hC hE hX hH hL hK hQ)
theorem g_aload {i : Nat} {x : Nat} (hl : al[i]? = some (some (.ref x))) (hd : decode md.2.1 pc = .ok (.aload i, 2)) (hq : pc + 2 = q) (kk : G l X md d mc ms post k n q al (.ref x :: st) N h) : G l X md d mc ms post k n pc al (st) N h := by
  subst hq
  intro p e s m args below meth c D tc B b H locs ls Q hC hE hX hH hL hK hQ
  exact lv_aload hC.1 hC.2.1 hd (hL.2.2 i _ hl) (kk p e s m args below meth c D tc B b H locs ls Q hC hE hX hH hL hK hQ)
theorem g_aload_s {j : Fin 4} {i : Nat} {x : UInt32} (hi : (j : Nat) = i) (hl : al[i]? = some (some (.float x))) (hd : decode md.2.1 pc = .ok (.aload_n j, 1)) (hq : pc + 1 = q) (kk : G l X md d mc ms post k n q al (.float x :: st) N h) : G l X md d mc ms post k n pc al (st) N h := by
  subst hq
  intro p e s m args below meth c D tc B b H locs ls Q hC hE hX hH hL hK hQ
  exact lv_aload_n hC.1 hC.2.1 hd hi (hL.2.2 i _ hl) (kk p e s m args below meth c D tc B b H locs ls Q hC hE hX hH hL hK hQ)
theorem g_iconst {z : Int} (hd : decode md.2.1 pc = .ok (.iconst z, 1)) (hq : pc + 1 = q) (kk : G l X md d mc ms post k n q al (.int (iI z) :: st) N h) : G l X md d mc ms post k n pc al (st) N h := by
  subst hq
  intro p e s m args below meth c D tc B b H locs ls Q hC hE hX hH hL hK hQ
  exact lv_iconst hC.1 hC.2.1 hd rfl (kk p e s m args below meth c D tc B b H locs ls Q hC hE hX hH hL hK hQ)
theorem g_bipush {z : Int} (hz : (Int8.ofInt z).toInt32 = iI z) (hd : decode md.2.1 pc = .ok (.bipush z, 2)) (hq : pc + 2 = q) (kk : G l X md d mc ms post k n q al (.int (iI z) :: st) N h) : G l X md d mc ms post k n pc al (st) N h := by
  subst hq
  intro p e s m args below meth c D tc B b H locs ls Q hC hE hX hH hL hK hQ
  exact lv_bipush hC.1 hC.2.1 hd hz (kk p e s m args below meth c D tc B b H locs ls Q hC hE hX hH hL hK hQ)
theorem g_sipush {z : Int} (hz : (Int16.ofInt z).toInt32 = iI z) (hd : decode md.2.1 pc = .ok (.sipush z, 3)) (hq : pc + 3 = q) (kk : G l X md d mc ms post k n q al (.int (iI z) :: st) N h) : G l X md d mc ms post k n pc al (st) N h := by
  subst hq
  intro p e s m args below meth c D tc B b H locs ls Q hC hE hX hH hL hK hQ
  exact lv_sipush hC.1 hC.2.1 hd hz (kk p e s m args below meth c D tc B b H locs ls Q hC hE hX hH hL hK hQ)
theorem g_ldc {ix : Nat} {z : Int} (hw : Cond.constant md.1.cls ix (iI z) ∈ LT) (hd : decode md.2.1 pc = .ok (.ldc ix, 2)) (hq : pc + 2 = q) (kk : G l X md d mc ms post k n q al (.int (iI z) :: st) N h) : G l X md d mc ms post k n pc al (st) N h := by
  subst hq
  intro p e s m args below meth c D tc B b H locs ls Q hC hE hX hH hL hK hQ
  exact lv_ldc hC.1 hC.2.1 hC.2.2.2.2.1 (hC.2.2.2.2.2.1 _ hw) hd (kk p e s m args below meth c D tc B b H locs ls Q hC hE hX hH hL hK hQ)
theorem g_ldc2 {ix : Nat} {z : Int64} (hw : Cond.constantLong md.1.cls ix z ∈ LT) (hd : decode md.2.1 pc = .ok (.ldc2_w ix, 3)) (hq : pc + 3 = q) (kk : G l X md d mc ms post k n q al (.long z :: st) N h) : G l X md d mc ms post k n pc al (st) N h := by
  subst hq
  intro p e s m args below meth c D tc B b H locs ls Q hC hE hX hH hL hK hQ
  exact lv_ldc2 hC.1 hC.2.1 hC.2.2.2.2.1 (hC.2.2.2.2.2.1 _ hw) hd (kk p e s m args below meth c D tc B b H locs ls Q hC hE hX hH hL hK hQ)
theorem g_dconst0  (hd : decode md.2.1 pc = .ok (.dconst 0, 1)) (hq : pc + 1 = q) (kk : G l X md d mc ms post k n q al (.double FP.dconst0 :: st) N h) : G l X md d mc ms post k n pc al (st) N h := by
  subst hq
  intro p e s m args below meth c D tc B b H locs ls Q hC hE hX hH hL hK hQ
  exact lv_dconst0 hC.1 hC.2.1 hd (kk p e s m args below meth c D tc B b H locs ls Q hC hE hX hH hL hK hQ)
theorem g_iadd {x y : Int} (hd : decode md.2.1 pc = .ok (.iadd, 1)) (hq : pc + 1 = q) (kk : G l X md d mc ms post k n q al (.int (iI (x + y)) :: st) N h) : G l X md d mc ms post k n pc al (.int (iI y) :: .int (iI x) :: st) N h := by
  subst hq
  intro p e s m args below meth c D tc B b H locs ls Q hC hE hX hH hL hK hQ
  refine lv_iadd hC.1 hC.2.1 hd ?_
  rw [iI_add]
  exact kk p e s m args below meth c D tc B b H locs ls Q hC hE hX hH hL hK hQ
theorem g_isub {x y : Int} (hd : decode md.2.1 pc = .ok (.isub, 1)) (hq : pc + 1 = q) (kk : G l X md d mc ms post k n q al (.int (iI (x - y)) :: st) N h) : G l X md d mc ms post k n pc al (.int (iI y) :: .int (iI x) :: st) N h := by
  subst hq
  intro p e s m args below meth c D tc B b H locs ls Q hC hE hX hH hL hK hQ
  refine lv_isub hC.1 hC.2.1 hd ?_
  rw [iI_sub]
  exact kk p e s m args below meth c D tc B b H locs ls Q hC hE hX hH hL hK hQ
theorem g_imul {x y : Int} (hd : decode md.2.1 pc = .ok (.imul, 1)) (hq : pc + 1 = q) (kk : G l X md d mc ms post k n q al (.int (iI (x * y)) :: st) N h) : G l X md d mc ms post k n pc al (.int (iI y) :: .int (iI x) :: st) N h := by
  subst hq
  intro p e s m args below meth c D tc B b H locs ls Q hC hE hX hH hL hK hQ
  refine lv_imul hC.1 hC.2.1 hd ?_
  rw [iI_mul]
  exact kk p e s m args below meth c D tc B b H locs ls Q hC hE hX hH hL hK hQ
theorem g_idiv {x y : Int} (hx0 : 0 ≤ x) (hx1 : x < 2147483648) (hy0 : 0 < y) (hy1 : y < 2147483648) (hd : decode md.2.1 pc = .ok (.idiv, 1)) (hq : pc + 1 = q) (kk : G l X md d mc ms post k n q al (.int (iI (x / y)) :: st) N h) : G l X md d mc ms post k n pc al (.int (iI y) :: .int (iI x) :: st) N h := by
  subst hq
  intro p e s m args below meth c D tc B b H locs ls Q hC hE hX hH hL hK hQ
  refine lv_idiv hC.1 hC.2.1 hd (fun z => by rw [iI_0, iI_eq ⟨by omega, hy1⟩ (by decide)] at z; omega) ?_
  rw [iI_div hx0 hx1 hy0 hy1]
  exact kk p e s m args below meth c D tc B b H locs ls Q hC hE hX hH hL hK hQ
theorem g_irem {x y : Int} (hx0 : 0 ≤ x) (hx1 : x < 2147483648) (hy0 : 0 < y) (hy1 : y < 2147483648) (hd : decode md.2.1 pc = .ok (.irem, 1)) (hq : pc + 1 = q) (kk : G l X md d mc ms post k n q al (.int (iI (x % y)) :: st) N h) : G l X md d mc ms post k n pc al (.int (iI y) :: .int (iI x) :: st) N h := by
  subst hq
  intro p e s m args below meth c D tc B b H locs ls Q hC hE hX hH hL hK hQ
  refine lv_irem hC.1 hC.2.1 hd (fun z => by rw [iI_0, iI_eq ⟨by omega, hy1⟩ (by decide)] at z; omega) ?_
  rw [iI_rem hx0 hx1 hy0 hy1]
  exact kk p e s m args below meth c D tc B b H locs ls Q hC hE hX hH hL hK hQ
theorem g_ishr {x y : Int} (hx0 : 0 ≤ x) (hx1 : x < 2147483648) (hy0 : 0 ≤ y) (hy : y < 32) (hd : decode md.2.1 pc = .ok (.ishr, 1)) (hq : pc + 1 = q) (kk : G l X md d mc ms post k n q al (.int (iI (x / 2 ^ y.toNat)) :: st) N h) : G l X md d mc ms post k n pc al (.int (iI y) :: .int (iI x) :: st) N h := by
  subst hq
  intro p e s m args below meth c D tc B b H locs ls Q hC hE hX hH hL hK hQ
  refine lv_ishr hC.1 hC.2.1 hd ?_
  have e9 := iI_shr (k := y.toNat) hx0 hx1 (by omega)
  rw [Int.toNat_of_nonneg hy0] at e9
  rw [e9]
  exact kk p e s m args below meth c D tc B b H locs ls Q hC hE hX hH hL hK hQ
theorem g_ishl {x y : Int} (hx0 : 0 ≤ x) (hx1 : x * 2 ^ y.toNat < 2147483648) (hy0 : 0 ≤ y) (hy : y < 32) (hd : decode md.2.1 pc = .ok (.ishl, 1)) (hq : pc + 1 = q) (kk : G l X md d mc ms post k n q al (.int (iI (x * 2 ^ y.toNat)) :: st) N h) : G l X md d mc ms post k n pc al (.int (iI y) :: .int (iI x) :: st) N h := by
  subst hq
  intro p e s m args below meth c D tc B b H locs ls Q hC hE hX hH hL hK hQ
  refine lv_ishl hC.1 hC.2.1 hd ?_
  have e9 := iI_shl (k := y.toNat) hx0 hx1 (by omega)
  rw [Int.toNat_of_nonneg hy0] at e9
  rw [e9]
  exact kk p e s m args below meth c D tc B b H locs ls Q hC hE hX hH hL hK hQ
theorem g_iand1 {x : Int} (hx0 : 0 ≤ x) (hx1 : x < 2147483648) (hd : decode md.2.1 pc = .ok (.iand, 1)) (hq : pc + 1 = q) (kk : G l X md d mc ms post k n q al (.int (iI (x % 2)) :: st) N h) : G l X md d mc ms post k n pc al (.int (iI 1) :: .int (iI x) :: st) N h := by
  subst hq
  intro p e s m args below meth c D tc B b H locs ls Q hC hE hX hH hL hK hQ
  refine lv_iand hC.1 hC.2.1 hd ?_
  rw [iI_and1 hx0 hx1]
  exact kk p e s m args below meth c D tc B b H locs ls Q hC hE hX hH hL hK hQ
theorem g_iand {x y : Int32} (hd : decode md.2.1 pc = .ok (.iand, 1)) (hq : pc + 1 = q) (kk : G l X md d mc ms post k n q al (.int (x &&& y) :: st) N h) : G l X md d mc ms post k n pc al (.int y :: .int x :: st) N h := by
  subst hq
  intro p e s m args below meth c D tc B b H locs ls Q hC hE hX hH hL hK hQ
  exact lv_iand hC.1 hC.2.1 hd (kk p e s m args below meth c D tc B b H locs ls Q hC hE hX hH hL hK hQ)
theorem g_ior01 {x y : Int} (hx0 : x = 0 ∨ x = 1) (hy0 : y = 0 ∨ y = 1) (hd : decode md.2.1 pc = .ok (.ior, 1)) (hq : pc + 1 = q) (kk : G l X md d mc ms post k n q al (.int (iI (if x = 0 then y else 1)) :: st) N h) : G l X md d mc ms post k n pc al (.int (iI y) :: .int (iI x) :: st) N h := by
  subst hq
  intro p e s m args below meth c D tc B b H locs ls Q hC hE hX hH hL hK hQ
  refine lv_ior hC.1 hC.2.1 hd ?_
  rw [iI_or01 hx0 hy0]
  exact kk p e s m args below meth c D tc B b H locs ls Q hC hE hX hH hL hK hQ
theorem g_i2l {x : Int32} (hd : decode md.2.1 pc = .ok (.i2l, 1)) (hq : pc + 1 = q) (kk : G l X md d mc ms post k n q al (.long x.toInt64 :: st) N h) : G l X md d mc ms post k n pc al (.int x :: st) N h := by
  subst hq
  intro p e s m args below meth c D tc B b H locs ls Q hC hE hX hH hL hK hQ
  exact lv_i2l hC.1 hC.2.1 hd rfl (kk p e s m args below meth c D tc B b H locs ls Q hC hE hX hH hL hK hQ)
theorem g_i2d {x : Int32} (hd : decode md.2.1 pc = .ok (.i2d, 1)) (hq : pc + 1 = q) (kk : G l X md d mc ms post k n q al (.double (FP.i2d x) :: st) N h) : G l X md d mc ms post k n pc al (.int x :: st) N h := by
  subst hq
  intro p e s m args below meth c D tc B b H locs ls Q hC hE hX hH hL hK hQ
  exact lv_i2d hC.1 hC.2.1 hd (kk p e s m args below meth c D tc B b H locs ls Q hC hE hX hH hL hK hQ)
theorem g_ladd {x y : Int64} (hd : decode md.2.1 pc = .ok (.ladd, 1)) (hq : pc + 1 = q) (kk : G l X md d mc ms post k n q al (.long (x + y) :: st) N h) : G l X md d mc ms post k n pc al (.long y :: .long x :: st) N h := by
  subst hq
  intro p e s m args below meth c D tc B b H locs ls Q hC hE hX hH hL hK hQ
  exact lv_ladd hC.1 hC.2.1 hd (kk p e s m args below meth c D tc B b H locs ls Q hC hE hX hH hL hK hQ)
theorem g_lmul {x y : Int64} (hd : decode md.2.1 pc = .ok (.lmul, 1)) (hq : pc + 1 = q) (kk : G l X md d mc ms post k n q al (.long (x * y) :: st) N h) : G l X md d mc ms post k n pc al (.long y :: .long x :: st) N h := by
  subst hq
  intro p e s m args below meth c D tc B b H locs ls Q hC hE hX hH hL hK hQ
  exact lv_lmul hC.1 hC.2.1 hd (kk p e s m args below meth c D tc B b H locs ls Q hC hE hX hH hL hK hQ)
theorem g_lcmp {x y : Int64} (hd : decode md.2.1 pc = .ok (.lcmp, 1)) (hq : pc + 1 = q) (kk : G l X md d mc ms post k n q al (.int (lg_cmp x y) :: st) N h) : G l X md d mc ms post k n pc al (.long y :: .long x :: st) N h := by
  subst hq
  intro p e s m args below meth c D tc B b H locs ls Q hC hE hX hH hL hK hQ
  exact W.lcmp hC.1 hC.2.1 hd (kk p e s m args below meth c D tc B b H locs ls Q hC hE hX hH hL hK hQ)
theorem g_ddiv {x y : UInt64} (hn : vf_n64 (FP.ddiv x y)) (hd : decode md.2.1 pc = .ok (.ddiv, 1)) (hq : pc + 1 = q) (kk : G l X md d mc ms post k n q al (.double (FP.ddiv x y) :: st) N h) : G l X md d mc ms post k n pc al (.double y :: .double x :: st) N h := by
  subst hq
  intro p e s m args below meth c D tc B b H locs ls Q hC hE hX hH hL hK hQ
  exact lv_ddiv hC.1 hC.2.1 hd hn (kk p e s m args below meth c D tc B b H locs ls Q hC hE hX hH hL hK hQ)
theorem g_dcmp {x y : UInt64} {op : CmpOp} (hd : decode md.2.1 pc = .ok (.dcmp op, 1)) (hq : pc + 1 = q) (kk : G l X md d mc ms post k n q al (.int (Op.cmpValue (FP.dcmp x y) op) :: st) N h) : G l X md d mc ms post k n pc al (.double y :: .double x :: st) N h := by
  subst hq
  intro p e s m args below meth c D tc B b H locs ls Q hC hE hX hH hL hK hQ
  exact lv_dcmp hC.1 hC.2.1 hd (kk p e s m args below meth c D tc B b H locs ls Q hC hE hX hH hL hK hQ)
theorem g_dup {v : Value} (hv : v.category = 1) (hd : decode md.2.1 pc = .ok (.dup, 1)) (hq : pc + 1 = q) (kk : G l X md d mc ms post k n q al (v :: v :: st) N h) : G l X md d mc ms post k n pc al (v :: st) N h := by
  subst hq
  intro p e s m args below meth c D tc B b H locs ls Q hC hE hX hH hL hK hQ
  exact lv_dup hC.1 hC.2.1 hd ((cv_cat B b v).trans hv) (kk p e s m args below meth c D tc B b H locs ls Q hC hE hX hH hL hK hQ)
theorem g_dup2 {v u : Value} (hv : v.category = 1) (hu : u.category = 1) (hd : decode md.2.1 pc = .ok (.dup2, 1)) (hq : pc + 1 = q) (kk : G l X md d mc ms post k n q al (v :: u :: v :: u :: st) N h) : G l X md d mc ms post k n pc al (v :: u :: st) N h := by
  subst hq
  intro p e s m args below meth c D tc B b H locs ls Q hC hE hX hH hL hK hQ
  exact lv_dup2_11 hC.1 hC.2.1 hd ((cv_cat B b v).trans hv) ((cv_cat B b u).trans hu) (kk p e s m args below meth c D tc B b H locs ls Q hC hE hX hH hL hK hQ)
theorem g_pop {v : Value} (hv : v.category = 1) (hd : decode md.2.1 pc = .ok (.pop, 1)) (hq : pc + 1 = q) (kk : G l X md d mc ms post k n q al (st) N h) : G l X md d mc ms post k n pc al (v :: st) N h := by
  subst hq
  intro p e s m args below meth c D tc B b H locs ls Q hC hE hX hH hL hK hQ
  exact lv_pop hC.1 hC.2.1 hd ((cv_cat B b v).trans hv) (kk p e s m args below meth c D tc B b H locs ls Q hC hE hX hH hL hK hQ)
theorem g_istore_n {j : Fin 4} {i : Nat} {x : Int32} {al2 : List (Option Value)} (hi : (j : Nat) = i) (hi2 : i < md.2.2.1) (hk : okS al i = true) (ha : (al.set i (some (.int x))) = al2) (hd : decode md.2.1 pc = .ok (.istore_n j, 1)) (hq : pc + 1 = q) (kk : G l X md d mc ms post k n q al2 st N h) : G l X md d mc ms post k n pc al (.int x :: st) N h := by
  subst hq ha
  intro p e s m args below meth c D tc B b H locs ls Q hC hE hX hH hL hK hQ
  exact lv_istore_n hC.1 hC.2.1 hd hi hL.has hi2 rfl (fun ls' hl' => kk p e s m args below meth c D tc B b H locs ls' Q hC hE hX hH (LR.put1 (v := .int x) hk hl') hK hQ)
theorem g_istore {i : Nat} {x : Int32} {al2 : List (Option Value)} (hi2 : i < md.2.2.1) (hk : okS al i = true) (ha : (al.set i (some (.int x))) = al2) (hd : decode md.2.1 pc = .ok (.istore i, 2)) (hq : pc + 2 = q) (kk : G l X md d mc ms post k n q al2 st N h) : G l X md d mc ms post k n pc al (.int x :: st) N h := by
  subst hq ha
  intro p e s m args below meth c D tc B b H locs ls Q hC hE hX hH hL hK hQ
  exact lv_istore hC.1 hC.2.1 hd hL.has hi2 rfl (fun ls' hl' => kk p e s m args below meth c D tc B b H locs ls' Q hC hE hX hH (LR.put1 (v := .int x) hk hl') hK hQ)
theorem g_astore_n {j : Fin 4} {i : Nat} {x : Nat} {al2 : List (Option Value)} (hi : (j : Nat) = i) (hi2 : i < md.2.2.1) (hk : okS al i = true) (ha : (al.set i (some (.ref x))) = al2) (hd : decode md.2.1 pc = .ok (.astore_n j, 1)) (hq : pc + 1 = q) (kk : G l X md d mc ms post k n q al2 st N h) : G l X md d mc ms post k n pc al (.ref x :: st) N h := by
  subst hq ha
  intro p e s m args below meth c D tc B b H locs ls Q hC hE hX hH hL hK hQ
  exact lv_astore_n hC.1 hC.2.1 hd hi hL.has hi2 rfl (fun ls' hl' => kk p e s m args below meth c D tc B b H locs ls' Q hC hE hX hH (LR.put1 (v := .ref x) hk hl') hK hQ)
theorem g_astore {i : Nat} {x : Nat} {al2 : List (Option Value)} (hi2 : i < md.2.2.1) (hk : okS al i = true) (ha : (al.set i (some (.ref x))) = al2) (hd : decode md.2.1 pc = .ok (.astore i, 2)) (hq : pc + 2 = q) (kk : G l X md d mc ms post k n q al2 st N h) : G l X md d mc ms post k n pc al (.ref x :: st) N h := by
  subst hq ha
  intro p e s m args below meth c D tc B b H locs ls Q hC hE hX hH hL hK hQ
  exact lv_astore hC.1 hC.2.1 hd hL.has hi2 rfl (fun ls' hl' => kk p e s m args below meth c D tc B b H locs ls' Q hC hE hX hH (LR.put1 (v := .ref x) hk hl') hK hQ)
theorem g_lstore_n {j : Fin 4} {i : Nat} {x : Int64} {al2 : List (Option Value)} (hi : (j : Nat) = i) (hi2 : i + 1 < md.2.2.1) (hk : okS al i = true) (ha : ((al.set i (some (.long x))).set (i + 1) none) = al2) (hd : decode md.2.1 pc = .ok (.lstore_n j, 1)) (hq : pc + 1 = q) (kk : G l X md d mc ms post k n q al2 st N h) : G l X md d mc ms post k n pc al (.long x :: st) N h := by
  subst hq ha
  intro p e s m args below meth c D tc B b H locs ls Q hC hE hX hH hL hK hQ
  exact lv_lstore_n hC.1 hC.2.1 hd hi hL.has hi2 rfl (fun ls' hl' => kk p e s m args below meth c D tc B b H locs ls' Q hC hE hX hH (LR.put2 (v := .long x) hk hl') hK hQ)
theorem g_lstore {i : Nat} {x : Int64} {al2 : List (Option Value)} (hi2 : i + 1 < md.2.2.1) (hk : okS al i = true) (ha : ((al.set i (some (.long x))).set (i + 1) none) = al2) (hd : decode md.2.1 pc = .ok (.lstore i, 2)) (hq : pc + 2 = q) (kk : G l X md d mc ms post k n q al2 st N h) : G l X md d mc ms post k n pc al (.long x :: st) N h := by
  subst hq ha
  intro p e s m args below meth c D tc B b H locs ls Q hC hE hX hH hL hK hQ
  exact lv_lstore hC.1 hC.2.1 hd hL.has hi2 rfl (fun ls' hl' => kk p e s m args below meth c D tc B b H locs ls' Q hC hE hX hH (LR.put2 (v := .long x) hk hl') hK hQ)
theorem g_dstore {i : Nat} {x : UInt64} {al2 : List (Option Value)} (hi2 : i + 1 < md.2.2.1) (hk : okS al i = true) (ha : ((al.set i (some (.double x))).set (i + 1) none) = al2) (hd : decode md.2.1 pc = .ok (.dstore i, 2)) (hq : pc + 2 = q) (kk : G l X md d mc ms post k n q al2 st N h) : G l X md d mc ms post k n pc al (.double x :: st) N h := by
  subst hq ha
  intro p e s m args below meth c D tc B b H locs ls Q hC hE hX hH hL hK hQ
  exact lv_dstore hC.1 hC.2.1 hd hL.has hi2 rfl (fun ls' hl' => kk p e s m args below meth c D tc B b H locs ls' Q hC hE hX hH (LR.put2 (v := .double x) hk hl') hK hQ)
theorem g_iinc {i : Nat} {x z : Int} {al2 : List (Option Value)} (hl : al[i]? = some (some (.int (iI x)))) (hi2 : i < md.2.2.1) (hk : okS al i = true) (ha : al.set i (some (.int (iI (x + z)))) = al2) (hd : decode md.2.1 pc = .ok (.iinc i z, 3)) (hq : pc + 3 = q) (kk : G l X md d mc ms post k n q al2 st N h) : G l X md d mc ms post k n pc al st N h := by
  subst hq ha
  intro p e s m args below meth c D tc B b H locs ls Q hC hE hX hH hL hK hQ
  obtain ⟨j, hj⟩ := List.getElem?_of_mem (asl_mem (B := B) (b := b) (w := .int (iI x)) |>.mpr ⟨_, hl, rfl⟩)
  exact lv_iinc (v := iI (x + z)) hC.1 hC.2.1 hd hL.has hj (iI_add x z) hi2 rfl (fun ls' hl' => kk p e s m args below meth c D tc B b H locs ls' Q hC hE hX hH (LR.put1 (v := .int (iI (x + z))) hk hl') hK hQ)
theorem g_goto {off : Int} (hd : decode md.2.1 pc = .ok (.goto off, 3)) (hq : (pc : Int) + off = (q : Int)) (kk : G l X md d mc ms post k n q al st N h) : G l X md d mc ms post k n pc al st N h := by
  intro p e s m args below meth c D tc B b H locs ls Q hC hE hX hH hL hK hQ
  exact lv_goto hC.1 hC.2.1 hd hq (kk p e s m args below meth c D tc B b H locs ls Q hC hE hX hH hL hK hQ)
theorem g_icmp_lt {off : Int} {t : Nat} {x y : Int} (hx : IR x) (hy : IR y) (hd : decode md.2.1 pc = .ok (.if_icmp .lt off, 3)) (ht : (pc : Int) + off = (t : Int)) (hq : pc + 3 = q) (kt : x < y → G l X md d mc ms post k n t al st N h) (kf : y ≤ x → G l X md d mc ms post k n q al st N h) : G l X md d mc ms post k n pc al (.int (iI y) :: .int (iI x) :: st) N h := by
  subst hq
  intro p e s m args below meth c D tc B b H locs ls Q hC hE hX hH hL hK hQ
  exact lv_icmp_lt hC.1 hC.2.1 hd ht (fun z => kt ((iI_lt hx hy).mp z) p e s m args below meth c D tc B b H locs ls Q hC hE hX hH hL hK hQ) (fun z => kf (Int.not_lt.mp (fun y9 => z ((iI_lt hx hy).mpr y9))) p e s m args below meth c D tc B b H locs ls Q hC hE hX hH hL hK hQ)
theorem g_icmp_le {off : Int} {t : Nat} {x y : Int} (hx : IR x) (hy : IR y) (hd : decode md.2.1 pc = .ok (.if_icmp .le off, 3)) (ht : (pc : Int) + off = (t : Int)) (hq : pc + 3 = q) (kt : x ≤ y → G l X md d mc ms post k n t al st N h) (kf : y < x → G l X md d mc ms post k n q al st N h) : G l X md d mc ms post k n pc al (.int (iI y) :: .int (iI x) :: st) N h := by
  subst hq
  intro p e s m args below meth c D tc B b H locs ls Q hC hE hX hH hL hK hQ
  exact lv_icmp_le hC.1 hC.2.1 hd ht (fun z => kt ((iI_le hx hy).mp z) p e s m args below meth c D tc B b H locs ls Q hC hE hX hH hL hK hQ) (fun z => kf (Int.not_le.mp (fun y9 => z ((iI_le hx hy).mpr y9))) p e s m args below meth c D tc B b H locs ls Q hC hE hX hH hL hK hQ)
theorem g_icmp_gt {off : Int} {t : Nat} {x y : Int} (hx : IR x) (hy : IR y) (hd : decode md.2.1 pc = .ok (.if_icmp .gt off, 3)) (ht : (pc : Int) + off = (t : Int)) (hq : pc + 3 = q) (kt : y < x → G l X md d mc ms post k n t al st N h) (kf : x ≤ y → G l X md d mc ms post k n q al st N h) : G l X md d mc ms post k n pc al (.int (iI y) :: .int (iI x) :: st) N h := by
  subst hq
  intro p e s m args below meth c D tc B b H locs ls Q hC hE hX hH hL hK hQ
  exact lv_icmp_gt hC.1 hC.2.1 hd ht (fun z => kt ((iI_lt hy hx).mp z) p e s m args below meth c D tc B b H locs ls Q hC hE hX hH hL hK hQ) (fun z => kf (Int.not_lt.mp (fun y9 => z ((iI_lt hy hx).mpr y9))) p e s m args below meth c D tc B b H locs ls Q hC hE hX hH hL hK hQ)
theorem g_icmp_ge {off : Int} {t : Nat} {x y : Int} (hx : IR x) (hy : IR y) (hd : decode md.2.1 pc = .ok (.if_icmp .ge off, 3)) (ht : (pc : Int) + off = (t : Int)) (hq : pc + 3 = q) (kt : y ≤ x → G l X md d mc ms post k n t al st N h) (kf : x < y → G l X md d mc ms post k n q al st N h) : G l X md d mc ms post k n pc al (.int (iI y) :: .int (iI x) :: st) N h := by
  subst hq
  intro p e s m args below meth c D tc B b H locs ls Q hC hE hX hH hL hK hQ
  exact lv_icmp_ge hC.1 hC.2.1 hd ht (fun z => kt ((iI_le hy hx).mp z) p e s m args below meth c D tc B b H locs ls Q hC hE hX hH hL hK hQ) (fun z => kf (Int.not_le.mp (fun y9 => z ((iI_le hy hx).mpr y9))) p e s m args below meth c D tc B b H locs ls Q hC hE hX hH hL hK hQ)
theorem g_icmp_eq {off : Int} {t : Nat} {x y : Int} (hx : IR x) (hy : IR y) (hd : decode md.2.1 pc = .ok (.if_icmp .eq off, 3)) (ht : (pc : Int) + off = (t : Int)) (hq : pc + 3 = q) (kt : x = y → G l X md d mc ms post k n t al st N h) (kf : x ≠ y → G l X md d mc ms post k n q al st N h) : G l X md d mc ms post k n pc al (.int (iI y) :: .int (iI x) :: st) N h := by
  subst hq
  intro p e s m args below meth c D tc B b H locs ls Q hC hE hX hH hL hK hQ
  exact lv_icmp_eq hC.1 hC.2.1 hd ht (fun z => kt ((iI_eq hx hy).mp z) p e s m args below meth c D tc B b H locs ls Q hC hE hX hH hL hK hQ) (fun z => kf (fun y9 => z ((iI_eq hx hy).mpr y9)) p e s m args below meth c D tc B b H locs ls Q hC hE hX hH hL hK hQ)
theorem g_icmp_ne {off : Int} {t : Nat} {x y : Int} (hx : IR x) (hy : IR y) (hd : decode md.2.1 pc = .ok (.if_icmp .ne off, 3)) (ht : (pc : Int) + off = (t : Int)) (hq : pc + 3 = q) (kt : x ≠ y → G l X md d mc ms post k n t al st N h) (kf : x = y → G l X md d mc ms post k n q al st N h) : G l X md d mc ms post k n pc al (.int (iI y) :: .int (iI x) :: st) N h := by
  subst hq
  intro p e s m args below meth c D tc B b H locs ls Q hC hE hX hH hL hK hQ
  exact lv_icmp_ne hC.1 hC.2.1 hd ht (fun z => kt (fun y9 => z ((iI_eq hx hy).mpr y9)) p e s m args below meth c D tc B b H locs ls Q hC hE hX hH hL hK hQ) (fun z => kf ((iI_eq hx hy).mp z) p e s m args below meth c D tc B b H locs ls Q hC hE hX hH hL hK hQ)
theorem g_if_eq {off : Int} {t : Nat} {x : Int} (hx : IR x) (hd : decode md.2.1 pc = .ok (.ifCond .eq off, 3)) (ht : (pc : Int) + off = (t : Int)) (hq : pc + 3 = q) (kt : x = 0 → G l X md d mc ms post k n t al st N h) (kf : x ≠ 0 → G l X md d mc ms post k n q al st N h) : G l X md d mc ms post k n pc al (.int (iI x) :: st) N h := by
  subst hq
  intro p e s m args below meth c D tc B b H locs ls Q hC hE hX hH hL hK hQ
  exact lv_if_eq hC.1 hC.2.1 hd ht (fun z => kt ((iI_eq0 hx).mp z) p e s m args below meth c D tc B b H locs ls Q hC hE hX hH hL hK hQ) (fun z => kf (fun y9 => z ((iI_eq0 hx).mpr y9)) p e s m args below meth c D tc B b H locs ls Q hC hE hX hH hL hK hQ)
theorem g_if_ne {off : Int} {t : Nat} {x : Int} (hx : IR x) (hd : decode md.2.1 pc = .ok (.ifCond .ne off, 3)) (ht : (pc : Int) + off = (t : Int)) (hq : pc + 3 = q) (kt : x ≠ 0 → G l X md d mc ms post k n t al st N h) (kf : x = 0 → G l X md d mc ms post k n q al st N h) : G l X md d mc ms post k n pc al (.int (iI x) :: st) N h := by
  subst hq
  intro p e s m args below meth c D tc B b H locs ls Q hC hE hX hH hL hK hQ
  exact lv_if_ne hC.1 hC.2.1 hd ht (fun z => kt (fun y9 => z ((iI_eq0 hx).mpr y9)) p e s m args below meth c D tc B b H locs ls Q hC hE hX hH hL hK hQ) (fun z => kf ((iI_eq0 hx).mp z) p e s m args below meth c D tc B b H locs ls Q hC hE hX hH hL hK hQ)
theorem g_if_lt {off : Int} {t : Nat} {x : Int} (hx : IR x) (hd : decode md.2.1 pc = .ok (.ifCond .lt off, 3)) (ht : (pc : Int) + off = (t : Int)) (hq : pc + 3 = q) (kt : x < 0 → G l X md d mc ms post k n t al st N h) (kf : 0 ≤ x → G l X md d mc ms post k n q al st N h) : G l X md d mc ms post k n pc al (.int (iI x) :: st) N h := by
  subst hq
  intro p e s m args below meth c D tc B b H locs ls Q hC hE hX hH hL hK hQ
  exact lv_if_lt hC.1 hC.2.1 hd ht (fun z => kt ((iI_lt0 hx).mp z) p e s m args below meth c D tc B b H locs ls Q hC hE hX hH hL hK hQ) (fun z => kf (Int.not_lt.mp (fun y9 => z ((iI_lt0 hx).mpr y9))) p e s m args below meth c D tc B b H locs ls Q hC hE hX hH hL hK hQ)
theorem g_if_le {off : Int} {t : Nat} {x : Int} (hx : IR x) (hd : decode md.2.1 pc = .ok (.ifCond .le off, 3)) (ht : (pc : Int) + off = (t : Int)) (hq : pc + 3 = q) (kt : x ≤ 0 → G l X md d mc ms post k n t al st N h) (kf : 0 < x → G l X md d mc ms post k n q al st N h) : G l X md d mc ms post k n pc al (.int (iI x) :: st) N h := by
  subst hq
  intro p e s m args below meth c D tc B b H locs ls Q hC hE hX hH hL hK hQ
  exact lv_if_le hC.1 hC.2.1 hd ht (fun z => kt ((iI_le0 hx).mp z) p e s m args below meth c D tc B b H locs ls Q hC hE hX hH hL hK hQ) (fun z => kf (Int.not_le.mp (fun y9 => z ((iI_le0 hx).mpr y9))) p e s m args below meth c D tc B b H locs ls Q hC hE hX hH hL hK hQ)
theorem g_ifr_eq {off : Int} {t : Nat} {x : Int32} (hd : decode md.2.1 pc = .ok (.ifCond .eq off, 3)) (ht : (pc : Int) + off = (t : Int)) (hq : pc + 3 = q) (kt : x = 0 → G l X md d mc ms post k n t al st N h) (kf : ¬ x = 0 → G l X md d mc ms post k n q al st N h) : G l X md d mc ms post k n pc al (.int x :: st) N h := by
  subst hq
  intro p e s m args below meth c D tc B b H locs ls Q hC hE hX hH hL hK hQ
  exact lv_if_eq hC.1 hC.2.1 hd ht (fun z => kt z p e s m args below meth c D tc B b H locs ls Q hC hE hX hH hL hK hQ) (fun z => kf z p e s m args below meth c D tc B b H locs ls Q hC hE hX hH hL hK hQ)
theorem g_ifr_ne {off : Int} {t : Nat} {x : Int32} (hd : decode md.2.1 pc = .ok (.ifCond .ne off, 3)) (ht : (pc : Int) + off = (t : Int)) (hq : pc + 3 = q) (kt : ¬ x = 0 → G l X md d mc ms post k n t al st N h) (kf : x = 0 → G l X md d mc ms post k n q al st N h) : G l X md d mc ms post k n pc al (.int x :: st) N h := by
  subst hq
  intro p e s m args below meth c D tc B b H locs ls Q hC hE hX hH hL hK hQ
  exact lv_if_ne hC.1 hC.2.1 hd ht (fun z => kt z p e s m args below meth c D tc B b H locs ls Q hC hE hX hH hL hK hQ) (fun z => kf z p e s m args below meth c D tc B b H locs ls Q hC hE hX hH hL hK hQ)
theorem g_tableIn {dflt lo hi : Int} {offs : Array Int} {len : Nat} {x off : Int} (hx : IR x) (hd : decode md.2.1 pc = .ok (.tableswitch dflt lo hi offs, len)) (h1 : lo ≤ x) (h2 : x ≤ hi) (ho : offs[(x - lo).toNat]? = some off) (ht : (pc : Int) + off = (q : Int)) (kk : G l X md d mc ms post k n q al st N h) : G l X md d mc ms post k n pc al (.int (iI x) :: st) N h := by
  intro p e s m args below meth c D tc B b H locs ls Q hC hE hX hH hL hK hQ
  exact lv_tableIn hC.1 hC.2.1 hd (by rw [iI_toInt hx]; omega) (by rw [iI_toInt hx]; omega) (by rw [iI_toInt hx]; exact ho) ht (kk p e s m args below meth c D tc B b H locs ls Q hC hE hX hH hL hK hQ)
theorem g_tableOut {dflt lo hi : Int} {offs : Array Int} {len : Nat} {x : Int} (hx : IR x) (hd : decode md.2.1 pc = .ok (.tableswitch dflt lo hi offs, len)) (h1 : x < lo ∨ hi < x) (ht : (pc : Int) + dflt = (q : Int)) (kk : G l X md d mc ms post k n q al st N h) : G l X md d mc ms post k n pc al (.int (iI x) :: st) N h := by
  intro p e s m args below meth c D tc B b H locs ls Q hC hE hX hH hL hK hQ
  exact lv_tableOut hC.1 hC.2.1 hd (by rw [iI_toInt hx]; exact h1) ht (kk p e s m args below meth c D tc B b H locs ls Q hC hE hX hH hL hK hQ)
theorem g_ret (r : Option Value) (hz : N.2 = true → k = mc) (hk : k ≤ mc) (hn : n ≤ ms) (hd : decode md.2.1 pc = .ok (rIns r, 1)) (hr : rOk md.2.2.2.1 r) (hs : st = r.toList) (hp : post (.inl r) N h) : G l X md d mc ms post k n pc al st N h := by
  intro p e s m args below meth c D tc B b H locs ls Q hC hE hX hH hL hK hQ
  refine W.widen hk hn ?_
  have := hK r N h H locs pc ls hp ⟨hH.1, hH.2.1, hH.2.2.1, hH.2.2.2.1, fun z => hz z ▸ hH.2.2.2.2 z⟩ hr hd
  rw [hs]
  cases r <;> exact this
theorem g_ireturn {x : Int32} (hz : N.2 = true → k = mc) (hk : k ≤ mc) (hn : n ≤ ms) (hd : decode md.2.1 pc = .ok (.ireturn, 1)) (hr : md.2.2.2.1 = some .int) (hp : post (.inl (some (.int x))) N h) : G l X md d mc ms post k n pc al [.int x] N h := g_ret (some (.int x)) hz hk hn hd ⟨.int, hr, rfl⟩ rfl hp
theorem g_zreturn {x : Int} (hz : N.2 = true → k = mc) (hk : k ≤ mc) (hn : n ≤ ms) (hd : decode md.2.1 pc = .ok (.ireturn, 1)) (hr : md.2.2.2.1 = some .boolean) (hx : x = 0 ∨ x = 1) (hp : post (.inl (some (.int (iI x)))) N h) : G l X md d mc ms post k n pc al [.int (iI x)] N h := g_ret (some (.int (iI x))) hz hk hn hd ⟨.boolean, hr, by rcases hx with rfl | rfl <;> decide⟩ rfl hp
theorem g_lreturn {x : Int64} (hz : N.2 = true → k = mc) (hk : k ≤ mc) (hn : n ≤ ms) (hd : decode md.2.1 pc = .ok (.lreturn, 1)) (hr : md.2.2.2.1 = some .long) (hp : post (.inl (some (.long x))) N h) : G l X md d mc ms post k n pc al [.long x] N h := g_ret (some (.long x)) hz hk hn hd hr rfl hp
theorem g_dreturn {x : UInt64} (hz : N.2 = true → k = mc) (hk : k ≤ mc) (hn : n ≤ ms) (hd : decode md.2.1 pc = .ok (.dreturn, 1)) (hr : md.2.2.2.1 = some .double) (hp : post (.inl (some (.double x))) N h) : G l X md d mc ms post k n pc al [.double x] N h := g_ret (some (.double x)) hz hk hn hd hr rfl hp
theorem g_areturn {x : Nat} {C : String} (hz : N.2 = true → k = mc) (hk : k ≤ mc) (hn : n ≤ ms) (hd : decode md.2.1 pc = .ok (.areturn, 1)) (hr : md.2.2.2.1 = some (.object C)) (hp : post (.inl (some (.ref x))) N h) : G l X md d mc ms post k n pc al [.ref x] N h := g_ret (some (.ref x)) hz hk hn hd ⟨C, hr⟩ rfl hp
theorem g_vreturn (hz : N.2 = true → k = mc) (hk : k ≤ mc) (hn : n ≤ ms) (hd : decode md.2.1 pc = .ok (.return_, 1)) (hr : md.2.2.2.1 = none) (hp : post (.inl none) N h) : G l X md d mc ms post k n pc al [] N h := g_ret none hz hk hn hd hr rfl hp
theorem g_al {al2 : List (Option Value)} (e9 : al = al2) (kk : G l X md d mc ms post k n pc al2 st N h) : G l X md d mc ms post k n pc al st N h := e9 ▸ kk
end GRows
end
section
/-! ===== rows that read and write the picture ===== -/
/-- a field by the pool of 'own': class ci's field kf, of the type ty, final or not -/
def FLd (own : String) (ix ci kf : Nat) (ty : FieldType) (fin : Bool) : Prop := ∃ (C : String) (T : u_T) (NF : Nat) (ty0 : Nat → FieldType), vwCl[ci]? = some (C, T, NF) ∧ kf < NF ∧ (∀ w ∈ u_ws C T NF, w ∈ LT) ∧ Cond.fieldLink own ix (T kf).1 (T kf).2.1 (T kf).2.2.1 ∈ LT ∧ (∀ k, k < NF → parseFieldDescriptor (T k).2.2.1 = some (ty0 k)) ∧ (∀ a, a < NF → ∀ b, b < NF → a ≠ b → (T a).2.1 ≠ (T b).2.1) ∧ parseFieldDescriptor (T kf).2.2.1 = some ty ∧ (T kf).2.2.2 = fin ∧ (fin = true → (T kf).1 = own)
theorem catsum0 {B b : Nat} {st : List Value} (hcat : (st.map Value.category).sum ≤ 8) : ((st.map (cv B b)).map fun v => v.category).sum ≤ 8 := by
  rw [List.map_map]
  have : (fun v => v.category) ∘ cv B b = Value.category := by funext v; exact cv_cat B b v
  rw [this]; exact hcat
/-- .. to be read alone -/
def FLr (own : String) (ix ci kf : Nat) : Prop := ∃ (C : String) (T : u_T) (NF : Nat), vwCl[ci]? = some (C, T, NF) ∧ kf < NF ∧ (∀ w ∈ u_ws C T NF, w ∈ LT) ∧ Cond.fieldLink own ix (T kf).1 (T kf).2.1 (T kf).2.2.1 ∈ LT
section GHeap
variable {l : Launch} {X : State → Nat → Nat → Prop} {md : MD} {d mc ms : Nat} {post : Post} {k n pc q : Nat} {al : List (Option Value)} {st : List Value} {N : NB} {h : EHp}

theorem g_get {ix ci kf i : Nat} {fs : List Value} {v : Value} (hf : FLr md.1.cls ix ci kf) (hi : i < N.1) (hh : h i = cO ci fs) (hv : fs[kf]? = some v) (hd : decode md.2.1 pc = .ok (.getfield ix, 3)) (hq : pc + 3 = q) (kk : G l X md d mc ms post k n q al (v :: st) N h) : G l X md d mc ms post k n pc al (.ref i :: st) N h := by
  subst hq
  intro p e s m args below meth c D tc B b H locs ls Q hC hE hX hH hL hK hQ
  obtain ⟨C, T, NF, hc, hk9, hin, hlk⟩ := hf
  have he := wl_at (tc := tc) (B := B) (b := b) (h := h) hi
  rw [hh] at he
  refine va_get (Ts := LT) (fs := fs.map (cv B b)) (v := cv B b v) hC.1 hC.2.1 hC.2.2.2.2.2.1 hin hC.2.2.2.2.1 hH.1 hH.2.1 i he hc kf hk9 (hC.2.2.2.2.2.1 _ hlk) (fun _ h9 => h9) (by simp [hv]) hd ?_
  exact kk p e s m args below meth c D tc B b H locs ls Q hC hE hX hH hL hK hQ
theorem g_put {ix ci kf i : Nat} {ty : FieldType} {fs : List Value} {v : Value} (hf : FLd md.1.cls ix ci kf ty false) (hi : i < N.1) (hh : h i = cO ci fs) (hl9 : kf < fs.length) (hnr : ∀ B b : Nat, narrow ty (cv B b v) = cv B b v) (hft : ∀ B b : Nat, fits ty (cv B b v) = true) (hd : decode md.2.1 pc = .ok (.putfield ix, 3)) (hq : pc + 3 = q) (kk : G l X md d mc ms post k n q al st N (ueh h i (cO ci (fs.set kf v)))) : G l X md d mc ms post k n pc al (v :: .ref i :: st) N h := by
  subst hq
  intro p e s m args below meth c D tc B b H locs ls Q hC hE hX hH hL hK hQ
  obtain ⟨C, T, NF, ty0, hc, hk9, hin, hlk, hty, hnm, hpt, hfin, hdcl⟩ := hf
  have he := wl_at (tc := tc) (B := B) (b := b) (h := h) hi
  rw [hh] at he
  refine va_put (Ts := LT) (fs := fs.map (cv B b)) (v := cv B b v) (ty := ty) hC.1 hC.2.1 hC.2.2.2.2.2.1 hin ty0 hty hnm hC.2.2.2.2.1 hH.1 hH.2.1 wl_D hH.2.2.1 i he hc kf hk9 (hC.2.2.2.2.2.1 _ hlk) (fun _ h9 => h9) hfin hpt (hnr B b) (hft B b) (by simpa using hl9) hd (fun H1 locs1 hP1 hD1 hS1 => ?_)
  have e1 : (wl tc B b N.1 h).set i (B + i, .inr (ci, (fs.map (cv B b)).set kf (cv B b v))) = wl tc B b N.1 (ueh h i (cO ci (fs.set kf v))) := by
    rw [← wl_set]
    show _ = (wl tc B b N.1 h).set i (B + i, .inr (ci, (fs.set kf v).map (cv B b)))
    rw [List.map_set]
  rw [e1] at hP1
  exact kk p e s m args below meth c D tc B b H1 locs1 ls Q hC hE hX ⟨hH.1, hP1, hS1, hH.2.2.2⟩ hL hK hQ
theorem g_putF {ix ci kf i : Nat} {ty : FieldType} {fs : List Value} {v : Value} (hf : FLd md.1.cls ix ci kf ty true) (hin2 : md.1.name = "<init>") (hi : i < N.1) (hh : h i = cO ci fs) (hl9 : kf < fs.length) (hnr : ∀ B b : Nat, narrow ty (cv B b v) = cv B b v) (hft : ∀ B b : Nat, fits ty (cv B b v) = true) (hd : decode md.2.1 pc = .ok (.putfield ix, 3)) (hq : pc + 3 = q) (kk : G l X md d mc ms post k n q al st N (ueh h i (cO ci (fs.set kf v)))) : G l X md d mc ms post k n pc al (v :: .ref i :: st) N h := by
  subst hq
  intro p e s m args below meth c D tc B b H locs ls Q hC hE hX hH hL hK hQ
  obtain ⟨C, T, NF, ty0, hc, hk9, hin, hlk, hty, hnm, hpt, hfin, hdcl⟩ := hf
  have he := wl_at (tc := tc) (B := B) (b := b) (h := h) hi
  rw [hh] at he
  refine va_putF (Ts := LT) (fs := fs.map (cv B b)) (v := cv B b v) (ty := ty) hC.1 hC.2.1 hC.2.2.2.2.2.1 hin ty0 hty hnm hC.2.2.2.2.1 hH.1 hH.2.1 wl_D hH.2.2.1 i he hc kf hk9 (hC.2.2.2.2.2.1 _ hlk) (fun _ h9 => h9) hfin (hC.2.2.2.2.2.2.2.1.trans hin2) (hdcl rfl) hpt (hnr B b) (hft B b) (by simpa using hl9) hd (fun H1 locs1 hP1 hD1 hS1 => ?_)
  have e1 : (wl tc B b N.1 h).set i (B + i, .inr (ci, (fs.map (cv B b)).set kf (cv B b v))) = wl tc B b N.1 (ueh h i (cO ci (fs.set kf v))) := by
    rw [← wl_set]
    show _ = (wl tc B b N.1 h).set i (B + i, .inr (ci, (fs.set kf v).map (cv B b)))
    rw [List.map_set]
  rw [e1] at hP1
  exact kk p e s m args below meth c D tc B b H1 locs1 ls Q hC hE hX ⟨hH.1, hP1, hS1, hH.2.2.2⟩ hL hK hQ
/-- a row of ints with one place written -/
def ui (f : Int → Int) (z x : Int) : Int → Int := fun j => if j = z then x else f j
theorem ui_s {f : Int → Int} {z x : Int} : ui f z x z = x := if_pos rfl
theorem ui_n {f : Int → Int} {z x j : Int} (h : j ≠ z) : ui f z x j = f j := if_neg h
theorem iI_upd (f : Int → Int) (z x : Int) (h0 : 0 ≤ z) : upd (fun j : Nat => iI (f j)) z.toNat (iI x) = fun j : Nat => iI (ui f z x j) := by
  funext j
  by_cases hz : j = z.toNat
  · have hj : (j : Int) = z := by omega
    simp [upd, hz, ui, hj, Int.toNat_of_nonneg h0]
  · have hj : ¬ (j : Int) = z := by omega
    simp [upd, hz, ui, hj]
theorem at_toNat (f : Int → Int) {z : Int} (h0 : 0 ≤ z) : f (z.toNat : Int) = f z := by rw [Int.toNat_of_nonneg h0]
def cpy (f g : Int → Int) (sp dp n : Int) : Int → Int := fun j => if dp ≤ j ∧ j < dp + n then f (sp + (j - dp)) else g j
theorem iI_cpy (f g : Int → Int) (sp dp n : Int) (h1 : 0 ≤ sp) (h2 : 0 ≤ dp) (h3 : 0 ≤ n) : va_cpy (fun j : Nat => iI (f j)) (fun j : Nat => iI (g j)) sp.toNat dp.toNat n.toNat = fun j : Nat => iI (cpy f g sp dp n j) := by
  funext j
  unfold va_cpy cpy
  by_cases hc : dp.toNat ≤ j ∧ j < dp.toNat + n.toNat
  · have hd : dp ≤ j ∧ (j : Int) < dp + n := by omega
    rw [if_pos hc, if_pos hd]
    have e9 : ((sp.toNat + (j - dp.toNat) : Nat) : Int) = sp + (j - dp) := by omega
    show iI (f ((sp.toNat + (j - dp.toNat) : Nat) : Int)) = _
    rw [e9]
  · have hd : ¬ (dp ≤ j ∧ (j : Int) < dp + n) := by omega
    rw [if_neg hc, if_neg hd]
theorem g_iaload {i nn : Nat} {z : Int} {f : Int → Int} (hi : i < N.1) (hh : h i = cI nn f) (h0 : 0 ≤ z) (h1 : z < nn) (hnn : nn < 2147483648) (hd : decode md.2.1 pc = .ok (.iaload, 1)) (hq : pc + 1 = q) (kk : G l X md d mc ms post k n q al (.int (iI (f z)) :: st) N h) : G l X md d mc ms post k n pc al (.int (iI z) :: .ref i :: st) N h := by
  subst hq
  intro p e s m args below meth c D tc B b H locs ls Q hC hE hX hH hL hK hQ
  have he := wl_at (tc := tc) (B := B) (b := b) (h := h) hi
  rw [hh] at he
  refine va_iald (n := nn) (f := fun j : Nat => iI (f j)) hC.1 hC.2.1 hH.1 hH.2.1 i 0 he rfl (iI_in h0 h1 hnn) hd ?_
  rw [iI_clamp h0 (by omega)]
  show W _ _ _ _ _ _ _ _ _ _ _ _ _ _ _ (F0 _ _ _ (.int (iI (f (z.toNat : Int))) :: _))
  rw [at_toNat f h0]
  exact kk p e s m args below meth c D tc B b H locs ls Q hC hE hX hH hL hK hQ
theorem g_baload {i nn : Nat} {z : Int} {f : Int → Int} (hi : i < N.1) (hh : h i = cZ nn f) (h0 : 0 ≤ z) (h1 : z < nn) (hnn : nn < 2147483648) (hd : decode md.2.1 pc = .ok (.baload, 1)) (hq : pc + 1 = q) (kk : G l X md d mc ms post k n q al (.int (iI (f z)) :: st) N h) : G l X md d mc ms post k n pc al (.int (iI z) :: .ref i :: st) N h := by
  subst hq
  intro p e s m args below meth c D tc B b H locs ls Q hC hE hX hH hL hK hQ
  have he := wl_at (tc := tc) (B := B) (b := b) (h := h) hi
  rw [hh] at he
  refine va_zald (n := nn) (f := fun j : Nat => iI (f j)) hC.1 hC.2.1 hH.1 hH.2.1 i 1 he rfl (iI_in h0 h1 hnn) hd ?_
  rw [iI_clamp h0 (by omega)]
  show W _ _ _ _ _ _ _ _ _ _ _ _ _ _ _ (F0 _ _ _ (.int (iI (f (z.toNat : Int))) :: _))
  rw [at_toNat f h0]
  exact kk p e s m args below meth c D tc B b H locs ls Q hC hE hX hH hL hK hQ
theorem g_laload {i nn : Nat} {z : Int} {f : Nat → Int64} (hi : i < N.1) (hh : h i = cJ nn f) (h0 : 0 ≤ z) (h1 : z < nn) (hnn : nn < 2147483648) (hd : decode md.2.1 pc = .ok (.laload, 1)) (hq : pc + 1 = q) (kk : G l X md d mc ms post k n q al (.long (f z.toNat) :: st) N h) : G l X md d mc ms post k n pc al (.int (iI z) :: .ref i :: st) N h := by
  subst hq
  intro p e s m args below meth c D tc B b H locs ls Q hC hE hX hH hL hK hQ
  have he := wl_at (tc := tc) (B := B) (b := b) (h := h) hi
  rw [hh] at he
  refine va_lald (n := nn) (f := f) hC.1 hC.2.1 hH.1 hH.2.1 i 2 he rfl (iI_in h0 h1 hnn) hd ?_
  rw [iI_clamp h0 (by omega)]
  skip
  exact kk p e s m args below meth c D tc B b H locs ls Q hC hE hX hH hL hK hQ
theorem g_daload {i nn : Nat} {z : Int} {f : Nat → UInt64} (hi : i < N.1) (hh : h i = cD nn f) (h0 : 0 ≤ z) (h1 : z < nn) (hnn : nn < 2147483648) (hd : decode md.2.1 pc = .ok (.daload, 1)) (hq : pc + 1 = q) (kk : G l X md d mc ms post k n q al (.double (f z.toNat) :: st) N h) : G l X md d mc ms post k n pc al (.int (iI z) :: .ref i :: st) N h := by
  subst hq
  intro p e s m args below meth c D tc B b H locs ls Q hC hE hX hH hL hK hQ
  have he := wl_at (tc := tc) (B := B) (b := b) (h := h) hi
  rw [hh] at he
  refine va_dald (n := nn) (f := f) hC.1 hC.2.1 hH.1 hH.2.1 i 3 he rfl (iI_in h0 h1 hnn) hd ?_
  rw [iI_clamp h0 (by omega)]
  skip
  exact kk p e s m args below meth c D tc B b H locs ls Q hC hE hX hH hL hK hQ
theorem g_aaload {i nn t r : Nat} {z : Int} {f : Int → Option Nat} (hi : i < N.1) (hh : h i = cR t nn f) (ht : t = 4 ∨ t = 5) (h0 : 0 ≤ z) (h1 : z < nn) (hnn : nn < 2147483648) (hr : f z = some r) (hd : decode md.2.1 pc = .ok (.aaload, 1)) (hq : pc + 1 = q) (kk : G l X md d mc ms post k n q al (.ref r :: st) N h) : G l X md d mc ms post k n pc al (.int (iI z) :: .ref i :: st) N h := by
  subst hq
  intro p e s m args below meth c D tc B b H locs ls Q hC hE hX hH hL hK hQ
  have he := wl_at (tc := tc) (B := B) (b := b) (h := h) hi
  rw [hh] at he
  rcases ht with rfl | rfl
  · refine va_aldq (n := nn) (C := RX4) (f := fun j : Nat => (f j).map (B + ·)) hC.1 hC.2.1 hH.1 hH.2.1 i 4 he rfl (iI_in h0 h1 hnn) hd ?_
    rw [iI_clamp h0 (by omega), Int.toNat_of_nonneg h0, hr]
    exact kk p e s m args below meth c D tc B b H locs ls Q hC hE hX hH hL hK hQ
  · refine va_aldq (n := nn) (C := RX6) (f := fun j : Nat => (f j).map (B + ·)) hC.1 hC.2.1 hH.1 hH.2.1 i 5 he rfl (iI_in h0 h1 hnn) hd ?_
    rw [iI_clamp h0 (by omega), Int.toNat_of_nonneg h0, hr]
    exact kk p e s m args below meth c D tc B b H locs ls Q hC hE hX hH hL hK hQ
theorem g_iastore {i nn : Nat} {z : Int} {x : Int} {f : Int → Int} (hi : i < N.1) (hh : h i = cI nn f) (h0 : 0 ≤ z) (h1 : z < nn) (hnn : nn < 2147483648) (hd : decode md.2.1 pc = .ok (.iastore, 1)) (hq : pc + 1 = q) (kk : G l X md d mc ms post k n q al st N (ueh h i (cI nn (ui f z x)))) : G l X md d mc ms post k n pc al (.int (iI x) :: .int (iI z) :: .ref i :: st) N h := by
  subst hq
  intro p e s m args below meth c D tc B b H locs ls Q hC hE hX hH hL hK hQ
  have he := wl_at (tc := tc) (B := B) (b := b) (h := h) hi
  rw [hh] at he
  refine va_iast (n := nn) (f := fun j : Nat => iI (f j)) hC.1 hC.2.1 hH.1 hH.2.1 wl_D hH.2.2.1 i 0 he rfl (iI_in h0 h1 hnn) hd (fun H1 locs1 hP1 hD1 hS1 => ?_)
  rw [iI_clamp h0 (by omega), iI_upd f z x h0] at hP1
  have hP2 : va_P D vwCl (wl tc B b N.1 (ueh h i (cI nn (ui f z x)))) H1 := by rw [← wl_set]; exact hP1
  exact kk p e s m args below meth c D tc B b H1 locs1 ls Q hC hE hX ⟨hH.1, hP2, hS1, hH.2.2.2⟩ hL hK hQ
theorem g_bastore {i nn : Nat} {z : Int} {x : Int} {f : Int → Int} (hx : x = 0 ∨ x = 1) (hi : i < N.1) (hh : h i = cZ nn f) (h0 : 0 ≤ z) (h1 : z < nn) (hnn : nn < 2147483648) (hd : decode md.2.1 pc = .ok (.bastore, 1)) (hq : pc + 1 = q) (kk : G l X md d mc ms post k n q al st N (ueh h i (cZ nn (ui f z x)))) : G l X md d mc ms post k n pc al (.int (iI x) :: .int (iI z) :: .ref i :: st) N h := by
  subst hq
  intro p e s m args below meth c D tc B b H locs ls Q hC hE hX hH hL hK hQ
  have he := wl_at (tc := tc) (B := B) (b := b) (h := h) hi
  rw [hh] at he
  refine va_zast (n := nn) (f := fun j : Nat => iI (f j)) hC.1 hC.2.1 hH.1 hH.2.1 wl_D hH.2.2.1 i 1 he rfl (iI_in h0 h1 hnn) hd (fun H1 locs1 hP1 hD1 hS1 => ?_)
  rw [iI_clamp h0 (by omega), show vp_nar .boolean (iI x) = iI x from by rcases hx with rfl | rfl <;> decide, iI_upd f z x h0] at hP1
  have hP2 : va_P D vwCl (wl tc B b N.1 (ueh h i (cZ nn (ui f z x)))) H1 := by rw [← wl_set]; exact hP1
  exact kk p e s m args below meth c D tc B b H1 locs1 ls Q hC hE hX ⟨hH.1, hP2, hS1, hH.2.2.2⟩ hL hK hQ
theorem g_lastore {i nn : Nat} {z : Int} {x : Int64} {f : Nat → Int64} (hi : i < N.1) (hh : h i = cJ nn f) (h0 : 0 ≤ z) (h1 : z < nn) (hnn : nn < 2147483648) (hd : decode md.2.1 pc = .ok (.lastore, 1)) (hq : pc + 1 = q) (kk : G l X md d mc ms post k n q al st N (ueh h i (cJ nn (vp_updL f z.toNat x)))) : G l X md d mc ms post k n pc al (.long x :: .int (iI z) :: .ref i :: st) N h := by
  subst hq
  intro p e s m args below meth c D tc B b H locs ls Q hC hE hX hH hL hK hQ
  have he := wl_at (tc := tc) (B := B) (b := b) (h := h) hi
  rw [hh] at he
  refine va_last (n := nn) (f := f) hC.1 hC.2.1 hH.1 hH.2.1 wl_D hH.2.2.1 i 2 he rfl (iI_in h0 h1 hnn) hd (fun H1 locs1 hP1 hD1 hS1 => ?_)
  rw [iI_clamp h0 (by omega)] at hP1
  have hP2 : va_P D vwCl (wl tc B b N.1 (ueh h i (cJ nn (vp_updL f z.toNat x)))) H1 := by rw [← wl_set]; exact hP1
  exact kk p e s m args below meth c D tc B b H1 locs1 ls Q hC hE hX ⟨hH.1, hP2, hS1, hH.2.2.2⟩ hL hK hQ
theorem g_dastore {i nn : Nat} {z : Int} {x : UInt64} {f : Nat → UInt64} (hi : i < N.1) (hh : h i = cD nn f) (h0 : 0 ≤ z) (h1 : z < nn) (hnn : nn < 2147483648) (hd : decode md.2.1 pc = .ok (.dastore, 1)) (hq : pc + 1 = q) (kk : G l X md d mc ms post k n q al st N (ueh h i (cD nn (vf_upd f z.toNat x)))) : G l X md d mc ms post k n pc al (.double x :: .int (iI z) :: .ref i :: st) N h := by
  subst hq
  intro p e s m args below meth c D tc B b H locs ls Q hC hE hX hH hL hK hQ
  have he := wl_at (tc := tc) (B := B) (b := b) (h := h) hi
  rw [hh] at he
  refine va_dast (n := nn) (f := f) hC.1 hC.2.1 hH.1 hH.2.1 wl_D hH.2.2.1 i 3 he rfl (iI_in h0 h1 hnn) hd (fun H1 locs1 hP1 hD1 hS1 => ?_)
  rw [iI_clamp h0 (by omega)] at hP1
  have hP2 : va_P D vwCl (wl tc B b N.1 (ueh h i (cD nn (vf_upd f z.toNat x)))) H1 := by rw [← wl_set]; exact hP1
  exact kk p e s m args below meth c D tc B b H1 locs1 ls Q hC hE hX ⟨hH.1, hP2, hS1, hH.2.2.2⟩ hL hK hQ
theorem g_alen {i nn : Nat} {f : Int → Int} (hi : i < N.1) (hh : h i = cI nn f) (hd : decode md.2.1 pc = .ok (.arraylength, 1)) (hq : pc + 1 = q) (kk : G l X md d mc ms post k n q al (.int (iI nn) :: st) N h) : G l X md d mc ms post k n pc al (.ref i :: st) N h := by
  subst hq
  intro p e s m args below meth c D tc B b H locs ls Q hC hE hX hH hL hK hQ
  have he := wl_at (tc := tc) (B := B) (b := b) (h := h) hi
  rw [hh] at he
  refine va_alen (x := (nn, .inl (fun j : Nat => iI (f j)))) hC.1 hC.2.1 hH.1 hH.2.1 i 0 he rfl rfl hd ?_
  have := kk p e s m args below meth c D tc B b H locs ls Q hC hE hX hH hL hK hQ
  rw [show Int32.ofNat nn = iI nn from (iI_nI nn).symm]
  exact this
def ACp (own : String) (ix : Nat) : Prop := Cond.methodLink own ix arraycopyName ∈ LT ∧ Cond.native arraycopyName ∈ LT ∧ Cond.static arraycopyName ∈ LT ∧ Cond.initialized "java/lang/System" ∈ LT
theorem g_copy {ix i0 i1 n0 n1 : Nat} {sp dp nn : Int} {f g : Int → Int} (ha : ACp md.1.cls ix) (hi0 : i0 < N.1) (hh0 : h i0 = cI n0 f) (hi1 : i1 < N.1) (hh1 : h i1 = cI n1 g) (h1 : 0 ≤ sp) (h2 : 0 ≤ dp) (h3 : 0 ≤ nn) (h4 : sp + nn ≤ n0) (h5 : dp + nn ≤ n1) (hb0 : n0 < 2147483648) (hb1 : n1 < 2147483648) (hcat : (st.map Value.category).sum ≤ 8) (hdd : 1 ≤ d) (hd : decode md.2.1 pc = .ok (.invokestatic ix, 3)) (hq : pc + 3 = q) (kk : G l X md d mc ms post k n q al st N (ueh h i1 (cI n1 (cpy f g sp dp nn)))) : G l X md d mc ms post k n pc al (.int (iI nn) :: .int (iI dp) :: .ref i1 :: .int (iI sp) :: .ref i0 :: st) N h := by
  subst hq
  intro p e s m args below meth c D tc B b H locs ls Q hC hE hX hH hL hK hQ
  have he0 := wl_at (tc := tc) (B := B) (b := b) (h := h) hi0
  rw [hh0] at he0
  have he1 := wl_at (tc := tc) (B := B) (b := b) (h := h) hi1
  rw [hh1] at he1
  have hts := hC.2.2.2.2.2.1
  have pos : ∀ z : Int, 0 ≤ z → z < 2147483648 → ¬ iI z < 0 := fun z hz hz2 => by rw [iI_lt0 ⟨by omega, by omega⟩]; omega
  have hcat2 := catsum0 (B := B) (b := b) hcat
  refine va_copyi (f := fun j : Nat => iI (f j)) (g := fun j : Nat => iI (g j)) (n0 := n0) (n1 := n1) (ty := .int) hC.1 hC.2.1 (hC.2.2.1.trans hL.1.symm) hC.2.2.2.2.1 (hts _ ha.1) (hts _ ha.2.1) (hts _ ha.2.2.1) (hts _ ha.2.2.2) hH.1 hH.2.1 wl_D hH.2.2.1 i0 i1 0 0 he0 he1 rfl rfl rfl (pos sp h1 (by omega)) (pos dp h2 (by omega)) (pos nn h3 (by omega)) (by rw [iI_clamp h1 (by omega), iI_clamp h3 (by omega)]; omega) (by rw [iI_clamp h2 (by omega), iI_clamp h3 (by omega)]; omega) (fun _ _ => rfl) hdd (by
    have e9 : nativeFrameWords "java/lang/System" "arraycopy" 5 + 11 ≤ 29 := by decide +kernel
    show _ ≤ 37 * d
    omega) hd (fun H1 locs1 hP1 hD1 hS1 => ?_)
  rw [iI_clamp h1 (by omega), iI_clamp h2 (by omega), iI_clamp h3 (by omega), iI_cpy f g sp dp nn h1 h2 h3] at hP1
  have hP2 : va_P D vwCl (wl tc B b N.1 (ueh h i1 (cI n1 (cpy f g sp dp nn)))) H1 := by rw [← wl_set]; exact hP1
  exact kk p e s m args below meth c D tc B b H1 locs1 ls Q hC hE hX ⟨hH.1, hP2, hS1, hH.2.2.2⟩ hL hK hQ
end GHeap
end
section
/-! ===== calls, throws, handlers ===== -/
theorem LT_goodIn {ws : List Cond} (h : ∀ w ∈ ws, w ∈ LT) : GoodIn LT ws := fun w hw => ⟨h w hw, good_of_word (LT_good w (h w hw))⟩
theorem PK_blind {l : Launch} {D : va_G} {tc : Nat → ClassId} {B b : Nat} {N : NB} {h : EHp} {av : List Value} : FrameBlind (va_Pc (av.map (cv B b)) (fun U => PK D tc B b N h U ∧ EV l B U)) := by
  intro a U g mk q
  obtain ⟨q0, ⟨qP, qK, q3, q4⟩, qE⟩ := q
  exact ⟨q0, ⟨qP, va_K.moved (u := U) (U := U.calling g mk a) (Vm.Alike.refl U.vm) qK, q3, q4⟩, EV.warm (U := U.calling g mk a) qE (State.WarmedH.refl U) (fun _ _ _ => rfl)⟩
theorem PK_pre {l : Launch} {D : va_G} {tc : Nat → ClassId} {B b k : Nat} {N : NB} {h : EHp} {s : State} {H : Heap} {locs : List Loc} (hH : HR D tc B b N h s H locs k) (hE : EV l B s) (hsz : N.2 = true → H.size = B + N.1) : ∀ U : State, U.heap = H → s.WarmedH U.vm → PK D tc B b N h U ∧ EV l B U := by
  intro U hU hW
  refine ⟨⟨by rw [hU]; exact hH.2.1, va_K.moved hW.alike hH.1, ?_, by rw [hU]; exact hsz⟩, EV.warm hE hW (fun a h1 h2 => ?_)⟩
  · rw [hU]; exact Nat.le_trans hH.2.2.2.1 hH.2.2.1.1
  · rw [hU]; exact hH.2.2.1.2.1 a h1 h2
/-- what follows a call -/
theorem g_after {p : Program} {l : Launch} {e : Env} {R : Room} {s : State} {m : MethodId} {args : Array Value} {below : List Frame} {meth : Method} {c : Code} {D : va_G} {tc : Nat → ClassId} {B b k n mc' ms' pc : Nat} {N : NB} {h : EHp} {H : Heap} {locs : List Loc} {ls : Array Slot} {st0 rest : List Value} {a : Array Value} {post' : Post} {Q : State → Prop}
    (hH : HR D tc B b N h s H locs k) (hr : vx_Run p l e R s m args below meth c H locs k n mc' ms' (F0 m pc ls st0) rest (QQ D tc B b post' a) (XX D tc B b post') (fun q => B ≤ q))
    (hN : ∀ r N' h', post' (.inl r) N' h' → N'.2 = true → N.2 = true ∧ N'.1 = N.1 + mc') (hNx : ∀ E N' h', post' (.inr E) N' h' → N'.2 = false)
    (kk : ∀ (r : Option Value) (N' : NB) (h' : EHp) (H1 : Heap) (locs1 : List Loc), post' (.inl r) N' h' → HR D tc B b N' h' s H1 locs1 (k + mc') → W p l e R s m args below meth c H1 locs1 (k + mc') (n + ms') Q (F0 m (pc + 3) ls ((r.map (cv B b)).toList ++ rest)))
    (kx : ∀ (E : String) (N' : NB) (h' : EHp) (H1 : Heap) (locs1 : List Loc) (q9 : Addr) (ce : Cell), post' (.inr E) N' h' → HR D tc B b N' h' s H1 locs1 (k + mc') → H1[q9]? = some ce → ce.vm = .none → s.vm.findClass E = some ce.cls → vx_W p l e R s m args below meth c H1 locs1 (k + mc') (n + ms') Q (F0 m pc ls rest) q9) :
    W p l e R s m args below meth c H locs k n Q (F0 m pc ls st0) := by
  intro T hT hX
  rcases hr T hT hX with ⟨v, st₀, t, T', L, h0, X', hL, e1, e2, ⟨⟨r, N', h', hv, hp, hP1, hK1, hB1, hz1⟩, hF⟩, st⟩ | ⟨q, st₀, t, T', L, E, cE, h0, X', hL, e1, e2, ⟨⟨N', h', hp, hP1, hK1, hB1, hz1⟩, hF⟩, hce, hcv, hcl, st⟩
  · cases hv
    obtain ⟨k1, k2, k3⟩ := vx_keep (A0 := fun q => B ≤ q) h0 e1 hH.2.2.1 (fun _ _ z => z) (fun _ z => z) hL hF
    have hA : s.vm.Alike t.vm := by rw [← e2]; exact X'.warmed.alike
    obtain ⟨t2, a1, b1⟩ := kk r N' h' T'.heap (locs ++ L) hp ⟨va_K.moved hA.symm hK1, by rw [e1]; exact hP1, k3, hH.2.2.2.1, fun z => by
      have h1 := hN r N' h' hp z
      have h2 := hH.2.2.2.2 h1.1
      omega⟩ T' rfl X'
    exact ⟨t2, st t2 a1, b1⟩
  · obtain ⟨k1, k2, k3⟩ := vx_keep (A0 := fun q => B ≤ q) h0 e1 hH.2.2.1 (fun _ _ z => z) (fun _ z => z) hL hF
    have hA : s.vm.Alike t.vm := by rw [← e2]; exact X'.warmed.alike
    obtain ⟨t2, a1, b1⟩ := kx E N' h' T'.heap (locs ++ L) q cE hp ⟨va_K.moved hA.symm hK1, by rw [e1]; exact hP1, k3, hH.2.2.2.1, fun z => by rw [hNx E N' h' hp] at z; cases z⟩ (by rw [e1]; exact hce) hcv hcl T' rfl X'
    exact ⟨t2, st.trans a1, b1⟩
/-- an exception goes on to the caller -/
theorem g_outx {p : Program} {l : Launch} {e : Env} {R : Room} {s : State} {m : MethodId} {args : Array Value} {below : List Frame} {meth : Method} {c : Code} {md : MD} {D : va_G} {tc : Nat → ClassId} {B b k n mc ms pc : Nat} {N : NB} {h : EHp} {H : Heap} {locs : List Loc} {ls : Array Slot} {rest : List Value} {post : Post} {Q : State → Prop} {E : String} {q9 : Addr} {ce : Cell}
    (hC : CX p s m args meth c md) (hH : HR D tc B b N h s H locs k) (hQ : Q = vx_MQ below (QQ D tc B b post) (XX D tc B b post) args s mc ms (fun q => B ≤ q) ∨ ∀ E N' h', ¬ post (.inr E) N' h')
    (hp : post (.inr E) N h) (hz : N.2 = false) (hout : ∀ x ∈ tableOf md.2.2.2.2, covers x pc = false) (hc : k ≤ mc) (hs : n ≤ ms) (h1 : H[q9]? = some ce) (h2 : ce.vm = .none) (h3 : s.vm.findClass E = some ce.cls) : vx_W p l e R s m args below meth c H locs k n Q (F0 m pc ls rest) q9 := by
  rcases hQ with rfl | hQ
  · refine vx_out (by rw [hC.2.2.2.2.2.2.2.2]; exact hout) hC.2.2.2.2.2.2.1 h1 h2 h3 (fun t ht hA => ?_) hH.2.2.1.2.2 hc hs
    refine ⟨⟨N, h, hp, by rw [ht]; exact hH.2.1, va_K.moved hA hH.1, ?_, fun z => by rw [hz] at z; cases z⟩, hH.2.2.1.F ht⟩
    rw [ht]; exact Nat.le_trans hH.2.2.2.1 hH.2.2.1.1
  · exact absurd hp (hQ E N h)
def CVd (own : String) (ix ci : Nat) (cd : MD) (nA : Nat) : Prop := (∃ (T : u_T) (NF : Nat), vwCl[ci]? = some (cd.1.cls, T, NF)) ∧ Cond.methodLink own ix cd.1 ∈ LT ∧ Cond.instanceMethod cd.1 ∈ LT ∧ Cond.selects cd.1.cls cd.1 cd.1 ∈ LT ∧ Cond.initialized cd.1.cls ∈ LT ∧ Cond.code cd.1 cd.2.1 cd.2.2.1 cd.2.2.2.1 ∈ LT ∧ cd.2.2.2.2 = [] ∧ (cd.1.cls ≠ "java/lang/invoke/MethodHandle" ∧ cd.1.cls ≠ "java/lang/invoke/VarHandle" ∧ (parseMethodDescriptor cd.1.desc).map (fun d => d.parameters.length) = some nA)
def CSd (own : String) (ix : Nat) (cd : MD) (nA : Nat) : Prop := Cond.methodLink own ix cd.1 ∈ LT ∧ Cond.static cd.1 ∈ LT ∧ Cond.initialized cd.1.cls ∈ LT ∧ Cond.code cd.1 cd.2.1 cd.2.2.1 cd.2.2.2.1 ∈ LT ∧ cd.2.2.2.2 = [] ∧ (cd.1.cls ≠ "java/lang/invoke/MethodHandle" ∧ cd.1.cls ≠ "java/lang/invoke/VarHandle" ∧ (parseMethodDescriptor cd.1.desc).map (fun d => d.parameters.length) = some nA)
def CSw (own : String) (ix : Nat) (cd : MD) (nA : Nat) : Prop := Cond.methodLink own ix cd.1 ∈ LT ∧ Cond.static cd.1 ∈ LT ∧ Cond.initialized cd.1.cls ∈ LT ∧ Cond.codeWith cd.1 cd.2.1 cd.2.2.1 cd.2.2.2.1 cd.2.2.2.2 ∈ LT ∧ cd.2.2.2.2 ≠ [] ∧ (cd.1.cls ≠ "java/lang/invoke/MethodHandle" ∧ cd.1.cls ≠ "java/lang/invoke/VarHandle" ∧ (parseMethodDescriptor cd.1.desc).map (fun d => d.parameters.length) = some nA)
def CId (own : String) (ix : Nat) (cd : MD) (nA : Nat) : Prop := Cond.methodLink own ix cd.1 ∈ LT ∧ Cond.instanceMethod cd.1 ∈ LT ∧ cd.1.name = "<init>" ∧ Cond.initialized cd.1.cls ∈ LT ∧ Cond.code cd.1 cd.2.1 cd.2.2.1 none ∈ LT ∧ cd.2.2.2.1 = none ∧ cd.2.2.2.2 = [] ∧ (cd.1.cls ≠ "java/lang/invoke/MethodHandle" ∧ cd.1.cls ≠ "java/lang/invoke/VarHandle" ∧ (parseMethodDescriptor cd.1.desc).map (fun d => d.parameters.length) = some nA)
def CNd (own : String) (ix : Nat) (cd : MD) (host : String) (nA : Nat) : Prop := (own, ix, cd.1, host) ∈ nwM ∧ Cond.instanceMethod cd.1 ∈ LT ∧ cd.1.name = "<init>" ∧ Cond.initialized cd.1.cls ∈ LT ∧ Cond.code cd.1 cd.2.1 cd.2.2.1 none ∈ LT ∧ cd.2.2.2.1 = none ∧ cd.2.2.2.2 = [] ∧ (cd.1.cls ≠ "java/lang/invoke/MethodHandle" ∧ cd.1.cls ≠ "java/lang/invoke/VarHandle" ∧ (parseMethodDescriptor cd.1.desc).map (fun d => d.parameters.length) = some nA)
theorem wsM_nil {md : MD} (h : md.2.2.2.2 = []) : wsM md = Cond.code md.1 md.2.1 md.2.2.1 md.2.2.2.1 :: LT := by
  unfold wsM
  rw [h]
theorem wsM_cons {md : MD} (h : md.2.2.2.2 ≠ []) : wsM md = Cond.codeWith md.1 md.2.1 md.2.2.1 md.2.2.2.1 md.2.2.2.2 :: LT := by
  unfold wsM
  cases hh : md.2.2.2.2 with
  | nil => exact absurd hh h
  | cons z r => rfl
theorem catsum {B b : Nat} {st : List Value} (hcat : (st.map Value.category).sum ≤ 8) : ((st.map (cv B b)).map fun v => v.category).sum ≤ 8 := by
  rw [List.map_map]
  have : (fun v => v.category) ∘ cv B b = Value.category := by funext v; exact cv_cat B b v
  rw [this]; exact hcat
theorem monroom {m : MethodId} {pc : Nat} {ls : Array Slot} {st0 : List Value} {rest : List Value} (h : (rest.map fun v => v.category).sum ≤ 8) : 2 * (F0 m pc ls st0).monitorRoom + (rest.map fun v => v.category).sum ≤ 8 := lv_room h
section GCall
variable {l : Launch} {X : State → Nat → Nat → Prop} {md : MD} {d mc ms : Nat} {post : Post} {k n pc q : Nat} {al : List (Option Value)} {st st0 : List Value} {N : NB} {h : EHp} {cd : MD} {ix ci nA d' mc' ms' i : Nat} {av : List Value} {fs : List Value} {post' : Post}
/-- a caller without a table: what its callee throws goes on -/
theorem g_callV (hw : CVd md.1.cls ix ci cd nA) (hM : CT l cd d' mc' ms' (.ref i :: av) N h post') (hi : i < N.1) (hh : h i = cO ci fs) (hlen : av.length = nA) (hcat : (st.map Value.category).sum ≤ 8) (hfr : d' + 1 ≤ d ∧ 8 + (cd.2.2.1 + 11) + 37 * d' ≤ 37 * d) (hrm : k + mc' ≤ mc ∧ n + ms' ≤ ms) (htb : md.2.2.2.2 = [])
    (hN : ∀ r N' h', post' (.inl r) N' h' → N'.2 = true → N.2 = true ∧ N'.1 = N.1 + mc') (hNx : ∀ E N' h', post' (.inr E) N' h' → N'.2 = false ∧ post (.inr E) N' h') (hs0 : st0 = av.reverse ++ .ref i :: st) (hd : decode md.2.1 pc = .ok (.invokevirtual ix, 3)) (hq : pc + 3 = q)
    (kk : ∀ r N' h', post' (.inl r) N' h' → G l X md d mc ms post (k + mc') (n + ms') q al (r.toList ++ st) N' h') : G l X md d mc ms post k n pc al st0 N h := by
  subst hq hs0
  intro p e s m args below meth c D tc B b H locs ls Q hC hE hX hH hL hK hQ T hT hS
  have hsz := fun z => hH.tight hT hS.heapSize z
  obtain ⟨⟨TT, NF, hcl⟩, w1, w2, w3, w4, w5, w6, w7⟩ := hw
  have hts := hC.2.2.2.2.2.1
  have he := wl_at (tc := tc) (B := B) (b := b) (h := h) hi
  rw [hh] at he
  refine g_after hH (vx_runV (Ts := LT) (cc := md.2.1) (nL := md.2.2.1) (own := md.1.cls) (As := av.map (cv B b)) (rest := st.map (cv B b)) (b := B + i) ⟨hC.1, hC.2.1, hC.2.2.1, hC.2.2.2.2.1, hts⟩ (hM D tc B b) (cwV (C := cd.1.cls) (index := ix) nA hts (LT_goodIn (by rw [wsM_nil w6]; intro w hw; simp only [wsV, List.cons_append, List.nil_append, List.mem_cons] at hw; rcases hw with rfl | rfl | rfl | rfl | rfl | hw <;> assumption)) (wsM_nil w6) rfl rfl ⟨rfl, w7⟩ hfr) ⟨PK_blind, va_recv hH.1 hH.2.1 hcl he, fun U hU hW => ⟨rfl, PK_pre hH hE hsz U hU hW⟩⟩ rfl (by simpa using hlen) hL.1 (by simp [cv]) (monroom (catsum hcat)) hd hrm) hN (fun E N' h' z => (hNx E N' h' z).1) (fun r N' h' H1 locs1 hp hH1 => ?_) (fun E N' h' H1 locs1 q9 ce hp hH1 g1 g2 g3 => ?_) T hT hS
  · have := kk r N' h' hp p e s m args below meth c D tc B b H1 locs1 ls Q hC hE hX hH1 hL hK hQ
    cases r <;> exact this
  · exact g_outx hC hH1 hQ (hNx E N' h' hp).2 (hNx E N' h' hp).1 (by rw [htb]; intro x hx; cases hx) hrm.1 hrm.2 g1 g2 g3
theorem g_callS (hw : CSd md.1.cls ix cd nA) (hM : CT l cd d' mc' ms' av N h post') (hlen : av.length = nA) (hcat : (st.map Value.category).sum ≤ 8) (hfr : d' + 1 ≤ d ∧ 8 + (cd.2.2.1 + 11) + 37 * d' ≤ 37 * d) (hrm : k + mc' ≤ mc ∧ n + ms' ≤ ms) (htb : md.2.2.2.2 = [])
    (hN : ∀ r N' h', post' (.inl r) N' h' → N'.2 = true → N.2 = true ∧ N'.1 = N.1 + mc') (hNx : ∀ E N' h', post' (.inr E) N' h' → N'.2 = false ∧ post (.inr E) N' h') (hs0 : st0 = av.reverse ++ st) (hd : decode md.2.1 pc = .ok (.invokestatic ix, 3)) (hq : pc + 3 = q)
    (kk : ∀ r N' h', post' (.inl r) N' h' → G l X md d mc ms post (k + mc') (n + ms') q al (r.toList ++ st) N' h') : G l X md d mc ms post k n pc al st0 N h := by
  subst hq hs0
  intro p e s m args below meth c D tc B b H locs ls Q hC hE hX hH hL hK hQ T hT hS
  have hsz := fun z => hH.tight hT hS.heapSize z
  obtain ⟨w1, w2, w4, w5, w6, w7⟩ := hw
  have hts := hC.2.2.2.2.2.1
  refine g_after hH (vx_runS (Ts := LT) (cc := md.2.1) (nL := md.2.2.1) (own := md.1.cls) (As := av.map (cv B b)) (rest := st.map (cv B b)) ⟨hC.1, hC.2.1, hC.2.2.1, hC.2.2.2.2.1, hts⟩ (hM D tc B b) (va_cwS (index := ix) nA hts (LT_goodIn (by rw [wsM_nil w6]; intro w hw; simp only [va_wsS, List.cons_append, List.nil_append, List.mem_cons] at hw; rcases hw with rfl | rfl | rfl | rfl | hw <;> assumption)) (wsM_nil w6) rfl rfl w7 hfr) ⟨PK_blind, fun U hU hW => ⟨rfl, PK_pre hH hE hsz U hU hW⟩⟩ rfl (by simpa using hlen) hL.1 (by simp) (monroom (catsum hcat)) hd hrm) hN (fun E N' h' z => (hNx E N' h' z).1) (fun r N' h' H1 locs1 hp hH1 => ?_) (fun E N' h' H1 locs1 q9 ce hp hH1 g1 g2 g3 => ?_) T hT hS
  · have := kk r N' h' hp p e s m args below meth c D tc B b H1 locs1 ls Q hC hE hX hH1 hL hK hQ
    cases r <;> exact this
  · exact g_outx hC hH1 hQ (hNx E N' h' hp).2 (hNx E N' h' hp).1 (by rw [htb]; intro x hx; cases hx) hrm.1 hrm.2 g1 g2 g3
theorem g_callSw (hw : CSw md.1.cls ix cd nA) (hM : CT l cd d' mc' ms' av N h post') (hlen : av.length = nA) (hcat : (st.map Value.category).sum ≤ 8) (hfr : d' + 1 ≤ d ∧ 8 + (cd.2.2.1 + 11) + 37 * d' ≤ 37 * d) (hrm : k + mc' ≤ mc ∧ n + ms' ≤ ms) (htb : md.2.2.2.2 = [])
    (hN : ∀ r N' h', post' (.inl r) N' h' → N'.2 = true → N.2 = true ∧ N'.1 = N.1 + mc') (hNx : ∀ E N' h', post' (.inr E) N' h' → N'.2 = false ∧ post (.inr E) N' h') (hs0 : st0 = av.reverse ++ st) (hd : decode md.2.1 pc = .ok (.invokestatic ix, 3)) (hq : pc + 3 = q)
    (kk : ∀ r N' h', post' (.inl r) N' h' → G l X md d mc ms post (k + mc') (n + ms') q al (r.toList ++ st) N' h') : G l X md d mc ms post k n pc al st0 N h := by
  subst hq hs0
  intro p e s m args below meth c D tc B b H locs ls Q hC hE hX hH hL hK hQ T hT hS
  have hsz := fun z => hH.tight hT hS.heapSize z
  obtain ⟨w1, w2, w4, w5, w6, w7⟩ := hw
  have hts := hC.2.2.2.2.2.1
  refine g_after hH (vx_runSX (Ts := LT) (cc := md.2.1) (nL := md.2.2.1) (own := md.1.cls) (As := av.map (cv B b)) (rest := st.map (cv B b)) ⟨hC.1, hC.2.1, hC.2.2.1, hC.2.2.2.2.1, hts⟩ (hM D tc B b) (vx_cwSW (index := ix) nA hts (LT_goodIn (by rw [wsM_cons w6]; intro w hw; simp only [va_wsS, List.cons_append, List.nil_append, List.mem_cons] at hw; rcases hw with rfl | rfl | rfl | rfl | hw <;> assumption)) (wsM_cons w6) rfl rfl w7 hfr) ⟨PK_blind, fun U hU hW => ⟨rfl, PK_pre hH hE hsz U hU hW⟩⟩ rfl (by simpa using hlen) hL.1 (by simp) (monroom (catsum hcat)) hd hrm) hN (fun E N' h' z => (hNx E N' h' z).1) (fun r N' h' H1 locs1 hp hH1 => ?_) (fun E N' h' H1 locs1 q9 ce hp hH1 g1 g2 g3 => ?_) T hT hS
  · have := kk r N' h' hp p e s m args below meth c D tc B b H1 locs1 ls Q hC hE hX hH1 hL hK hQ
    cases r <;> exact this
  · exact g_outx hC hH1 hQ (hNx E N' h' hp).2 (hNx E N' h' hp).1 (by rw [htb]; intro x hx; cases hx) hrm.1 hrm.2 g1 g2 g3
/-- a caller with a table: what its callee throws is caught by the row (sp, ep, hp, ct), the rows ahead don't take it; the handler stores it at once into the local j -/
theorem g_callVH {sp ep hp0 ct j q2 : Nat} {pre suf : List (Nat × Nat × Nat × Nat)} {Eh : String} (hw : CVd md.1.cls ix ci cd nA) (hM : CT l cd d' mc' ms' (.ref i :: av) N h post') (hi : i < N.1) (hh : h i = cO ci fs) (hlen : av.length = nA) (hcat : (st.map Value.category).sum ≤ 8) (hfr : d' + 1 ≤ d ∧ 8 + (cd.2.2.1 + 11) + 37 * d' ≤ 37 * d) (hrm : k + mc' ≤ mc ∧ n + ms' ≤ ms)
    (hN : ∀ r N' h', post' (.inl r) N' h' → N'.2 = true → N.2 = true ∧ N'.1 = N.1 + mc') (hNx : ∀ E N' h', post' (.inr E) N' h' → N'.2 = false ∧ E = Eh) (hs0 : st0 = av.reverse ++ .ref i :: st) (hd : decode md.2.1 pc = .ok (.invokevirtual ix, 3)) (hq : pc + 3 = q)
    (htb : md.2.2.2.2 = pre ++ (sp, ep, hp0, ct) :: suf) (hpre : ∀ z ∈ pre, z.2.2.2 ≠ 0 ∧ ∃ nm : String, Cond.classLink md.1.cls z.2.2.2 nm ∈ LT ∧ (Eh, nm) ∈ ncL) (hcov : sp ≤ pc ∧ pc < ep) (hct : ct ≠ 0) (hlk : Cond.classLink md.1.cls ct Eh ∈ LT) (hcs : (Eh, Eh) ∈ nwC)
    (hd2 : (∃ jj : Fin 4, (jj : Nat) = j ∧ decode md.2.1 hp0 = .ok (.astore_n jj, 1) ∧ hp0 + 1 = q2) ∨ (decode md.2.1 hp0 = .ok (.astore j, 2) ∧ hp0 + 2 = q2)) (hj : j < md.2.2.1) (hok : okS al j = true)
    (kk : ∀ r N' h', post' (.inl r) N' h' → G l X md d mc ms post (k + mc') (n + ms') q al (r.toList ++ st) N' h') (kx : ∀ N' h', post' (.inr Eh) N' h' → G l X md d mc ms post (k + mc') (n + ms') q2 (al.set j none) [] N' h') : G l X md d mc ms post k n pc al st0 N h := by
  subst hq hs0
  intro p e s m args below meth c D tc B b H locs ls Q hC hE hX hH hL hK hQ T hT hS
  have hsz := fun z => hH.tight hT hS.heapSize z
  obtain ⟨⟨TT, NF, hcl⟩, w1, w2, w3, w4, w5, w6, w7⟩ := hw
  have hts := hC.2.2.2.2.2.1
  have he := wl_at (tc := tc) (B := B) (b := b) (h := h) hi
  rw [hh] at he
  refine g_after hH (vx_runV (Ts := LT) (cc := md.2.1) (nL := md.2.2.1) (own := md.1.cls) (As := av.map (cv B b)) (rest := st.map (cv B b)) (b := B + i) ⟨hC.1, hC.2.1, hC.2.2.1, hC.2.2.2.2.1, hts⟩ (hM D tc B b) (cwV (C := cd.1.cls) (index := ix) nA hts (LT_goodIn (by rw [wsM_nil w6]; intro w hw; simp only [wsV, List.cons_append, List.nil_append, List.mem_cons] at hw; rcases hw with rfl | rfl | rfl | rfl | rfl | hw <;> assumption)) (wsM_nil w6) rfl rfl ⟨rfl, w7⟩ hfr) ⟨PK_blind, va_recv hH.1 hH.2.1 hcl he, fun U hU hW => ⟨rfl, PK_pre hH hE hsz U hU hW⟩⟩ rfl (by simpa using hlen) hL.1 (by simp [cv]) (monroom (catsum hcat)) hd hrm) hN (fun E N' h' z => (hNx E N' h' z).1) (fun r N' h' H1 locs1 hp hH1 => ?_) (fun E N' h' H1 locs1 q9 ce hp hH1 g1 g2 g3 => ?_) T hT hS
  · have := kk r N' h' hp p e s m args below meth c D tc B b H1 locs1 ls Q hC hE hX hH1 hL hK hQ
    cases r <;> exact this
  · obtain ⟨-, rfl⟩ := hNx E N' h' hp
    refine vx_catch hC.2.2.2.2.1 (tableOf pre) ⟨sp, ep, hp0, ct⟩ (tableOf suf) (by rw [hC.2.2.2.2.2.2.2.2, htb]; simp [tableOf]) (fun z hz => ?_) (by simp [covers, hcov]) hct (hts _ hlk) (va_Nw.use rfl (hE.2.2.2.2.1 _ hcs)) g1 g2 g3 ?_
    · obtain ⟨z0, hz0, rfl⟩ := List.mem_map.mp hz
      obtain ⟨h1, nm, h2, h3⟩ := hpre z0 hz0
      exact Or.inr ⟨h1, nm, hts _ h2, hE.2.2.2.2.2.2.1 _ h3⟩
    · rcases hd2 with ⟨jj, hjj, hd2, rfl⟩ | ⟨hd2, rfl⟩
      · exact lv_astore_n hC.1 hC.2.1 hd2 hjj hL.has hj rfl (fun ls' hl' => kx N' h' hp p e s m args below meth c D tc B b H1 locs1 ls' Q hC hE hX hH1 (LR.put0 hok hl') hK hQ)
      · exact lv_astore hC.1 hC.2.1 hd2 hL.has hj rfl (fun ls' hl' => kx N' h' hp p e s m args below meth c D tc B b H1 locs1 ls' Q hC hE hX hH1 (LR.put0 hok hl') hK hQ)
/-- what 'throw new E("text")' in the class MonotonePostings wants of the tables -/
def THd (ik is ic : Nat) (E text : String) : Prop := Bundle.fit E = true ∧ Cond.classLink RX7 ik E ∈ LT ∧ Cond.initialized E ∈ LT ∧ (is, text) ∈ strL ∧ (E, E) ∈ nwC ∧ (∀ w ∈ (vx_atS RX7 ic E ["java/lang/RuntimeException", "java/lang/Exception"]).filter goodWord, w ∈ LT) ∧ (∀ w ∈ (vx_atS RX7 ic E ["java/lang/RuntimeException", "java/lang/Exception"]).filter (fun w => !goodWord w), w ∈ Cond.castable E E :: nwD.map Cond.declares) ∧ (∀ w ∈ Cond.classLink RX7 ik E :: Cond.initialized E :: vx_atS RX7 ic E ["java/lang/RuntimeException", "java/lang/Exception"], vx_ot w = true)
theorem g_throw {ik is ic : Nat} {E text : String} (ht : THd ik is ic E text) (hm : md.1.cls = RX7) (htb : md.2.2.2.2 = []) (hz : N.2 = false) (hp : post (.inr E) N h) (hcat : (st.map Value.category).sum ≤ 8) (hd5 : 6 ≤ d) (hk : k + 1 ≤ mc) (hn : n + 6 ≤ ms)
    (d0 : decode md.2.1 pc = .ok (.new ik, 3)) (d3 : decode md.2.1 (pc + 3) = .ok (.dup, 1)) (d4 : decode md.2.1 (pc + 4) = .ok (.ldc is, 2)) (d6 : decode md.2.1 (pc + 6) = .ok (.invokespecial ic, 3)) (d9 : decode md.2.1 (pc + 9) = .ok (.athrow, 1)) : G l X md d mc ms post k n pc al st N h := by
  intro p e s m args below meth c D tc B b H locs ls Q hC hE hX hH hL hK hQ
  obtain ⟨t1, t2, t3, t4, t5, t6, t7, t8⟩ := ht
  have hts := hC.2.2.2.2.2.1
  obtain ⟨sa, hsa⟩ := hE.2.2.2.1 _ t4
  rcases hQ with rfl | hQ
  · have hc8 := catsum (B := B) (b := b) hcat
    refine vx_throwS (own := RX7) (names := ["java/lang/RuntimeException", "java/lang/Exception"]) (sa := sa) (A := fun q => B ≤ q) hC.1 hC.2.1 hE.1 (by rw [← hm]; exact hC.2.2.2.2.1) t1 (by decide +kernel) (hts _ t2) (hts _ t3) hsa
      (vx_hat (fun w hw => hts _ (t6 w hw)) t7 (vx_c (va_Nw.use rfl (hE.2.2.2.2.1 _ t5)) (fun w hw => by obtain ⟨y, hy, rfl⟩ := List.mem_map.mp hw; exact va_Nw.use rfl (hE.2.2.2.2.2.2.2.2.2 y hy)))) t8 hE.2.1 hE.2.2.1 hH.2.2.1 (hL.1.trans hC.2.2.1.symm) d0 d3 d4 d6 d9
      (by rw [hC.2.2.2.2.2.2.2.2, htb]; intro x hx; cases hx) (by show 2 + 3 < d; omega) (by show _ + (13 * 3 + 43) ≤ 37 * d; omega) hk hn hC.2.2.2.2.2.2.1 (fun t hA hs1 hs2 => ?_) hH.2.2.1.2.2 hk hn
    have hkp : ∀ (j : Nat) (x : Nat × va_E), (wl tc B b N.1 h)[j]? = some x → t.heap[x.1]? = H[x.1]? := fun j x hx => hs2 x.1 ((hH.2.1 j x hx).lt)
    refine ⟨⟨N, h, hp, hH.2.1.kept hkp, va_K.moved hA hH.1, ?_, fun z => by rw [hz] at z; cases z⟩, Nat.le_trans hH.2.2.1.1 hs1, fun q9 h1 h2 => ?_⟩
    · exact Nat.le_trans hH.2.2.2.1 (Nat.le_trans hH.2.2.1.1 hs1)
    · rw [hs2 q9 (Nat.lt_of_lt_of_le h1 hH.2.2.1.1)]
      exact hH.2.2.1.2.1 q9 h1 h2
  · exact absurd hp (hQ E N h)
end GCall
end
section
/-! ===== rows that make objects (while the objects are numbered one behind another), and the script's ===== -/
def NWd (own : String) (ix ci NF : Nat) (fs : List Value) : Prop := ∃ (C : String) (T : u_T) (ty0 : Nat → FieldType), vwCl[ci]? = some (C, T, NF) ∧ (∀ w ∈ u_ws C T NF, w ∈ LT) ∧ (∀ k, k < NF → parseFieldDescriptor (T k).2.2.1 = some (ty0 k)) ∧ Cond.classLink own ix C ∈ LT ∧ Cond.instantiable C NF ∈ LT ∧ Cond.initialized C ∈ LT ∧ (∀ B b j : Nat, j < NF → defaultValue (ty0 j) = vp_V (fs.map (cv B b)) j)
def uo (f : Int → Option Nat) (z : Int) (x : Option Nat) : Int → Option Nat := fun j => if j = z then x else f j
section GNew
variable {l : Launch} {X : State → Nat → Nat → Prop} {md : MD} {d mc ms : Nat} {post : Post} {k n pc q : Nat} {al : List (Option Value)} {st st0 : List Value} {N : NB} {h : EHp}
theorem HR.pushed {D : va_G} {tc : Nat → ClassId} {B b : Nat} {s : State} {H H1 : Heap} {locs : List Loc} {c : ECell} (hH : HR D tc B b N h s H locs k) (hz : N.2 = true) (hsz : H.size = B + N.1) (z1 : H1.size = H.size + 1) (o1 : ∀ q, q < H.size → H1[q]? = H[q]?) (hat : va_at D vwCl (B + N.1, ce tc B b c) H1) : HR D tc B b (N.1 + 1, true) (ueh h N.1 c) s H1 locs (k + 1) := by
  refine ⟨hH.1, ?_, ⟨Nat.le_trans hH.2.2.1.1 (by omega), fun x h1 h2 => (o1 x (Nat.lt_of_lt_of_le h1 hH.2.2.1.1)).trans (hH.2.2.1.2.1 x h1 h2), hH.2.2.1.2.2⟩, hH.2.2.2.1, fun _ => ?_⟩
  · show va_P D vwCl (wl tc B b (N.1 + 1) (ueh h N.1 c)) H1
    rw [← wl_push]
    refine (hH.2.1.kept (fun j x hx => o1 x.1 ((hH.2.1 j x hx).lt))).app (fun j x hx => ?_)
    have hj : j < 1 := (List.getElem?_eq_some_iff.mp hx).1
    rw [show j = 0 by omega] at hx
    cases hx
    exact hat
  · have := hH.2.2.2.2 hz
    show s.heap.size + (k + 1) ≤ B + (N.1 + 1)
    omega

theorem g_new {ix ci NF : Nat} {fs : List Value} (hw : NWd md.1.cls ix ci NF fs) (hz : N.2 = true) (hk : k + 1 ≤ mc) (hn : n + NF ≤ ms) (hd : decode md.2.1 pc = .ok (.new ix, 3)) (hq : pc + 3 = q) (kk : G l X md d mc ms post (k + 1) (n + NF) q al (.ref N.1 :: st) (N.1 + 1, true) (ueh h N.1 (cO ci fs))) : G l X md d mc ms post k n pc al st N h := by
  subst hq
  intro p e s m args below meth c D tc B b H locs ls Q hC hE hX hH hL hK hQ T hT hS
  have hsz := hH.tight hT hS.heapSize hz
  obtain ⟨C, TT, ty0, hc, hin, hty, w1, w2, w3, hdf⟩ := hw
  have hts := hC.2.2.2.2.2.1
  have hKn := hH.1.1 ci _ hc
  have K9 : W p l e (rmo d mc ms) s m args below meth c H locs k n Q (F0 m pc ls (st.map (cv B b))) := by
    refine W.newcK (g := F0 m pc ls (st.map (cv B b))) hC.1 hC.2.1 hC.2.2.2.2.1 (hts _ w1) (hts _ w2) (hts _ w3) rfl hd hk hn hKn.2.1 hsz (fun H1 kC hkC e1 z1 o1 => ?_)
    have hH1 := HR.pushed (c := cO ci fs) (H1 := H1) hH hz hsz (by rw [z1, hsz]) (by rw [hsz]; exact o1) ⟨_, hc, (u_born ty0 hts hin hKn hkC e1 hty).to (hdf B b)⟩
    exact kk p e s m args below meth c D tc B b H1 locs ls Q hC hE hX hH1 hL hK hQ
  exact K9 T hT hS
theorem g_newa_int {nn : Nat} (hw : Cond.arrayClass .int ∈ LT) (hz : N.2 = true) (hnn : nn ≤ 100000) (hk : k + 1 ≤ mc) (hn : n + nn ≤ ms) (hd : decode md.2.1 pc = .ok (.newarray .int, 2)) (hq : pc + 2 = q) (kk : G l X md d mc ms post (k + 1) (n + nn) q al (.ref N.1 :: st) (N.1 + 1, true) (ueh h N.1 (cI nn (fun _ => 0)))) : G l X md d mc ms post k n pc al (.int (iI nn) :: st) N h := by
  subst hq
  intro p e s m args below meth c D tc B b H locs ls Q hC hE hX hH hL hK hQ T hT hS
  have hsz := hH.tight hT hS.heapSize hz
  have hts := hC.2.2.2.2.2.1
  have ht := (hH.1.2 0 (tc 0, .int) rfl).2
  have K9 : W p l e (rmo d mc ms) s m args below meth c H locs k n Q (F0 m pc ls (.int (iI nn) :: st.map (cv B b))) := by
    refine va_newaK (g := F0 m pc ls (.int (iI nn) :: st.map (cv B b))) (rest := st.map (cv B b)) (atype := .int) (N := nn) hC.1 hC.2.1 (hts _ hw) rfl hd rfl (by rw [iI_lt0 ⟨by omega, by omega⟩]; omega) (by rw [iI_clamp (by omega) (by omega)]; omega) (by show nn * _ ≤ _; simp only [newarray.typeOf, componentBytes]; omega) hk hn hsz (fun H1 cA e1 z1 o1 hAr hNm => ?_)
    have hcA : cA = tc 0 := Option.some.inj (hNm.symm.trans ht)
    subst hcA
    have hH1 := HR.pushed (c := cI nn (fun _ => 0)) (H1 := H1) hH hz hsz (by rw [z1, hsz]) (by rw [hsz]; exact o1) e1
    exact kk p e s m args below meth c D tc B b H1 locs ls Q hC hE hX hH1 hL hK hQ
  exact K9 T hT hS
theorem g_newa_boolean {nn : Nat} (hw : Cond.arrayClass .boolean ∈ LT) (hz : N.2 = true) (hnn : nn ≤ 100000) (hk : k + 1 ≤ mc) (hn : n + nn ≤ ms) (hd : decode md.2.1 pc = .ok (.newarray .boolean, 2)) (hq : pc + 2 = q) (kk : G l X md d mc ms post (k + 1) (n + nn) q al (.ref N.1 :: st) (N.1 + 1, true) (ueh h N.1 (cZ nn (fun _ => 0)))) : G l X md d mc ms post k n pc al (.int (iI nn) :: st) N h := by
  subst hq
  intro p e s m args below meth c D tc B b H locs ls Q hC hE hX hH hL hK hQ T hT hS
  have hsz := hH.tight hT hS.heapSize hz
  have hts := hC.2.2.2.2.2.1
  have ht := (hH.1.2 1 (tc 1, .boolean) rfl).2
  have K9 : W p l e (rmo d mc ms) s m args below meth c H locs k n Q (F0 m pc ls (.int (iI nn) :: st.map (cv B b))) := by
    refine va_newaK (g := F0 m pc ls (.int (iI nn) :: st.map (cv B b))) (rest := st.map (cv B b)) (atype := .boolean) (N := nn) hC.1 hC.2.1 (hts _ hw) rfl hd rfl (by rw [iI_lt0 ⟨by omega, by omega⟩]; omega) (by rw [iI_clamp (by omega) (by omega)]; omega) (by show nn * _ ≤ _; simp only [newarray.typeOf, componentBytes]; omega) hk hn hsz (fun H1 cA e1 z1 o1 hAr hNm => ?_)
    have hcA : cA = tc 1 := Option.some.inj (hNm.symm.trans ht)
    subst hcA
    have hH1 := HR.pushed (c := cZ nn (fun _ => 0)) (H1 := H1) hH hz hsz (by rw [z1, hsz]) (by rw [hsz]; exact o1) e1
    exact kk p e s m args below meth c D tc B b H1 locs ls Q hC hE hX hH1 hL hK hQ
  exact K9 T hT hS
theorem g_newa_long {nn : Nat} (hw : Cond.arrayClass .long ∈ LT) (hz : N.2 = true) (hnn : nn ≤ 100000) (hk : k + 1 ≤ mc) (hn : n + nn ≤ ms) (hd : decode md.2.1 pc = .ok (.newarray .long, 2)) (hq : pc + 2 = q) (kk : G l X md d mc ms post (k + 1) (n + nn) q al (.ref N.1 :: st) (N.1 + 1, true) (ueh h N.1 (cJ nn (fun _ => 0)))) : G l X md d mc ms post k n pc al (.int (iI nn) :: st) N h := by
  subst hq
  intro p e s m args below meth c D tc B b H locs ls Q hC hE hX hH hL hK hQ T hT hS
  have hsz := hH.tight hT hS.heapSize hz
  have hts := hC.2.2.2.2.2.1
  have ht := (hH.1.2 2 (tc 2, .long) rfl).2
  have K9 : W p l e (rmo d mc ms) s m args below meth c H locs k n Q (F0 m pc ls (.int (iI nn) :: st.map (cv B b))) := by
    refine va_newaK (g := F0 m pc ls (.int (iI nn) :: st.map (cv B b))) (rest := st.map (cv B b)) (atype := .long) (N := nn) hC.1 hC.2.1 (hts _ hw) rfl hd rfl (by rw [iI_lt0 ⟨by omega, by omega⟩]; omega) (by rw [iI_clamp (by omega) (by omega)]; omega) (by show nn * _ ≤ _; simp only [newarray.typeOf, componentBytes]; omega) hk hn hsz (fun H1 cA e1 z1 o1 hAr hNm => ?_)
    have hcA : cA = tc 2 := Option.some.inj (hNm.symm.trans ht)
    subst hcA
    have hH1 := HR.pushed (c := cJ nn (fun _ => 0)) (H1 := H1) hH hz hsz (by rw [z1, hsz]) (by rw [hsz]; exact o1) e1
    exact kk p e s m args below meth c D tc B b H1 locs ls Q hC hE hX hH1 hL hK hQ
  exact K9 T hT hS
theorem g_newa_double {nn : Nat} (hw : Cond.arrayClass .double ∈ LT) (hz : N.2 = true) (hnn : nn ≤ 100000) (hk : k + 1 ≤ mc) (hn : n + nn ≤ ms) (hd : decode md.2.1 pc = .ok (.newarray .double, 2)) (hq : pc + 2 = q) (kk : G l X md d mc ms post (k + 1) (n + nn) q al (.ref N.1 :: st) (N.1 + 1, true) (ueh h N.1 (cD nn (fun _ => 0)))) : G l X md d mc ms post k n pc al (.int (iI nn) :: st) N h := by
  subst hq
  intro p e s m args below meth c D tc B b H locs ls Q hC hE hX hH hL hK hQ T hT hS
  have hsz := hH.tight hT hS.heapSize hz
  have hts := hC.2.2.2.2.2.1
  have ht := (hH.1.2 3 (tc 3, .double) rfl).2
  have K9 : W p l e (rmo d mc ms) s m args below meth c H locs k n Q (F0 m pc ls (.int (iI nn) :: st.map (cv B b))) := by
    refine va_newaK (g := F0 m pc ls (.int (iI nn) :: st.map (cv B b))) (rest := st.map (cv B b)) (atype := .double) (N := nn) hC.1 hC.2.1 (hts _ hw) rfl hd rfl (by rw [iI_lt0 ⟨by omega, by omega⟩]; omega) (by rw [iI_clamp (by omega) (by omega)]; omega) (by show nn * _ ≤ _; simp only [newarray.typeOf, componentBytes]; omega) hk hn hsz (fun H1 cA e1 z1 o1 hAr hNm => ?_)
    have hcA : cA = tc 3 := Option.some.inj (hNm.symm.trans ht)
    subst hcA
    have hH1 := HR.pushed (c := cD nn (fun _ => 0)) (H1 := H1) hH hz hsz (by rw [z1, hsz]) (by rw [hsz]; exact o1) e1
    exact kk p e s m args below meth c D tc B b H1 locs ls Q hC hE hX hH1 hL hK hQ
  exact K9 T hT hS
theorem g_anew_P {ix nn : Nat} (hw : Cond.classLink md.1.cls ix RX4 ∈ LT) (hz : N.2 = true) (hnn : nn ≤ 100000) (hk : k + 1 ≤ mc) (hn : n + nn ≤ ms) (hd : decode md.2.1 pc = .ok (.anewarray ix, 3)) (hq : pc + 3 = q) (kk : G l X md d mc ms post (k + 1) (n + nn) q al (.ref N.1 :: st) (N.1 + 1, true) (ueh h N.1 (cR 4 nn (fun _ => none)))) : G l X md d mc ms post k n pc al (.int (iI nn) :: st) N h := by
  subst hq
  intro p e s m args below meth c D tc B b H locs ls Q hC hE hX hH hL hK hQ T hT hS
  have hsz := hH.tight hT hS.heapSize hz
  have hts := hC.2.2.2.2.2.1
  obtain ⟨kA0, comp0, -, -, -, ht⟩ := (hH.1.2 4 (tc 4, .object RX4) rfl).2
  have hcl : (iI (nn : Int)).toNatClampNeg = nn := by rw [iI_clamp (by omega) (by omega)]; omega
  have K9 : W p l e (rmo d mc ms) s m args below meth c H locs k n Q (F0 m pc ls (.int (iI nn) :: st.map (cv B b))) := by
    refine W.anew (g := F0 m pc ls (.int (iI nn) :: st.map (cv B b))) (rest := st.map (cv B b)) hC.1 hC.2.1 hC.2.2.2.2.1 (hts _ hw) (va_AO.use hE.2.2.2.2.2.2.2.1) rfl hd rfl (by rw [iI_lt0 ⟨by omega, by omega⟩]; omega) (by rw [hcl]; omega) hk (by rw [hcl]; exact hn) (fun cA kA comp f1 f2 f3 f4 => ?_)
    have hcA : cA = tc 4 := Option.some.inj (f1.symm.trans ht)
    subst hcA
    rw [hcl]
    have hH1 := HR.pushed (c := cR 4 nn (fun _ => none)) (H1 := H.push ({ cls := tc 4, slots := Array.replicate nn .null, vm := .none } : Cell)) hH hz hsz (by rw [Array.size_push]) (fun q9 hq9 => by rw [Array.getElem?_push, if_neg (Nat.ne_of_lt hq9)]) (by
      show (H.push _)[B + N.1]? = some (vp_cell _ _)
      rw [vp_cell_q, ← hsz, Array.getElem?_push_size, ← arrV_new]
      rfl)
    have := kk p e s m args below meth c D tc B b _ locs ls Q hC hE hX hH1 hL hK hQ
    rw [hsz]
    exact this
  exact K9 T hT hS
theorem g_anew_S {ix nn : Nat} (hw : Cond.classLink md.1.cls ix RX6 ∈ LT) (hz : N.2 = true) (hnn : nn ≤ 100000) (hk : k + 1 ≤ mc) (hn : n + nn ≤ ms) (hd : decode md.2.1 pc = .ok (.anewarray ix, 3)) (hq : pc + 3 = q) (kk : G l X md d mc ms post (k + 1) (n + nn) q al (.ref N.1 :: st) (N.1 + 1, true) (ueh h N.1 (cR 5 nn (fun _ => none)))) : G l X md d mc ms post k n pc al (.int (iI nn) :: st) N h := by
  subst hq
  intro p e s m args below meth c D tc B b H locs ls Q hC hE hX hH hL hK hQ T hT hS
  have hsz := hH.tight hT hS.heapSize hz
  have hts := hC.2.2.2.2.2.1
  obtain ⟨kA0, comp0, -, -, -, ht⟩ := (hH.1.2 5 (tc 5, .object RX6) rfl).2
  have hcl : (iI (nn : Int)).toNatClampNeg = nn := by rw [iI_clamp (by omega) (by omega)]; omega
  have K9 : W p l e (rmo d mc ms) s m args below meth c H locs k n Q (F0 m pc ls (.int (iI nn) :: st.map (cv B b))) := by
    refine W.anew (g := F0 m pc ls (.int (iI nn) :: st.map (cv B b))) (rest := st.map (cv B b)) hC.1 hC.2.1 hC.2.2.2.2.1 (hts _ hw) (va_AO.use hE.2.2.2.2.2.2.2.2.1) rfl hd rfl (by rw [iI_lt0 ⟨by omega, by omega⟩]; omega) (by rw [hcl]; omega) hk (by rw [hcl]; exact hn) (fun cA kA comp f1 f2 f3 f4 => ?_)
    have hcA : cA = tc 5 := Option.some.inj (f1.symm.trans ht)
    subst hcA
    rw [hcl]
    have hH1 := HR.pushed (c := cR 5 nn (fun _ => none)) (H1 := H.push ({ cls := tc 5, slots := Array.replicate nn .null, vm := .none } : Cell)) hH hz hsz (by rw [Array.size_push]) (fun q9 hq9 => by rw [Array.getElem?_push, if_neg (Nat.ne_of_lt hq9)]) (by
      show (H.push _)[B + N.1]? = some (vp_cell _ _)
      rw [vp_cell_q, ← hsz, Array.getElem?_push_size, ← arrV_new]
      rfl)
    have := kk p e s m args below meth c D tc B b _ locs ls Q hC hE hX hH1 hL hK hQ
    rw [hsz]
    exact this
  exact K9 T hT hS
theorem g_aastore {i j nn t ci : Nat} {z : Int} {f : Int → Option Nat} {fs : List Value} (hi : i < N.1) (hh : h i = cR t nn f) (ht : (t = 4 ∧ ci = 4) ∨ (t = 5 ∧ ci = 5)) (hj : j < N.1) (hhj : h j = cO ci fs) (h0 : 0 ≤ z) (h1 : z < nn) (hnn : nn < 2147483648) (hd : decode md.2.1 pc = .ok (.aastore, 1)) (hq : pc + 1 = q) (kk : G l X md d mc ms post k n q al st N (ueh h i (cR t nn (uo f z (some j))))) : G l X md d mc ms post k n pc al (.ref j :: .int (iI z) :: .ref i :: st) N h := by
  subst hq
  intro p e s m args below meth c D tc B b H locs ls Q hC hE hX hH hL hK hQ
  have he := wl_at (tc := tc) (B := B) (b := b) (h := h) hi
  rw [hh] at he
  have hej := wl_at (tc := tc) (B := B) (b := b) (h := h) hj
  rw [hhj] at hej
  have hfe : va_up (fun y : Nat => (f y).map (B + ·)) z.toNat (some (B + j)) = fun y : Nat => (uo f z (some j) y).map (B + ·) := by
    funext y
    by_cases hy : y = z.toNat
    · have hj : (y : Int) = z := by omega
      simp [va_up, hy, uo, Int.toNat_of_nonneg h0]
    · have hj : ¬ (y : Int) = z := by omega
      simp [va_up, hy, uo, hj]
  rcases ht with ⟨rfl, rfl⟩ | ⟨rfl, rfl⟩
  · refine va_astq (n := nn) (f := fun y : Nat => (f y).map (B + ·)) (r := (RX4, TX4, 4)) hC.1 hC.2.1 hH.1 hH.2.1 wl_D hH.2.2.1 i 4 j 4 he rfl hej rfl (iI_in h0 h1 hnn) hd (fun H1 locs1 hP1 hD1 hS1 => ?_)
    rw [iI_clamp h0 (by omega), hfe] at hP1
    have hP2 : va_P D vwCl (wl tc B b N.1 (ueh h i (cR 4 nn (uo f z (some j))))) H1 := by rw [← wl_set]; exact hP1
    exact kk p e s m args below meth c D tc B b H1 locs1 ls Q hC hE hX ⟨hH.1, hP2, hS1, hH.2.2.2⟩ hL hK hQ
  · refine va_astq (n := nn) (f := fun y : Nat => (f y).map (B + ·)) (r := (RX6, TX6, 4)) hC.1 hC.2.1 hH.1 hH.2.1 wl_D hH.2.2.1 i 5 j 5 he rfl hej rfl (iI_in h0 h1 hnn) hd (fun H1 locs1 hP1 hD1 hS1 => ?_)
    rw [iI_clamp h0 (by omega), hfe] at hP1
    have hP2 : va_P D vwCl (wl tc B b N.1 (ueh h i (cR 5 nn (uo f z (some j))))) H1 := by rw [← wl_set]; exact hP1
    exact kk p e s m args below meth c D tc B b H1 locs1 ls Q hC hE hX ⟨hH.1, hP2, hS1, hH.2.2.2⟩ hL hK hQ
theorem g_objInit {ix i : Nat} (hw : Cond.methodLink md.1.cls ix objectInit ∈ LT ∧ Cond.instanceMethod objectInit ∈ LT ∧ Cond.code objectInit ⟨#[0xb1]⟩ 1 none ∈ LT) (hcat : (st.map Value.category).sum ≤ 8) (hdd : 1 ≤ d) (hd : decode md.2.1 pc = .ok (.invokespecial ix, 3)) (hq : pc + 3 = q) (kk : G l X md d mc ms post k n q al st N h) : G l X md d mc ms post k n pc al (.ref i :: st) N h := by
  subst hq
  intro p e s m args below meth c D tc B b H locs ls Q hC hE hX hH hL hK hQ
  have hts := hC.2.2.2.2.2.1
  have hc8 := monroom (m := m) (pc := pc) (ls := ls) (st0 := .ref (B + i) :: st.map (cv B b)) (catsum (B := B) (b := b) hcat)
  exact W.objInit (g := F0 m pc ls (.ref (B + i) :: st.map (cv B b))) (rest := st.map (cv B b)) hC.1 hC.2.1 hC.2.2.2.2.1 (hts _ hw.1) (hts _ hw.2.1) (hts _ hw.2.2) rfl (hL.1.trans hC.2.2.1.symm) rfl hd hdd (by show _ ≤ 37 * d; omega) (kk p e s m args below meth c D tc B b H locs ls Q hC hE hX hH hL hK hQ)
/-- a contract that throws nothing is one of the plain kind -/
theorem vx_plain {y : MethodName} {ws : List Cond} {rm : Room} {Pc : Array Value → State → Prop} {Qc : Array Value → State → Outcome → State → Prop} {XC : String → State → State → Prop} {mc ms : Nat} {free : Addr → Prop} (hM : vx_Met l y ws rm Pc Qc XC mc ms free) (hx : ∀ E s t, ¬ XC E s t) : Met l y ws rm Pc Qc mc ms free := by
  intro p e h1 h2 h3 s m args below h4 h5 h6 h7
  obtain ⟨n, o, g1, g2, g3, g4⟩ := hM p e h1 h2 h3 s m args below h4 h5 h6 h7
  refine ⟨n, o, g1, g2, g3, ?_⟩
  rcases g4 with g4 | ⟨q, -, E, ce, L, g5, -⟩
  · exact g4
  · exact absurd g5 (hx _ _ _)
theorem va_toRun {p : Program} {e : Env} {R : Room} {s : State} {m : MethodId} {args : Array Value} {below : List Frame} {meth : Method} {c : Code} {H : Heap} {locs : List Loc} {cells slots mc' ms' : Nat} {g : JFrame} {rest : List Value} {Qa : State → Outcome → State → Prop} {XC : String → State → State → Prop} {free : Addr → Prop} (hr : va_Run p l e R s m args below meth c H locs cells slots mc' ms' g rest Qa free) : vx_Run p l e R s m args below meth c H locs cells slots mc' ms' g rest Qa XC free := fun T hT hX => Or.inl (hr T hT hX)
theorem g_callI {cd : MD} {ix nA d' mc' ms' i : Nat} {av : List Value} {post' : Post} (hw : CId md.1.cls ix cd nA) (hM : CT l cd d' mc' ms' (.ref i :: av) N h post') (hlen : av.length = nA) (hcat : (st.map Value.category).sum ≤ 8) (hfr : d' + 1 ≤ d ∧ 8 + (cd.2.2.1 + 11) + 37 * d' ≤ 37 * d) (hrm : k + mc' ≤ mc ∧ n + ms' ≤ ms)
    (hN : ∀ r N' h', post' (.inl r) N' h' → N'.2 = true → N.2 = true ∧ N'.1 = N.1 + mc') (hNx : ∀ E N' h', ¬ post' (.inr E) N' h') (hs0 : st0 = av.reverse ++ .ref i :: st) (hd : decode md.2.1 pc = .ok (.invokespecial ix, 3)) (hq : pc + 3 = q)
    (kk : ∀ r N' h', post' (.inl r) N' h' → G l X md d mc ms post (k + mc') (n + ms') q al (r.toList ++ st) N' h') : G l X md d mc ms post k n pc al st0 N h := by
  subst hq hs0
  intro p e s m args below meth c D tc B b H locs ls Q hC hE hX hH hL hK hQ T hT hS
  have hsz := fun z => hH.tight hT hS.heapSize z
  obtain ⟨w1, w2, w3, w4, w5, w8, w6, w7⟩ := hw
  have hts := hC.2.2.2.2.2.1
  have hws : wsM cd = Cond.code cd.1 cd.2.1 cd.2.2.1 none :: LT := by rw [wsM_nil w6, w8]
  refine g_after hH (va_toRun (va_runI (Ts := LT) (cc := md.2.1) (nL := md.2.2.1) (own := md.1.cls) (As := av.map (cv B b)) (rest := st.map (cv B b)) (b := B + i) ⟨hC.1, hC.2.1, hC.2.2.1, hC.2.2.2.2.1, hts⟩ (vx_plain (hM D tc B b) (fun E _ _ z => by obtain ⟨⟨N', h', z, -⟩, -⟩ := z; exact hNx E N' h' z)) (cwI (index := ix) nA hts (LT_goodIn (by rw [hws]; intro w hw; simp only [List.mem_cons] at hw; rcases hw with rfl | hw <;> assumption)) hws rfl rfl (hts _ w4) (hts _ w1) (hts _ w2) w3 w7 hfr) ⟨PK_blind, fun U hU hW => ⟨rfl, PK_pre hH hE hsz U hU hW⟩⟩ rfl (by simpa using hlen) hL.1 (by simp [cv]) (monroom (catsum hcat)) hd hrm)) hN (fun E N' h' z => absurd z (hNx E N' h')) (fun r N' h' H1 locs1 hp hH1 => ?_) (fun E N' h' H1 locs1 q9 ce hp hH1 g1 g2 g3 => absurd hp (hNx E N' h')) T hT hS
  have := kk r N' h' hp p e s m args below meth c D tc B b H1 locs1 ls Q hC hE hX hH1 hL hK hQ
  cases r <;> exact this
theorem g_callIN {cd : MD} {ix nA d' mc' ms' i : Nat} {host : String} {av : List Value} {post' : Post} (hw : CNd md.1.cls ix cd host nA) (hM : CT l cd d' mc' ms' (.ref i :: av) N h post') (hlen : av.length = nA) (hcat : (st.map Value.category).sum ≤ 8) (hfr : d' + 1 ≤ d ∧ 8 + (cd.2.2.1 + 11) + 37 * d' ≤ 37 * d) (hrm : k + mc' ≤ mc ∧ n + ms' ≤ ms)
    (hN : ∀ r N' h', post' (.inl r) N' h' → N'.2 = true → N.2 = true ∧ N'.1 = N.1 + mc') (hNx : ∀ E N' h', ¬ post' (.inr E) N' h') (hs0 : st0 = av.reverse ++ .ref i :: st) (hd : decode md.2.1 pc = .ok (.invokespecial ix, 3)) (hq : pc + 3 = q)
    (kk : ∀ r N' h', post' (.inl r) N' h' → G l X md d mc ms post (k + mc') (n + ms') q al (r.toList ++ st) N' h') : G l X md d mc ms post k n pc al st0 N h := by
  subst hq hs0
  intro p e s m args below meth c D tc B b H locs ls Q hC hE hX hH hL hK hQ T hT hS
  have hsz := fun z => hH.tight hT hS.heapSize z
  obtain ⟨w1, w2, w3, w4, w5, w8, w6, w7⟩ := hw
  have hts := hC.2.2.2.2.2.1
  have hws : wsM cd = Cond.code cd.1 cd.2.1 cd.2.2.1 none :: LT := by rw [wsM_nil w6, w8]
  refine g_after hH (va_toRun (va_runIN (Ts := LT) (cc := md.2.1) (nL := md.2.2.1) (own := md.1.cls) (As := av.map (cv B b)) (rest := st.map (cv B b)) (b := B + i) ⟨hC.1, hC.2.1, hC.2.2.1, hC.2.2.2.2.1, hts⟩ (vx_plain (hM D tc B b) (fun E _ _ z => by obtain ⟨⟨N', h', z, -⟩, -⟩ := z; exact hNx E N' h' z)) ⟨va_cnB (index := ix) nA hts (LT_goodIn (by rw [hws]; intro w hw; simp only [List.mem_cons] at hw; rcases hw with rfl | hw <;> assumption)) hws rfl rfl (hE.2.2.2.2.2.1 _ w1) (hts _ w4) w7 hfr, w3, hts _ w2⟩ ⟨PK_blind, fun U hU hW => ⟨rfl, PK_pre hH hE hsz U hU hW⟩⟩ rfl (by simpa using hlen) hL.1 (by simp [cv]) (monroom (catsum hcat)) hd hrm)) hN (fun E N' h' z => absurd z (hNx E N' h')) (fun r N' h' H1 locs1 hp hH1 => ?_) (fun E N' h' H1 locs1 q9 ce hp hH1 g1 g2 g3 => absurd hp (hNx E N' h')) T hT hS
  have := kk r N' h' hp p e s m args below meth c D tc B b H1 locs1 ls Q hC hE hX hH1 hL hK hQ
  cases r <;> exact this
/-- the law's own world: the script of L ints xs lies at b, below all that is made -/
def scX (L : Nat) (xs : Nat → Int32) : State → Nat → Nat → Prop := fun s B b => va_X b L xs s s.heap ∧ b < s.heap.size ∧ ¬ B ≤ b
theorem g_slen {L : Nat} {xs : Nat → Int32} {u : UInt32} (hd : decode md.2.1 pc = .ok (.arraylength, 1)) (hq : pc + 1 = q) (kk : G l (scX L xs) md d mc ms post k n q al (.int (iI L) :: st) N h) : G l (scX L xs) md d mc ms post k n pc al (.float u :: st) N h := by
  subst hq
  intro p e s m args below meth c D tc B b H locs ls Q hC hE hX hH hL hK hQ
  have := kk p e s m args below meth c D tc B b H locs ls Q hC hE hX hH hL hK hQ
  refine va_slen hC.1 hC.2.1 hX.1 hX.2.1 hX.2.2 hH.2.2.1 hd ?_
  rw [show Int32.ofNat L = iI L from (iI_nI L).symm]
  exact this
theorem g_sld {L : Nat} {xs : Nat → Int32} {u : UInt32} {z : Int} (h0 : 0 ≤ z) (h1 : z < L) (hL9 : L < 2147483648) (hd : decode md.2.1 pc = .ok (.iaload, 1)) (hq : pc + 1 = q) (kk : G l (scX L xs) md d mc ms post k n q al (.int (xs z.toNat) :: st) N h) : G l (scX L xs) md d mc ms post k n pc al (.int (iI z) :: .float u :: st) N h := by
  subst hq
  intro p e s m args below meth c D tc B b H locs ls Q hC hE hX hH hL hK hQ
  have := kk p e s m args below meth c D tc B b H locs ls Q hC hE hX hH hL hK hQ
  refine va_sld hC.1 hC.2.1 hX.1 hX.2.1 hX.2.2 hH.2.2.1 (iI_in h0 h1 hL9) hd ?_
  rw [iI_clamp h0 (by omega)]
  exact this
end GNew
end
section
/-! ===== ends of contracts, and calls by them, over the full number of objects ===== -/
def NN : NB := (103, false)
theorem loopG {σ : Type} {P I : σ → Prop} (μ : σ → Nat) (hs : ∀ s, I s → (∀ s', I s' → μ s' < μ s → P s') → P s) (s : σ) (h : I s) : P s := by
  have : ∀ n s, μ s < n → I s → P s := by
    intro n
    induction n with
    | zero => intro s h; omega
    | succ n ih => intro s h1 h2; exact hs s h2 (fun s' h3 h4 => ih s' (by omega) h3)
  exact this (μ s + 1) s (Nat.lt_succ_self _) h
def rP (v : Value) (h : EHp) : Post := fun o N' h' => o = .inl (some v) ∧ N' = NN ∧ h' = h
def vP (Pm : EHp → Prop) : Post := fun o N' h' => o = .inl none ∧ N' = NN ∧ Pm h'
def wP (Pm : Value → EHp → Prop) : Post := fun o N' h' => ∃ v, o = .inl (some v) ∧ N' = NN ∧ Pm v h'
def xP (E : String) (Pm : EHp → Prop) : Post := fun o N' h' => o = .inr E ∧ N' = NN ∧ Pm h'
theorem rP_in {v : Value} {h : EHp} : rP v h (.inl (some v)) NN h := ⟨rfl, rfl, rfl⟩
theorem vP_in {Pm : EHp → Prop} {h : EHp} (hp : Pm h) : vP Pm (.inl none) NN h := ⟨rfl, rfl, hp⟩
theorem wP_in {Pm : Value → EHp → Prop} {v : Value} {h : EHp} (hp : Pm v h) : wP Pm (.inl (some v)) NN h := ⟨v, rfl, rfl, hp⟩
theorem xP_in {E : String} {Pm : EHp → Prop} {h : EHp} (hp : Pm h) : xP E Pm (.inr E) NN h := ⟨rfl, rfl, hp⟩
theorem CT.mono {l : Launch} {md : MD} {d mc ms : Nat} {av : List Value} {N : NB} {h : EHp} {post post' : Post} (hM : CT l md d mc ms av N h post) (hp : ∀ o N' h', post o N' h' → post' o N' h') : CT l md d mc ms av N h post' := by
  intro D tc B b p e h1 h2 h3 s m args below h4 h5 h6 h7
  obtain ⟨n, o, g1, g2, g3, g4⟩ := hM D tc B b p e h1 h2 h3 s m args below h4 h5 h6 h7
  refine ⟨n, o, g1, g2, g3, ?_⟩
  rcases g4 with ⟨⟨⟨r, N', h', e1, e2, e3⟩, e4⟩, e5⟩ | ⟨q, e0, E, ce, L, ⟨⟨N', h', e2, e3⟩, e4⟩, e5⟩
  · exact Or.inl ⟨⟨⟨r, N', h', e1, hp _ _ _ e2, e3⟩, e4⟩, e5⟩
  · exact Or.inr ⟨q, e0, E, ce, L, ⟨⟨N', h', hp _ _ _ e2, e3⟩, e4⟩, e5⟩
section GPost
variable {l : Launch} {X : State → Nat → Nat → Prop} {md : MD} {d mc ms : Nat} {post : Post} {k n pc q : Nat} {al : List (Option Value)} {st st0 : List Value} {N : NB} {h : EHp} {cd : MD} {ix ci nA d' i : Nat} {av : List Value} {fs : List Value} {v : Value} {Pm : EHp → Prop} {Pv : Value → EHp → Prop} {E : String}
theorem hp_in (kk : ∀ h1, h1 = h → G l X md d mc ms post k n pc al st N h1) : G l X md d mc ms post k n pc al st N h := kk h rfl
theorem NN_f {r : Prop} (z : NN.2 = true) : r := by cases z
theorem g_Vr (hw : CVd md.1.cls ix ci cd nA) (hM : CT l cd d' 0 0 (.ref i :: av) NN h (rP v h)) (hi : i < 103) (hh : h i = cO ci fs) (hlen : av.length = nA) (hcat : (st.map Value.category).sum ≤ 8) (hfr : d' + 1 ≤ d ∧ 8 + (cd.2.2.1 + 11) + 37 * d' ≤ 37 * d) (hrm : k ≤ mc ∧ n ≤ ms) (htb : md.2.2.2.2 = []) (hs0 : st0 = av.reverse ++ .ref i :: st) (hd : decode md.2.1 pc = .ok (.invokevirtual ix, 3)) (hq : pc + 3 = q) (kk : G l X md d mc ms post k n q al (v :: st) NN h) : G l X md d mc ms post k n pc al st0 NN h := by
  refine g_callV hw hM hi hh hlen hcat hfr hrm htb (fun r N' h' z => ?_) (fun E N' h' z => ?_) hs0 hd hq (fun r N' h' z => ?_)
  · obtain ⟨-, rfl, -⟩ := z; exact NN_f
  · obtain ⟨z, -⟩ := z; cases z
  · obtain ⟨z, rfl, rfl⟩ := z; cases z; exact kk
theorem g_Sr (hw : CSd md.1.cls ix cd nA) (hM : CT l cd d' 0 0 av NN h (rP v h)) (hlen : av.length = nA) (hcat : (st.map Value.category).sum ≤ 8) (hfr : d' + 1 ≤ d ∧ 8 + (cd.2.2.1 + 11) + 37 * d' ≤ 37 * d) (hrm : k ≤ mc ∧ n ≤ ms) (htb : md.2.2.2.2 = []) (hs0 : st0 = av.reverse ++ st) (hd : decode md.2.1 pc = .ok (.invokestatic ix, 3)) (hq : pc + 3 = q) (kk : G l X md d mc ms post k n q al (v :: st) NN h) : G l X md d mc ms post k n pc al st0 NN h := by
  refine g_callS hw hM hlen hcat hfr hrm htb (fun r N' h' z => ?_) (fun E N' h' z => ?_) hs0 hd hq (fun r N' h' z => ?_)
  · obtain ⟨-, rfl, -⟩ := z; exact NN_f
  · obtain ⟨z, -⟩ := z; cases z
  · obtain ⟨z, rfl, rfl⟩ := z; cases z; exact kk
theorem g_Vv (hw : CVd md.1.cls ix ci cd nA) (hM : CT l cd d' 0 0 (.ref i :: av) NN h (vP Pm)) (hi : i < 103) (hh : h i = cO ci fs) (hlen : av.length = nA) (hcat : (st.map Value.category).sum ≤ 8) (hfr : d' + 1 ≤ d ∧ 8 + (cd.2.2.1 + 11) + 37 * d' ≤ 37 * d) (hrm : k ≤ mc ∧ n ≤ ms) (htb : md.2.2.2.2 = []) (hs0 : st0 = av.reverse ++ .ref i :: st) (hd : decode md.2.1 pc = .ok (.invokevirtual ix, 3)) (hq : pc + 3 = q) (kk : ∀ h', Pm h' → G l X md d mc ms post k n q al st NN h') : G l X md d mc ms post k n pc al st0 NN h := by
  refine g_callV hw hM hi hh hlen hcat hfr hrm htb (fun r N' h' z => ?_) (fun E N' h' z => ?_) hs0 hd hq (fun r N' h' z => ?_)
  · obtain ⟨-, rfl, -⟩ := z; exact NN_f
  · obtain ⟨z, -⟩ := z; cases z
  · obtain ⟨z, rfl, z2⟩ := z; cases z; exact kk h' z2
theorem g_Sv (hw : CSd md.1.cls ix cd nA) (hM : CT l cd d' 0 0 av NN h (vP Pm)) (hlen : av.length = nA) (hcat : (st.map Value.category).sum ≤ 8) (hfr : d' + 1 ≤ d ∧ 8 + (cd.2.2.1 + 11) + 37 * d' ≤ 37 * d) (hrm : k ≤ mc ∧ n ≤ ms) (htb : md.2.2.2.2 = []) (hs0 : st0 = av.reverse ++ st) (hd : decode md.2.1 pc = .ok (.invokestatic ix, 3)) (hq : pc + 3 = q) (kk : ∀ h', Pm h' → G l X md d mc ms post k n q al st NN h') : G l X md d mc ms post k n pc al st0 NN h := by
  refine g_callS hw hM hlen hcat hfr hrm htb (fun r N' h' z => ?_) (fun E N' h' z => ?_) hs0 hd hq (fun r N' h' z => ?_)
  · obtain ⟨-, rfl, -⟩ := z; exact NN_f
  · obtain ⟨z, -⟩ := z; cases z
  · obtain ⟨z, rfl, z2⟩ := z; cases z; exact kk h' z2
theorem g_Vw (hw : CVd md.1.cls ix ci cd nA) (hM : CT l cd d' 0 0 (.ref i :: av) NN h (wP Pv)) (hi : i < 103) (hh : h i = cO ci fs) (hlen : av.length = nA) (hcat : (st.map Value.category).sum ≤ 8) (hfr : d' + 1 ≤ d ∧ 8 + (cd.2.2.1 + 11) + 37 * d' ≤ 37 * d) (hrm : k ≤ mc ∧ n ≤ ms) (htb : md.2.2.2.2 = []) (hs0 : st0 = av.reverse ++ .ref i :: st) (hd : decode md.2.1 pc = .ok (.invokevirtual ix, 3)) (hq : pc + 3 = q) (kk : ∀ v h', Pv v h' → G l X md d mc ms post k n q al (v :: st) NN h') : G l X md d mc ms post k n pc al st0 NN h := by
  refine g_callV hw hM hi hh hlen hcat hfr hrm htb (fun r N' h' z => ?_) (fun E N' h' z => ?_) hs0 hd hq (fun r N' h' z => ?_)
  · obtain ⟨v, -, rfl, -⟩ := z; exact NN_f
  · obtain ⟨v, z, -⟩ := z; cases z
  · obtain ⟨v, z, rfl, z2⟩ := z; cases z; exact kk v h' z2
/-- what is thrown goes on to the caller -/
theorem g_Vx (hw : CVd md.1.cls ix ci cd nA) (hM : CT l cd d' 1 6 (.ref i :: av) NN h (xP E Pm)) (hi : i < 103) (hh : h i = cO ci fs) (hlen : av.length = nA) (hcat : (st.map Value.category).sum ≤ 8) (hfr : d' + 1 ≤ d ∧ 8 + (cd.2.2.1 + 11) + 37 * d' ≤ 37 * d) (hrm : k + 1 ≤ mc ∧ n + 6 ≤ ms) (htb : md.2.2.2.2 = []) (hs0 : st0 = av.reverse ++ .ref i :: st) (hd : decode md.2.1 pc = .ok (.invokevirtual ix, 3)) (kk : ∀ h', Pm h' → post (.inr E) NN h') : G l X md d mc ms post k n pc al st0 NN h := by
  refine g_callV (q := pc + 3) hw hM hi hh hlen hcat hfr hrm htb (fun r N' h' z => ?_) (fun E N' h' z => ?_) hs0 hd rfl (fun r N' h' z => ?_)
  · obtain ⟨z, -⟩ := z; cases z
  · obtain ⟨z, rfl, z2⟩ := z; cases z; exact ⟨rfl, kk h' z2⟩
  · obtain ⟨z, -⟩ := z; cases z
theorem g_Sx (hw : CSd md.1.cls ix cd nA) (hM : CT l cd d' 1 6 av NN h (xP E Pm)) (hlen : av.length = nA) (hcat : (st.map Value.category).sum ≤ 8) (hfr : d' + 1 ≤ d ∧ 8 + (cd.2.2.1 + 11) + 37 * d' ≤ 37 * d) (hrm : k + 1 ≤ mc ∧ n + 6 ≤ ms) (htb : md.2.2.2.2 = []) (hs0 : st0 = av.reverse ++ st) (hd : decode md.2.1 pc = .ok (.invokestatic ix, 3)) (kk : ∀ h', Pm h' → post (.inr E) NN h') : G l X md d mc ms post k n pc al st0 NN h := by
  refine g_callS (q := pc + 3) hw hM hlen hcat hfr hrm htb (fun r N' h' z => ?_) (fun E N' h' z => ?_) hs0 hd rfl (fun r N' h' z => ?_)
  · obtain ⟨z, -⟩ := z; cases z
  · obtain ⟨z, rfl, z2⟩ := z; cases z; exact ⟨rfl, kk h' z2⟩
  · obtain ⟨z, -⟩ := z; cases z
end GPost
end
section
/-! ===== printed by mklinks.py: methods, and what the tables say of each field and call ===== -/
abbrev mX7_init : MD := (yX7_init, cX7_init, 1, none, [])
abbrev mX6_init : MD := (yX6_init, cX6_init, 2, none, [])
abbrev mX0_init : MD := (yX0_init, cX0_init, 1, none, [])
abbrev mX4_init : MD := (yX4_init, cX4_init, 1, none, [])
abbrev mX2_init : MD := (yX2_init, cX2_init, 2, none, [])
abbrev mX3_init : MD := (yX3_init, cX3_init, 1, none, [])
abbrev mX1_init : MD := (yX1_init, cX1_init, 1, none, [])
abbrev mX7_reads : MD := (yX7_reads, cX7_reads, 1, (some .int), [])
abbrev mX7_hits : MD := (yX7_hits, cX7_hits, 1, (some .int), [])
abbrev mX7_cached : MD := (yX7_cached, cX7_cached, 1, (some .int), [])
abbrev mX7_digest : MD := (yX7_digest, cX7_digest, 4, (some .long), [])
abbrev mX7_mixList : MD := (yX7_mixList, cX7_mixList, 6, (some .long), [])
abbrev mX7_mix : MD := (yX7_mix, cX7_mix, 3, (some .long), [])
abbrev mX7_mixRow : MD := (yX7_mixRow, cX7_mixRow, 7, (some .long), [])
abbrev mX1_write : MD := (yX1_write, cX1_write, 5, none, [])
abbrev mX4_factOf : MD := (yX4_factOf, cX4_factOf, 3, (some .int), [])
abbrev mX1_putHeader : MD := (yX1_putHeader, cX1_putHeader, 3, none, [])
abbrev mX1_put : MD := (yX1_put, cX1_put, 4, none, [])
abbrev mX4_widthOf : MD := (yX4_widthOf, cX4_widthOf, 2, (some .int), [])
abbrev mX1_putBitmap : MD := (yX1_putBitmap, cX1_putBitmap, 8, none, [])
abbrev mX4_documentAt : MD := (yX4_documentAt, cX4_documentAt, 2, (some .int), [])
abbrev mX1_setBit : MD := (yX1_setBit, cX1_setBit, 2, none, [])
abbrev mX1_putHighParts : MD := (yX1_putHighParts, cX1_putHighParts, 9, none, [])
abbrev mX5_highLength : MD := (yX5_highLength, cX5_highLength, 3, (some .int), [])
abbrev mX1_putLowParts : MD := (yX1_putLowParts, cX1_putLowParts, 8, none, [])
abbrev mL_append : MD := (yL_append, cL_append, 5, (some .int), [(0, 10, 13, 13), (0, 10, 17, 15), (0, 10, 21, 17)])
abbrev mX7_append : MD := (yX7_append, cX7_append, 3, (some .int), [])
abbrev mX7_appendRange : MD := (yX7_appendRange, cX7_appendRange, 7, (some .int), [])
abbrev mX7_listAt : MD := (yX7_listAt, cX7_listAt, 2, (some (.object "MonotonePostings$Postings")), [])
abbrev mX7_requireList : MD := (yX7_requireList, cX7_requireList, 1, none, [])
abbrev mX7_requireIndex : MD := (yX7_requireIndex, cX7_requireIndex, 2, none, [])
abbrev mX7_requireRange : MD := (yX7_requireRange, cX7_requireRange, 3, none, [])
abbrev mX7_requireBetween : MD := (yX7_requireBetween, cX7_requireBetween, 3, none, [])
abbrev mX4_lastDocument : MD := (yX4_lastDocument, cX4_lastDocument, 1, (some .int), [])
abbrev mX2_save : MD := (yX2_save, cX2_save, 2, none, [])
abbrev mX6_copyFrom : MD := (yX6_copyFrom, cX6_copyFrom, 3, none, [])
abbrev mX4_copyFrom : MD := (yX4_copyFrom, cX4_copyFrom, 2, none, [])
abbrev mX0_copyFrom : MD := (yX0_copyFrom, cX0_copyFrom, 2, none, [])
abbrev mX4_push : MD := (yX4_push, cX4_push, 2, none, [])
abbrev mX7_recode : MD := (yX7_recode, cX7_recode, 2, none, [])
abbrev mX3_divide : MD := (yX3_divide, cX3_divide, 5, none, [])
abbrev mX3_chooseEnd : MD := (yX3_chooseEnd, cX3_chooseEnd, 7, none, [])
abbrev mX4_widthBetween : MD := (yX4_widthBetween, cX4_widthBetween, 3, (some .int), [])
abbrev mX5_bestSize : MD := (yX5_bestSize, cX5_bestSize, 4, (some .int), [])
abbrev mX5_lowBits : MD := (yX5_lowBits, cX5_lowBits, 3, (some .int), [])
abbrev mX4_addPart : MD := (yX4_addPart, cX4_addPart, 8, none, [])
abbrev mX5_bestKind : MD := (yX5_bestKind, cX5_bestKind, 3, (some .int), [])
abbrev mX0_dropList : MD := (yX0_dropList, cX0_dropList, 2, none, [])
abbrev mX0_dropBetween : MD := (yX0_dropBetween, cX0_dropBetween, 6, (some .int), [])
abbrev mL_appendRange : MD := (yL_appendRange, cL_appendRange, 7, (some .int), [(0, 14, 17, 13), (0, 14, 21, 15), (0, 14, 25, 17)])
abbrev mL_clear : MD := (yL_clear, cL_clear, 4, (some .int), [(0, 9, 12, 13)])
abbrev mX7_clear : MD := (yX7_clear, cX7_clear, 3, (some .int), [])
abbrev mX7_writeResult : MD := (yX7_writeResult, cX7_writeResult, 3, (some .int), [])
abbrev mX4_replace : MD := (yX4_replace, cX4_replace, 3, none, [])
abbrev mL_size : MD := (yL_size, cL_size, 4, (some .int), [(0, 9, 12, 13)])
abbrev mX7_size : MD := (yX7_size, cX7_size, 2, (some .int), [])
abbrev mL_document : MD := (yL_document, cL_document, 5, (some .int), [(0, 10, 13, 13)])
abbrev mX7_document : MD := (yX7_document, cX7_document, 4, (some .int), [])
abbrev mL_rank : MD := (yL_rank, cL_rank, 5, (some .int), [(0, 10, 13, 13), (0, 10, 17, 15)])
abbrev mX7_rank : MD := (yX7_rank, cX7_rank, 4, (some .int), [])
abbrev mX4_countBelow : MD := (yX4_countBelow, cX4_countBelow, 3, (some .int), [])
abbrev mL_partitions : MD := (yL_partitions, cL_partitions, 4, (some .int), [(0, 9, 12, 13)])
abbrev mX7_partitions : MD := (yX7_partitions, cX7_partitions, 2, (some .int), [])
abbrev mL_partition : MD := (yL_partition, cL_partition, 6, (some .int), [(0, 12, 15, 13), (0, 12, 19, 15)])
abbrev mX7_partition : MD := (yX7_partition, cX7_partition, 5, (some .int), [])
abbrev mL_codeLength : MD := (yL_codeLength, cL_codeLength, 4, (some .int), [(0, 9, 12, 13)])
abbrev mX7_codeLength : MD := (yX7_codeLength, cX7_codeLength, 2, (some .int), [])
abbrev mX4_codeSize : MD := (yX4_codeSize, cX4_codeSize, 3, (some .int), [])
abbrev mL_codeBit : MD := (yL_codeBit, cL_codeBit, 5, (some .int), [(0, 10, 13, 13)])
abbrev mX7_codeBit : MD := (yX7_codeBit, cX7_codeBit, 4, (some .int), [])
abbrev mX1_bitAt : MD := (yX1_bitAt, cX1_bitAt, 2, (some .int), [])
abbrev mL_fixedLength : MD := (yL_fixedLength, cL_fixedLength, 5, (some .int), [(0, 10, 13, 13), (0, 10, 17, 15)])
abbrev mX7_fixedLength : MD := (yX7_fixedLength, cX7_fixedLength, 4, (some .int), [])
abbrev mX4_sizeInParts : MD := (yX4_sizeInParts, cX4_sizeInParts, 6, (some .int), [])
abbrev mL_bitsPerDocument : MD := (yL_bitsPerDocument, cL_bitsPerDocument, 4, (some .int), [(0, 8, 11, 13)])
abbrev mX7_bitsPerDocument : MD := (yX7_bitsPerDocument, cX7_bitsPerDocument, 3, (some .double), [])
abbrev mL_nextAtLeast : MD := (yL_nextAtLeast, cL_nextAtLeast, 5, (some .int), [(0, 10, 13, 13), (0, 10, 17, 15)])
abbrev mX7_nextAtLeast : MD := (yX7_nextAtLeast, cX7_nextAtLeast, 3, (some .int), [])
abbrev mX6_query : MD := (yX6_query, cX6_query, 6, (some .int), [])
abbrev mX6_queryInside : MD := (yX6_queryInside, cX6_queryInside, 6, (some .int), [])
abbrev mX0_use : MD := (yX0_use, cX0_use, 3, (some .boolean), [])
abbrev mX0_shrinkTo : MD := (yX0_shrinkTo, cX0_shrinkTo, 3, none, [])
abbrev mX4_readsInside : MD := (yX4_readsInside, cX4_readsInside, 8, (some .int), [])
abbrev mL_countIntersection : MD := (yL_countIntersection, cL_countIntersection, 4, (some .int), [(0, 9, 12, 15)])
abbrev mX7_countIntersection : MD := (yX7_countIntersection, cX7_countIntersection, 2, (some .int), [])
abbrev mX7_requireSet : MD := (yX7_requireSet, cX7_requireSet, 1, none, [])
abbrev mX7_findIntersection : MD := (yX7_findIntersection, cX7_findIntersection, 8, (some .int), [])
abbrev mX7_orderLists : MD := (yX7_orderLists, cX7_orderLists, 5, (some .int), [])
abbrev mX7_askOthers : MD := (yX7_askOthers, cX7_askOthers, 5, (some .int), [])
abbrev mL_intersect : MD := (yL_intersect, cL_intersect, 5, (some .int), [(0, 10, 13, 15), (0, 10, 17, 13)])
abbrev mX7_intersect : MD := (yX7_intersect, cX7_intersect, 3, (some .int), [])
abbrev mL_unite : MD := (yL_unite, cL_unite, 6, (some .int), [(0, 12, 15, 13), (0, 12, 19, 17)])
abbrev mX7_unite : MD := (yX7_unite, cX7_unite, 5, (some .int), [])
abbrev mX7_mergeIntoResult : MD := (yX7_mergeIntoResult, cX7_mergeIntoResult, 8, (some .int), [])
abbrev mL_subtract : MD := (yL_subtract, cL_subtract, 6, (some .int), [(0, 12, 15, 13)])
abbrev mX7_subtract : MD := (yX7_subtract, cX7_subtract, 5, (some .int), [])
abbrev mX7_differenceIntoResult : MD := (yX7_differenceIntoResult, cX7_differenceIntoResult, 6, (some .int), [])
abbrev mL_setCapacity : MD := (yL_setCapacity, cL_setCapacity, 4, (some .int), [(0, 9, 12, 15)])
abbrev mX7_setCapacity : MD := (yX7_setCapacity, cX7_setCapacity, 3, (some .int), [])
abbrev mX0_resize : MD := (yX0_resize, cX0_resize, 2, none, [])
abbrev mL_cachedAt : MD := (yL_cachedAt, cL_cachedAt, 4, (some .int), [(0, 9, 12, 13)])
abbrev mX7_cachedAt : MD := (yX7_cachedAt, cX7_cachedAt, 2, (some .int), [])
abbrev mL_undo : MD := (yL_undo, cL_undo, 3, (some .int), [(0, 8, 11, 17)])
abbrev mX7_undo : MD := (yX7_undo, cX7_undo, 1, (some .int), [])
abbrev mX2_restore : MD := (yX2_restore, cX2_restore, 2, none, [])
abbrev mX8_init : MD := (yX8_init, cX8_init, 1, none, [])
abbrev mX8_thrown : MD := (yX8_thrown, cX8_thrown, 1, (some .int), [])
abbrev mX8_append : MD := (yX8_append, cX8_append, 3, (some .int), [])
abbrev mX8_isList : MD := (yX8_isList, cX8_isList, 1, (some .boolean), [])
abbrev mX8_in : MD := (yX8_in, cX8_in, 3, (some .boolean), [])
abbrev mX8_fails : MD := (yX8_fails, cX8_fails, 2, (some .int), [])
abbrev mX8_isBehind : MD := (yX8_isBehind, cX8_isBehind, 3, (some .boolean), [])
abbrev mX8_doc : MD := (yX8_doc, cX8_doc, 3, (some .int), [])
abbrev mX8_save : MD := (yX8_save, cX8_save, 2, none, [])
abbrev mX8_changes : MD := (yX8_changes, cX8_changes, 3, none, [])
abbrev mX8_drop : MD := (yX8_drop, cX8_drop, 3, none, [])
abbrev mX8_add : MD := (yX8_add, cX8_add, 3, none, [])
abbrev mX8_appendRange : MD := (yX8_appendRange, cX8_appendRange, 6, (some .int), [])
abbrev mX8_clear : MD := (yX8_clear, cX8_clear, 3, (some .int), [])
abbrev mX8_size : MD := (yX8_size, cX8_size, 2, (some .int), [])
abbrev mX8_document : MD := (yX8_document, cX8_document, 3, (some .int), [])
abbrev mX8_rank : MD := (yX8_rank, cX8_rank, 5, (some .int), [])
abbrev mX8_partitions : MD := (yX8_partitions, cX8_partitions, 2, (some .int), [])
abbrev mX8_lay : MD := (yX8_lay, cX8_lay, 6, none, [])
abbrev mX8_sizeOf : MD := (yX8_sizeOf, cX8_sizeOf, 6, (some .int), [])
abbrev mX8_kindOf : MD := (yX8_kindOf, cX8_kindOf, 2, (some .int), [])
abbrev mX8_sparse : MD := (yX8_sparse, cX8_sparse, 3, (some .int), [])
abbrev mX8_lowBits : MD := (yX8_lowBits, cX8_lowBits, 3, (some .int), [])
abbrev mX8_partition : MD := (yX8_partition, cX8_partition, 4, (some .int), [])
abbrev mX8_property : MD := (yX8_property, cX8_property, 4, (some .int), [])
abbrev mX8_kindIn : MD := (yX8_kindIn, cX8_kindIn, 3, (some .int), [])
abbrev mX8_documentsIn : MD := (yX8_documentsIn, cX8_documentsIn, 3, (some .int), [])
abbrev mX8_beginOf : MD := (yX8_beginOf, cX8_beginOf, 3, (some .int), [])
abbrev mX8_widthOf : MD := (yX8_widthOf, cX8_widthOf, 3, (some .int), [])
abbrev mX8_lastIn : MD := (yX8_lastIn, cX8_lastIn, 3, (some .int), [])
abbrev mX8_firstIn : MD := (yX8_firstIn, cX8_firstIn, 3, (some .int), [])
abbrev mX8_lowIn : MD := (yX8_lowIn, cX8_lowIn, 3, (some .int), [])
abbrev mX8_codeLength : MD := (yX8_codeLength, cX8_codeLength, 2, (some .int), [])
abbrev mX8_bitsOf : MD := (yX8_bitsOf, cX8_bitsOf, 4, (some .int), [])
abbrev mX8_codeBit : MD := (yX8_codeBit, cX8_codeBit, 3, (some .int), [])
abbrev mX8_bitOf : MD := (yX8_bitOf, cX8_bitOf, 5, (some .int), [])
abbrev mX8_headerBit : MD := (yX8_headerBit, cX8_headerBit, 5, (some .int), [])
abbrev mX8_bodyBit : MD := (yX8_bodyBit, cX8_bodyBit, 12, (some .int), [])
abbrev mX8_fixedLength : MD := (yX8_fixedLength, cX8_fixedLength, 5, (some .int), [])
abbrev mX8_bitsPerDocument : MD := (yX8_bitsPerDocument, cX8_bitsPerDocument, 2, (some .double), [])
abbrev mX8_nextAtLeast : MD := (yX8_nextAtLeast, cX8_nextAtLeast, 3, (some .int), [])
abbrev mX8_asks : MD := (yX8_asks, cX8_asks, 4, (some .int), [])
abbrev mX8_opens : MD := (yX8_opens, cX8_opens, 7, (some .int), [])
abbrev mX8_readsFor : MD := (yX8_readsFor, cX8_readsFor, 10, (some .int), [])
abbrev mX8_countIntersection : MD := (yX8_countIntersection, cX8_countIntersection, 2, (some .int), [])
abbrev mX8_isSet : MD := (yX8_isSet, cX8_isSet, 1, (some .boolean), [])
abbrev mX8_meets : MD := (yX8_meets, cX8_meets, 7, (some .int), [])
abbrev mX8_intersect : MD := (yX8_intersect, cX8_intersect, 3, (some .int), [])
abbrev mX8_writes : MD := (yX8_writes, cX8_writes, 4, (some .int), [])
abbrev mX8_unite : MD := (yX8_unite, cX8_unite, 6, (some .int), [])
abbrev mX8_has : MD := (yX8_has, cX8_has, 5, (some .boolean), [])
abbrev mX8_subtract : MD := (yX8_subtract, cX8_subtract, 6, (some .int), [])
abbrev mX8_reads : MD := (yX8_reads, cX8_reads, 1, (some .int), [])
abbrev mX8_hits : MD := (yX8_hits, cX8_hits, 1, (some .int), [])
abbrev mX8_setCapacity : MD := (yX8_setCapacity, cX8_setCapacity, 3, (some .int), [])
abbrev mX8_cached : MD := (yX8_cached, cX8_cached, 1, (some .int), [])
abbrev mX8_cachedAt : MD := (yX8_cachedAt, cX8_cachedAt, 2, (some .int), [])
abbrev mX8_undo : MD := (yX8_undo, cX8_undo, 2, (some .int), [])
abbrev mX8_digest : MD := (yX8_digest, cX8_digest, 6, (some .long), [])
abbrev mX8_mixed : MD := (yX8_mixed, cX8_mixed, 4, (some .long), [])
abbrev mL_law : MD := (yL_law, cL_law, 9, some .boolean, [])
theorem tw_45 : Cond.laysFinal RX0 "MonotonePostings$Cache" "keys" "[I" ∈ LT := LT_of 45 (by decide +kernel) (by decide +kernel)
theorem tw_47 : Cond.lays RX0 "MonotonePostings$Cache" "count" "I" ∈ LT := LT_of 47 (by decide +kernel) (by decide +kernel)
theorem tw_49 : Cond.lays RX0 "MonotonePostings$Cache" "capacity" "I" ∈ LT := LT_of 49 (by decide +kernel) (by decide +kernel)
theorem luX0 : ∀ w ∈ u_ws RX0 TX0 3, w ∈ LT := List.forall_mem_cons.mpr ⟨tw_45, List.forall_mem_cons.mpr ⟨tw_47, List.forall_mem_cons.mpr ⟨tw_49, fun _ h => absurd h List.not_mem_nil⟩⟩⟩
theorem tw_139 : Cond.laysFinal RX1 "MonotonePostings$CodeRow" "bits" "[I" ∈ LT := LT_of 139 (by decide +kernel) (by decide +kernel)
theorem tw_141 : Cond.lays RX1 "MonotonePostings$CodeRow" "length" "I" ∈ LT := LT_of 141 (by decide +kernel) (by decide +kernel)
theorem luX1 : ∀ w ∈ u_ws RX1 TX1 2, w ∈ LT := List.forall_mem_cons.mpr ⟨tw_139, List.forall_mem_cons.mpr ⟨tw_141, fun _ h => absurd h List.not_mem_nil⟩⟩
theorem tw_109 : Cond.laysFinal RX2 "MonotonePostings$History" "states" "[LMonotonePostings$State;" ∈ LT := LT_of 109 (by decide +kernel) (by decide +kernel)
theorem tw_111 : Cond.lays RX2 "MonotonePostings$History" "next" "I" ∈ LT := LT_of 111 (by decide +kernel) (by decide +kernel)
theorem tw_113 : Cond.lays RX2 "MonotonePostings$History" "count" "I" ∈ LT := LT_of 113 (by decide +kernel) (by decide +kernel)
theorem luX2 : ∀ w ∈ u_ws RX2 TX2 3, w ∈ LT := List.forall_mem_cons.mpr ⟨tw_109, List.forall_mem_cons.mpr ⟨tw_111, List.forall_mem_cons.mpr ⟨tw_113, fun _ h => absurd h List.not_mem_nil⟩⟩⟩
theorem tw_124 : Cond.laysFinal RX3 "MonotonePostings$Partitioner" "weights" "[I" ∈ LT := LT_of 124 (by decide +kernel) (by decide +kernel)
theorem tw_126 : Cond.laysFinal RX3 "MonotonePostings$Partitioner" "ends" "[I" ∈ LT := LT_of 126 (by decide +kernel) (by decide +kernel)
theorem luX3 : ∀ w ∈ u_ws RX3 TX3 2, w ∈ LT := List.forall_mem_cons.mpr ⟨tw_124, List.forall_mem_cons.mpr ⟨tw_126, fun _ h => absurd h List.not_mem_nil⟩⟩
theorem tw_70 : Cond.laysFinal RX4 "MonotonePostings$Postings" "documents" "[I" ∈ LT := LT_of 70 (by decide +kernel) (by decide +kernel)
theorem tw_72 : Cond.lays RX4 "MonotonePostings$Postings" "count" "I" ∈ LT := LT_of 72 (by decide +kernel) (by decide +kernel)
theorem tw_74 : Cond.laysFinal RX4 "MonotonePostings$Postings" "facts" "[I" ∈ LT := LT_of 74 (by decide +kernel) (by decide +kernel)
theorem tw_76 : Cond.lays RX4 "MonotonePostings$Postings" "parts" "I" ∈ LT := LT_of 76 (by decide +kernel) (by decide +kernel)
theorem luX4 : ∀ w ∈ u_ws RX4 TX4 4, w ∈ LT := List.forall_mem_cons.mpr ⟨tw_70, List.forall_mem_cons.mpr ⟨tw_72, List.forall_mem_cons.mpr ⟨tw_74, List.forall_mem_cons.mpr ⟨tw_76, fun _ h => absurd h List.not_mem_nil⟩⟩⟩⟩
theorem tw_87 : Cond.laysFinal RX6 "MonotonePostings$State" "lists" "[LMonotonePostings$Postings;" ∈ LT := LT_of 87 (by decide +kernel) (by decide +kernel)
theorem tw_89 : Cond.laysFinal RX6 "MonotonePostings$State" "cache" "LMonotonePostings$Cache;" ∈ LT := LT_of 89 (by decide +kernel) (by decide +kernel)
theorem tw_91 : Cond.lays RX6 "MonotonePostings$State" "reads" "I" ∈ LT := LT_of 91 (by decide +kernel) (by decide +kernel)
theorem tw_93 : Cond.lays RX6 "MonotonePostings$State" "hits" "I" ∈ LT := LT_of 93 (by decide +kernel) (by decide +kernel)
theorem luX6 : ∀ w ∈ u_ws RX6 TX6 4, w ∈ LT := List.forall_mem_cons.mpr ⟨tw_87, List.forall_mem_cons.mpr ⟨tw_89, List.forall_mem_cons.mpr ⟨tw_91, List.forall_mem_cons.mpr ⟨tw_93, fun _ h => absurd h List.not_mem_nil⟩⟩⟩⟩
theorem tw_150 : Cond.laysFinal RX7 "MonotonePostings" "now" "LMonotonePostings$State;" ∈ LT := LT_of 150 (by decide +kernel) (by decide +kernel)
theorem tw_152 : Cond.laysFinal RX7 "MonotonePostings" "history" "LMonotonePostings$History;" ∈ LT := LT_of 152 (by decide +kernel) (by decide +kernel)
theorem tw_154 : Cond.laysFinal RX7 "MonotonePostings" "partitioner" "LMonotonePostings$Partitioner;" ∈ LT := LT_of 154 (by decide +kernel) (by decide +kernel)
theorem tw_156 : Cond.laysFinal RX7 "MonotonePostings" "code" "LMonotonePostings$CodeRow;" ∈ LT := LT_of 156 (by decide +kernel) (by decide +kernel)
theorem tw_158 : Cond.laysFinal RX7 "MonotonePostings" "order" "[I" ∈ LT := LT_of 158 (by decide +kernel) (by decide +kernel)
theorem tw_160 : Cond.laysFinal RX7 "MonotonePostings" "result" "[I" ∈ LT := LT_of 160 (by decide +kernel) (by decide +kernel)
theorem luX7 : ∀ w ∈ u_ws RX7 TX7 6, w ∈ LT := List.forall_mem_cons.mpr ⟨tw_150, List.forall_mem_cons.mpr ⟨tw_152, List.forall_mem_cons.mpr ⟨tw_154, List.forall_mem_cons.mpr ⟨tw_156, List.forall_mem_cons.mpr ⟨tw_158, List.forall_mem_cons.mpr ⟨tw_160, fun _ h => absurd h List.not_mem_nil⟩⟩⟩⟩⟩⟩
theorem tw_667 : Cond.lays RX8 "MonotonePostingsModel" "thrown" "I" ∈ LT := LT_of 667 (by decide +kernel) (by decide +kernel)
theorem tw_669 : Cond.laysFinal RX8 "MonotonePostingsModel" "w" "[I" ∈ LT := LT_of 669 (by decide +kernel) (by decide +kernel)
theorem tw_671 : Cond.laysFinal RX8 "MonotonePostingsModel" "past" "[I" ∈ LT := LT_of 671 (by decide +kernel) (by decide +kernel)
theorem tw_673 : Cond.lays RX8 "MonotonePostingsModel" "saved" "I" ∈ LT := LT_of 673 (by decide +kernel) (by decide +kernel)
theorem tw_675 : Cond.laysFinal RX8 "MonotonePostingsModel" "begins" "[I" ∈ LT := LT_of 675 (by decide +kernel) (by decide +kernel)
theorem tw_677 : Cond.laysFinal RX8 "MonotonePostingsModel" "many" "[I" ∈ LT := LT_of 677 (by decide +kernel) (by decide +kernel)
theorem tw_679 : Cond.laysFinal RX8 "MonotonePostingsModel" "laid" "[Z" ∈ LT := LT_of 679 (by decide +kernel) (by decide +kernel)
theorem tw_681 : Cond.laysFinal RX8 "MonotonePostingsModel" "cost" "[I" ∈ LT := LT_of 681 (by decide +kernel) (by decide +kernel)
theorem tw_683 : Cond.laysFinal RX8 "MonotonePostingsModel" "count" "[I" ∈ LT := LT_of 683 (by decide +kernel) (by decide +kernel)
theorem tw_685 : Cond.laysFinal RX8 "MonotonePostingsModel" "next" "[I" ∈ LT := LT_of 685 (by decide +kernel) (by decide +kernel)
theorem tw_687 : Cond.laysFinal RX8 "MonotonePostingsModel" "found" "[I" ∈ LT := LT_of 687 (by decide +kernel) (by decide +kernel)
theorem tw_689 : Cond.laysFinal RX8 "MonotonePostingsModel" "order" "[I" ∈ LT := LT_of 689 (by decide +kernel) (by decide +kernel)
theorem luX8 : ∀ w ∈ u_ws RX8 TX8 12, w ∈ LT := List.forall_mem_cons.mpr ⟨tw_667, List.forall_mem_cons.mpr ⟨tw_669, List.forall_mem_cons.mpr ⟨tw_671, List.forall_mem_cons.mpr ⟨tw_673, List.forall_mem_cons.mpr ⟨tw_675, List.forall_mem_cons.mpr ⟨tw_677, List.forall_mem_cons.mpr ⟨tw_679, List.forall_mem_cons.mpr ⟨tw_681, List.forall_mem_cons.mpr ⟨tw_683, List.forall_mem_cons.mpr ⟨tw_685, List.forall_mem_cons.mpr ⟨tw_687, List.forall_mem_cons.mpr ⟨tw_689, fun _ h => absurd h List.not_mem_nil⟩⟩⟩⟩⟩⟩⟩⟩⟩⟩⟩⟩
theorem tw_39 : Cond.fieldLink RX0 9 "MonotonePostings$Cache" "keys" "[I" ∈ LT := LT_of 39 (by decide +kernel) (by decide +kernel)
theorem fX0_9r : FLr RX0 9 0 0 := ⟨RX0, TX0, 3, rfl, by decide, luX0, tw_39⟩
theorem fX0_9 : FLd RX0 9 0 0 (.array .int) true := ⟨RX0, TX0, 3, tyX0, rfl, by decide, luX0, tw_39, tyX0_ok, nmX0, by decide +kernel, rfl, fun _ => rfl⟩
theorem tw_40 : Cond.fieldLink RX7 166 "MonotonePostings$Cache" "keys" "[I" ∈ LT := LT_of 40 (by decide +kernel) (by decide +kernel)
theorem fX7_166r : FLr RX7 166 0 0 := ⟨RX0, TX0, 3, rfl, by decide, luX0, tw_40⟩
theorem tw_41 : Cond.fieldLink RX0 15 "MonotonePostings$Cache" "count" "I" ∈ LT := LT_of 41 (by decide +kernel) (by decide +kernel)
theorem fX0_15r : FLr RX0 15 0 1 := ⟨RX0, TX0, 3, rfl, by decide, luX0, tw_41⟩
theorem fX0_15 : FLd RX0 15 0 1 (.int) false := ⟨RX0, TX0, 3, tyX0, rfl, by decide, luX0, tw_41, tyX0_ok, nmX0, by decide +kernel, rfl, fun h => by cases h⟩
theorem tw_42 : Cond.fieldLink RX7 165 "MonotonePostings$Cache" "count" "I" ∈ LT := LT_of 42 (by decide +kernel) (by decide +kernel)
theorem fX7_165r : FLr RX7 165 0 1 := ⟨RX0, TX0, 3, rfl, by decide, luX0, tw_42⟩
theorem fX7_165 : FLd RX7 165 0 1 (.int) false := ⟨RX0, TX0, 3, tyX0, rfl, by decide, luX0, tw_42, tyX0_ok, nmX0, by decide +kernel, rfl, fun h => by cases h⟩
theorem tw_43 : Cond.fieldLink RX0 19 "MonotonePostings$Cache" "capacity" "I" ∈ LT := LT_of 43 (by decide +kernel) (by decide +kernel)
theorem fX0_19r : FLr RX0 19 0 2 := ⟨RX0, TX0, 3, rfl, by decide, luX0, tw_43⟩
theorem fX0_19 : FLd RX0 19 0 2 (.int) false := ⟨RX0, TX0, 3, tyX0, rfl, by decide, luX0, tw_43, tyX0_ok, nmX0, by decide +kernel, rfl, fun h => by cases h⟩
theorem tw_44 : Cond.fieldLink RX7 157 "MonotonePostings$Cache" "capacity" "I" ∈ LT := LT_of 44 (by decide +kernel) (by decide +kernel)
theorem fX7_157r : FLr RX7 157 0 2 := ⟨RX0, TX0, 3, rfl, by decide, luX0, tw_44⟩
theorem fX7_157 : FLd RX7 157 0 2 (.int) false := ⟨RX0, TX0, 3, tyX0, rfl, by decide, luX0, tw_44, tyX0_ok, nmX0, by decide +kernel, rfl, fun h => by cases h⟩
theorem tw_58 : Cond.fieldLink RX4 9 "MonotonePostings$Postings" "documents" "[I" ∈ LT := LT_of 58 (by decide +kernel) (by decide +kernel)
theorem fX4_9r : FLr RX4 9 4 0 := ⟨RX4, TX4, 4, rfl, by decide, luX4, tw_58⟩
theorem fX4_9 : FLd RX4 9 4 0 (.array .int) true := ⟨RX4, TX4, 4, tyX4, rfl, by decide, luX4, tw_58, tyX4_ok, nmX4, by decide +kernel, rfl, fun _ => rfl⟩
theorem tw_59 : Cond.fieldLink RX7 218 "MonotonePostings$Postings" "documents" "[I" ∈ LT := LT_of 59 (by decide +kernel) (by decide +kernel)
theorem fX7_218r : FLr RX7 218 4 0 := ⟨RX4, TX4, 4, rfl, by decide, luX4, tw_59⟩
theorem tw_60 : Cond.fieldLink RX4 15 "MonotonePostings$Postings" "count" "I" ∈ LT := LT_of 60 (by decide +kernel) (by decide +kernel)
theorem fX4_15r : FLr RX4 15 4 1 := ⟨RX4, TX4, 4, rfl, by decide, luX4, tw_60⟩
theorem fX4_15 : FLd RX4 15 4 1 (.int) false := ⟨RX4, TX4, 4, tyX4, rfl, by decide, luX4, tw_60, tyX4_ok, nmX4, by decide +kernel, rfl, fun h => by cases h⟩
theorem tw_61 : Cond.fieldLink RX3 18 "MonotonePostings$Postings" "count" "I" ∈ LT := LT_of 61 (by decide +kernel) (by decide +kernel)
theorem fX3_18r : FLr RX3 18 4 1 := ⟨RX4, TX4, 4, rfl, by decide, luX4, tw_61⟩
theorem fX3_18 : FLd RX3 18 4 1 (.int) false := ⟨RX4, TX4, 4, tyX4, rfl, by decide, luX4, tw_61, tyX4_ok, nmX4, by decide +kernel, rfl, fun h => by cases h⟩
theorem tw_62 : Cond.fieldLink RX7 69 "MonotonePostings$Postings" "count" "I" ∈ LT := LT_of 62 (by decide +kernel) (by decide +kernel)
theorem fX7_69r : FLr RX7 69 4 1 := ⟨RX4, TX4, 4, rfl, by decide, luX4, tw_62⟩
theorem fX7_69 : FLd RX7 69 4 1 (.int) false := ⟨RX4, TX4, 4, tyX4, rfl, by decide, luX4, tw_62, tyX4_ok, nmX4, by decide +kernel, rfl, fun h => by cases h⟩
theorem tw_63 : Cond.fieldLink RX4 19 "MonotonePostings$Postings" "facts" "[I" ∈ LT := LT_of 63 (by decide +kernel) (by decide +kernel)
theorem fX4_19r : FLr RX4 19 4 2 := ⟨RX4, TX4, 4, rfl, by decide, luX4, tw_63⟩
theorem fX4_19 : FLd RX4 19 4 2 (.array .int) true := ⟨RX4, TX4, 4, tyX4, rfl, by decide, luX4, tw_63, tyX4_ok, nmX4, by decide +kernel, rfl, fun _ => rfl⟩
theorem tw_64 : Cond.fieldLink RX7 221 "MonotonePostings$Postings" "facts" "[I" ∈ LT := LT_of 64 (by decide +kernel) (by decide +kernel)
theorem fX7_221r : FLr RX7 221 4 2 := ⟨RX4, TX4, 4, rfl, by decide, luX4, tw_64⟩
theorem tw_65 : Cond.fieldLink RX4 22 "MonotonePostings$Postings" "parts" "I" ∈ LT := LT_of 65 (by decide +kernel) (by decide +kernel)
theorem fX4_22r : FLr RX4 22 4 3 := ⟨RX4, TX4, 4, rfl, by decide, luX4, tw_65⟩
theorem fX4_22 : FLd RX4 22 4 3 (.int) false := ⟨RX4, TX4, 4, tyX4, rfl, by decide, luX4, tw_65, tyX4_ok, nmX4, by decide +kernel, rfl, fun h => by cases h⟩
theorem tw_66 : Cond.fieldLink RX3 28 "MonotonePostings$Postings" "parts" "I" ∈ LT := LT_of 66 (by decide +kernel) (by decide +kernel)
theorem fX3_28r : FLr RX3 28 4 3 := ⟨RX4, TX4, 4, rfl, by decide, luX4, tw_66⟩
theorem fX3_28 : FLd RX3 28 4 3 (.int) false := ⟨RX4, TX4, 4, tyX4, rfl, by decide, luX4, tw_66, tyX4_ok, nmX4, by decide +kernel, rfl, fun h => by cases h⟩
theorem tw_67 : Cond.fieldLink RX1 19 "MonotonePostings$Postings" "parts" "I" ∈ LT := LT_of 67 (by decide +kernel) (by decide +kernel)
theorem fX1_19r : FLr RX1 19 4 3 := ⟨RX4, TX4, 4, rfl, by decide, luX4, tw_67⟩
theorem fX1_19 : FLd RX1 19 4 3 (.int) false := ⟨RX4, TX4, 4, tyX4, rfl, by decide, luX4, tw_67, tyX4_ok, nmX4, by decide +kernel, rfl, fun h => by cases h⟩
theorem tw_68 : Cond.fieldLink RX6 39 "MonotonePostings$Postings" "parts" "I" ∈ LT := LT_of 68 (by decide +kernel) (by decide +kernel)
theorem fX6_39r : FLr RX6 39 4 3 := ⟨RX4, TX4, 4, rfl, by decide, luX4, tw_68⟩
theorem fX6_39 : FLd RX6 39 4 3 (.int) false := ⟨RX4, TX4, 4, tyX4, rfl, by decide, luX4, tw_68, tyX4_ok, nmX4, by decide +kernel, rfl, fun h => by cases h⟩
theorem tw_69 : Cond.fieldLink RX7 107 "MonotonePostings$Postings" "parts" "I" ∈ LT := LT_of 69 (by decide +kernel) (by decide +kernel)
theorem fX7_107r : FLr RX7 107 4 3 := ⟨RX4, TX4, 4, rfl, by decide, luX4, tw_69⟩
theorem fX7_107 : FLd RX7 107 4 3 (.int) false := ⟨RX4, TX4, 4, tyX4, rfl, by decide, luX4, tw_69, tyX4_ok, nmX4, by decide +kernel, rfl, fun h => by cases h⟩
theorem tw_79 : Cond.fieldLink RX6 11 "MonotonePostings$State" "lists" "[LMonotonePostings$Postings;" ∈ LT := LT_of 79 (by decide +kernel) (by decide +kernel)
theorem fX6_11r : FLr RX6 11 5 0 := ⟨RX6, TX6, 4, rfl, by decide, luX6, tw_79⟩
theorem fX6_11 : FLd RX6 11 5 0 (.array (.object "MonotonePostings$Postings")) true := ⟨RX6, TX6, 4, tyX6, rfl, by decide, luX6, tw_79, tyX6_ok, nmX6, by decide +kernel, rfl, fun _ => rfl⟩
theorem tw_80 : Cond.fieldLink RX7 177 "MonotonePostings$State" "lists" "[LMonotonePostings$Postings;" ∈ LT := LT_of 80 (by decide +kernel) (by decide +kernel)
theorem fX7_177r : FLr RX7 177 5 0 := ⟨RX6, TX6, 4, rfl, by decide, luX6, tw_80⟩
theorem tw_81 : Cond.fieldLink RX6 20 "MonotonePostings$State" "cache" "LMonotonePostings$Cache;" ∈ LT := LT_of 81 (by decide +kernel) (by decide +kernel)
theorem fX6_20r : FLr RX6 20 5 1 := ⟨RX6, TX6, 4, rfl, by decide, luX6, tw_81⟩
theorem fX6_20 : FLd RX6 20 5 1 (.object "MonotonePostings$Cache") true := ⟨RX6, TX6, 4, tyX6, rfl, by decide, luX6, tw_81, tyX6_ok, nmX6, by decide +kernel, rfl, fun _ => rfl⟩
theorem tw_82 : Cond.fieldLink RX7 153 "MonotonePostings$State" "cache" "LMonotonePostings$Cache;" ∈ LT := LT_of 82 (by decide +kernel) (by decide +kernel)
theorem fX7_153r : FLr RX7 153 5 1 := ⟨RX6, TX6, 4, rfl, by decide, luX6, tw_82⟩
theorem tw_83 : Cond.fieldLink RX6 24 "MonotonePostings$State" "reads" "I" ∈ LT := LT_of 83 (by decide +kernel) (by decide +kernel)
theorem fX6_24r : FLr RX6 24 5 2 := ⟨RX6, TX6, 4, rfl, by decide, luX6, tw_83⟩
theorem fX6_24 : FLd RX6 24 5 2 (.int) false := ⟨RX6, TX6, 4, tyX6, rfl, by decide, luX6, tw_83, tyX6_ok, nmX6, by decide +kernel, rfl, fun h => by cases h⟩
theorem tw_84 : Cond.fieldLink RX7 147 "MonotonePostings$State" "reads" "I" ∈ LT := LT_of 84 (by decide +kernel) (by decide +kernel)
theorem fX7_147r : FLr RX7 147 5 2 := ⟨RX6, TX6, 4, rfl, by decide, luX6, tw_84⟩
theorem fX7_147 : FLd RX7 147 5 2 (.int) false := ⟨RX6, TX6, 4, tyX6, rfl, by decide, luX6, tw_84, tyX6_ok, nmX6, by decide +kernel, rfl, fun h => by cases h⟩
theorem tw_85 : Cond.fieldLink RX6 28 "MonotonePostings$State" "hits" "I" ∈ LT := LT_of 85 (by decide +kernel) (by decide +kernel)
theorem fX6_28r : FLr RX6 28 5 3 := ⟨RX6, TX6, 4, rfl, by decide, luX6, tw_85⟩
theorem fX6_28 : FLd RX6 28 5 3 (.int) false := ⟨RX6, TX6, 4, tyX6, rfl, by decide, luX6, tw_85, tyX6_ok, nmX6, by decide +kernel, rfl, fun h => by cases h⟩
theorem tw_86 : Cond.fieldLink RX7 150 "MonotonePostings$State" "hits" "I" ∈ LT := LT_of 86 (by decide +kernel) (by decide +kernel)
theorem fX7_150r : FLr RX7 150 5 3 := ⟨RX6, TX6, 4, rfl, by decide, luX6, tw_86⟩
theorem fX7_150 : FLd RX7 150 5 3 (.int) false := ⟨RX6, TX6, 4, tyX6, rfl, by decide, luX6, tw_86, tyX6_ok, nmX6, by decide +kernel, rfl, fun h => by cases h⟩
theorem tw_105 : Cond.fieldLink RX2 11 "MonotonePostings$History" "states" "[LMonotonePostings$State;" ∈ LT := LT_of 105 (by decide +kernel) (by decide +kernel)
theorem fX2_11r : FLr RX2 11 2 0 := ⟨RX2, TX2, 3, rfl, by decide, luX2, tw_105⟩
theorem fX2_11 : FLd RX2 11 2 0 (.array (.object "MonotonePostings$State")) true := ⟨RX2, TX2, 3, tyX2, rfl, by decide, luX2, tw_105, tyX2_ok, nmX2, by decide +kernel, rfl, fun _ => rfl⟩
theorem tw_106 : Cond.fieldLink RX2 17 "MonotonePostings$History" "next" "I" ∈ LT := LT_of 106 (by decide +kernel) (by decide +kernel)
theorem fX2_17r : FLr RX2 17 2 1 := ⟨RX2, TX2, 3, rfl, by decide, luX2, tw_106⟩
theorem fX2_17 : FLd RX2 17 2 1 (.int) false := ⟨RX2, TX2, 3, tyX2, rfl, by decide, luX2, tw_106, tyX2_ok, nmX2, by decide +kernel, rfl, fun h => by cases h⟩
theorem tw_107 : Cond.fieldLink RX2 21 "MonotonePostings$History" "count" "I" ∈ LT := LT_of 107 (by decide +kernel) (by decide +kernel)
theorem fX2_21r : FLr RX2 21 2 2 := ⟨RX2, TX2, 3, rfl, by decide, luX2, tw_107⟩
theorem fX2_21 : FLd RX2 21 2 2 (.int) false := ⟨RX2, TX2, 3, tyX2, rfl, by decide, luX2, tw_107, tyX2_ok, nmX2, by decide +kernel, rfl, fun h => by cases h⟩
theorem tw_108 : Cond.fieldLink RX7 169 "MonotonePostings$History" "count" "I" ∈ LT := LT_of 108 (by decide +kernel) (by decide +kernel)
theorem fX7_169r : FLr RX7 169 2 2 := ⟨RX2, TX2, 3, rfl, by decide, luX2, tw_108⟩
theorem fX7_169 : FLd RX7 169 2 2 (.int) false := ⟨RX2, TX2, 3, tyX2, rfl, by decide, luX2, tw_108, tyX2_ok, nmX2, by decide +kernel, rfl, fun h => by cases h⟩
theorem tw_122 : Cond.fieldLink RX3 9 "MonotonePostings$Partitioner" "weights" "[I" ∈ LT := LT_of 122 (by decide +kernel) (by decide +kernel)
theorem fX3_9r : FLr RX3 9 3 0 := ⟨RX3, TX3, 2, rfl, by decide, luX3, tw_122⟩
theorem fX3_9 : FLd RX3 9 3 0 (.array .int) true := ⟨RX3, TX3, 2, tyX3, rfl, by decide, luX3, tw_122, tyX3_ok, nmX3, by decide +kernel, rfl, fun _ => rfl⟩
theorem tw_123 : Cond.fieldLink RX3 15 "MonotonePostings$Partitioner" "ends" "[I" ∈ LT := LT_of 123 (by decide +kernel) (by decide +kernel)
theorem fX3_15r : FLr RX3 15 3 1 := ⟨RX3, TX3, 2, rfl, by decide, luX3, tw_123⟩
theorem fX3_15 : FLd RX3 15 3 1 (.array .int) true := ⟨RX3, TX3, 2, tyX3, rfl, by decide, luX3, tw_123, tyX3_ok, nmX3, by decide +kernel, rfl, fun _ => rfl⟩
theorem tw_135 : Cond.fieldLink RX1 9 "MonotonePostings$CodeRow" "bits" "[I" ∈ LT := LT_of 135 (by decide +kernel) (by decide +kernel)
theorem fX1_9r : FLr RX1 9 1 0 := ⟨RX1, TX1, 2, rfl, by decide, luX1, tw_135⟩
theorem fX1_9 : FLd RX1 9 1 0 (.array .int) true := ⟨RX1, TX1, 2, tyX1, rfl, by decide, luX1, tw_135, tyX1_ok, nmX1, by decide +kernel, rfl, fun _ => rfl⟩
theorem tw_136 : Cond.fieldLink RX7 224 "MonotonePostings$CodeRow" "bits" "[I" ∈ LT := LT_of 136 (by decide +kernel) (by decide +kernel)
theorem fX7_224r : FLr RX7 224 1 0 := ⟨RX1, TX1, 2, rfl, by decide, luX1, tw_136⟩
theorem tw_137 : Cond.fieldLink RX1 15 "MonotonePostings$CodeRow" "length" "I" ∈ LT := LT_of 137 (by decide +kernel) (by decide +kernel)
theorem fX1_15r : FLr RX1 15 1 1 := ⟨RX1, TX1, 2, rfl, by decide, luX1, tw_137⟩
theorem fX1_15 : FLd RX1 15 1 1 (.int) false := ⟨RX1, TX1, 2, tyX1, rfl, by decide, luX1, tw_137, tyX1_ok, nmX1, by decide +kernel, rfl, fun h => by cases h⟩
theorem tw_138 : Cond.fieldLink RX7 227 "MonotonePostings$CodeRow" "length" "I" ∈ LT := LT_of 138 (by decide +kernel) (by decide +kernel)
theorem fX7_227r : FLr RX7 227 1 1 := ⟨RX1, TX1, 2, rfl, by decide, luX1, tw_138⟩
theorem fX7_227 : FLd RX7 227 1 1 (.int) false := ⟨RX1, TX1, 2, tyX1, rfl, by decide, luX1, tw_138, tyX1_ok, nmX1, by decide +kernel, rfl, fun h => by cases h⟩
theorem tw_144 : Cond.fieldLink RX7 12 "MonotonePostings" "now" "LMonotonePostings$State;" ∈ LT := LT_of 144 (by decide +kernel) (by decide +kernel)
theorem fX7_12r : FLr RX7 12 6 0 := ⟨RX7, TX7, 6, rfl, by decide, luX7, tw_144⟩
theorem fX7_12 : FLd RX7 12 6 0 (.object "MonotonePostings$State") true := ⟨RX7, TX7, 6, tyX7, rfl, by decide, luX7, tw_144, tyX7_ok, nmX7, by decide +kernel, rfl, fun _ => rfl⟩
theorem tw_145 : Cond.fieldLink RX7 19 "MonotonePostings" "history" "LMonotonePostings$History;" ∈ LT := LT_of 145 (by decide +kernel) (by decide +kernel)
theorem fX7_19r : FLr RX7 19 6 1 := ⟨RX7, TX7, 6, rfl, by decide, luX7, tw_145⟩
theorem fX7_19 : FLd RX7 19 6 1 (.object "MonotonePostings$History") true := ⟨RX7, TX7, 6, tyX7, rfl, by decide, luX7, tw_145, tyX7_ok, nmX7, by decide +kernel, rfl, fun _ => rfl⟩
theorem tw_146 : Cond.fieldLink RX7 26 "MonotonePostings" "partitioner" "LMonotonePostings$Partitioner;" ∈ LT := LT_of 146 (by decide +kernel) (by decide +kernel)
theorem fX7_26r : FLr RX7 26 6 2 := ⟨RX7, TX7, 6, rfl, by decide, luX7, tw_146⟩
theorem fX7_26 : FLd RX7 26 6 2 (.object "MonotonePostings$Partitioner") true := ⟨RX7, TX7, 6, tyX7, rfl, by decide, luX7, tw_146, tyX7_ok, nmX7, by decide +kernel, rfl, fun _ => rfl⟩
theorem tw_147 : Cond.fieldLink RX7 33 "MonotonePostings" "code" "LMonotonePostings$CodeRow;" ∈ LT := LT_of 147 (by decide +kernel) (by decide +kernel)
theorem fX7_33r : FLr RX7 33 6 3 := ⟨RX7, TX7, 6, rfl, by decide, luX7, tw_147⟩
theorem fX7_33 : FLd RX7 33 6 3 (.object "MonotonePostings$CodeRow") true := ⟨RX7, TX7, 6, tyX7, rfl, by decide, luX7, tw_147, tyX7_ok, nmX7, by decide +kernel, rfl, fun _ => rfl⟩
theorem tw_148 : Cond.fieldLink RX7 37 "MonotonePostings" "order" "[I" ∈ LT := LT_of 148 (by decide +kernel) (by decide +kernel)
theorem fX7_37r : FLr RX7 37 6 4 := ⟨RX7, TX7, 6, rfl, by decide, luX7, tw_148⟩
theorem fX7_37 : FLd RX7 37 6 4 (.array .int) true := ⟨RX7, TX7, 6, tyX7, rfl, by decide, luX7, tw_148, tyX7_ok, nmX7, by decide +kernel, rfl, fun _ => rfl⟩
theorem tw_149 : Cond.fieldLink RX7 41 "MonotonePostings" "result" "[I" ∈ LT := LT_of 149 (by decide +kernel) (by decide +kernel)
theorem fX7_41r : FLr RX7 41 6 5 := ⟨RX7, TX7, 6, rfl, by decide, luX7, tw_149⟩
theorem fX7_41 : FLd RX7 41 6 5 (.array .int) true := ⟨RX7, TX7, 6, tyX7, rfl, by decide, luX7, tw_149, tyX7_ok, nmX7, by decide +kernel, rfl, fun _ => rfl⟩
theorem tw_655 : Cond.fieldLink RX8 41 "MonotonePostingsModel" "thrown" "I" ∈ LT := LT_of 655 (by decide +kernel) (by decide +kernel)
theorem fX8_41r : FLr RX8 41 7 0 := ⟨RX8, TX8, 12, rfl, by decide, luX8, tw_655⟩
theorem fX8_41 : FLd RX8 41 7 0 (.int) false := ⟨RX8, TX8, 12, tyX8, rfl, by decide, luX8, tw_655, tyX8_ok, nmX8, by decide +kernel, rfl, fun h => by cases h⟩
theorem tw_656 : Cond.fieldLink RX8 7 "MonotonePostingsModel" "w" "[I" ∈ LT := LT_of 656 (by decide +kernel) (by decide +kernel)
theorem fX8_7r : FLr RX8 7 7 1 := ⟨RX8, TX8, 12, rfl, by decide, luX8, tw_656⟩
theorem fX8_7 : FLd RX8 7 7 1 (.array .int) true := ⟨RX8, TX8, 12, tyX8, rfl, by decide, luX8, tw_656, tyX8_ok, nmX8, by decide +kernel, rfl, fun _ => rfl⟩
theorem tw_657 : Cond.fieldLink RX8 13 "MonotonePostingsModel" "past" "[I" ∈ LT := LT_of 657 (by decide +kernel) (by decide +kernel)
theorem fX8_13r : FLr RX8 13 7 2 := ⟨RX8, TX8, 12, rfl, by decide, luX8, tw_657⟩
theorem fX8_13 : FLd RX8 13 7 2 (.array .int) true := ⟨RX8, TX8, 12, tyX8, rfl, by decide, luX8, tw_657, tyX8_ok, nmX8, by decide +kernel, rfl, fun _ => rfl⟩
theorem tw_658 : Cond.fieldLink RX8 49 "MonotonePostingsModel" "saved" "I" ∈ LT := LT_of 658 (by decide +kernel) (by decide +kernel)
theorem fX8_49r : FLr RX8 49 7 3 := ⟨RX8, TX8, 12, rfl, by decide, luX8, tw_658⟩
theorem fX8_49 : FLd RX8 49 7 3 (.int) false := ⟨RX8, TX8, 12, tyX8, rfl, by decide, luX8, tw_658, tyX8_ok, nmX8, by decide +kernel, rfl, fun h => by cases h⟩
theorem tw_659 : Cond.fieldLink RX8 16 "MonotonePostingsModel" "begins" "[I" ∈ LT := LT_of 659 (by decide +kernel) (by decide +kernel)
theorem fX8_16r : FLr RX8 16 7 4 := ⟨RX8, TX8, 12, rfl, by decide, luX8, tw_659⟩
theorem fX8_16 : FLd RX8 16 7 4 (.array .int) true := ⟨RX8, TX8, 12, tyX8, rfl, by decide, luX8, tw_659, tyX8_ok, nmX8, by decide +kernel, rfl, fun _ => rfl⟩
theorem tw_660 : Cond.fieldLink RX8 19 "MonotonePostingsModel" "many" "[I" ∈ LT := LT_of 660 (by decide +kernel) (by decide +kernel)
theorem fX8_19r : FLr RX8 19 7 5 := ⟨RX8, TX8, 12, rfl, by decide, luX8, tw_660⟩
theorem fX8_19 : FLd RX8 19 7 5 (.array .int) true := ⟨RX8, TX8, 12, tyX8, rfl, by decide, luX8, tw_660, tyX8_ok, nmX8, by decide +kernel, rfl, fun _ => rfl⟩
theorem tw_661 : Cond.fieldLink RX8 22 "MonotonePostingsModel" "laid" "[Z" ∈ LT := LT_of 661 (by decide +kernel) (by decide +kernel)
theorem fX8_22r : FLr RX8 22 7 6 := ⟨RX8, TX8, 12, rfl, by decide, luX8, tw_661⟩
theorem fX8_22 : FLd RX8 22 7 6 (.array .boolean) true := ⟨RX8, TX8, 12, tyX8, rfl, by decide, luX8, tw_661, tyX8_ok, nmX8, by decide +kernel, rfl, fun _ => rfl⟩
theorem tw_662 : Cond.fieldLink RX8 26 "MonotonePostingsModel" "cost" "[I" ∈ LT := LT_of 662 (by decide +kernel) (by decide +kernel)
theorem fX8_26r : FLr RX8 26 7 7 := ⟨RX8, TX8, 12, rfl, by decide, luX8, tw_662⟩
theorem fX8_26 : FLd RX8 26 7 7 (.array .int) true := ⟨RX8, TX8, 12, tyX8, rfl, by decide, luX8, tw_662, tyX8_ok, nmX8, by decide +kernel, rfl, fun _ => rfl⟩
theorem tw_663 : Cond.fieldLink RX8 29 "MonotonePostingsModel" "count" "[I" ∈ LT := LT_of 663 (by decide +kernel) (by decide +kernel)
theorem fX8_29r : FLr RX8 29 7 8 := ⟨RX8, TX8, 12, rfl, by decide, luX8, tw_663⟩
theorem fX8_29 : FLd RX8 29 7 8 (.array .int) true := ⟨RX8, TX8, 12, tyX8, rfl, by decide, luX8, tw_663, tyX8_ok, nmX8, by decide +kernel, rfl, fun _ => rfl⟩
theorem tw_664 : Cond.fieldLink RX8 32 "MonotonePostingsModel" "next" "[I" ∈ LT := LT_of 664 (by decide +kernel) (by decide +kernel)
theorem fX8_32r : FLr RX8 32 7 9 := ⟨RX8, TX8, 12, rfl, by decide, luX8, tw_664⟩
theorem fX8_32 : FLd RX8 32 7 9 (.array .int) true := ⟨RX8, TX8, 12, tyX8, rfl, by decide, luX8, tw_664, tyX8_ok, nmX8, by decide +kernel, rfl, fun _ => rfl⟩
theorem tw_665 : Cond.fieldLink RX8 35 "MonotonePostingsModel" "found" "[I" ∈ LT := LT_of 665 (by decide +kernel) (by decide +kernel)
theorem fX8_35r : FLr RX8 35 7 10 := ⟨RX8, TX8, 12, rfl, by decide, luX8, tw_665⟩
theorem fX8_35 : FLd RX8 35 7 10 (.array .int) true := ⟨RX8, TX8, 12, tyX8, rfl, by decide, luX8, tw_665, tyX8_ok, nmX8, by decide +kernel, rfl, fun _ => rfl⟩
theorem tw_666 : Cond.fieldLink RX8 38 "MonotonePostingsModel" "order" "[I" ∈ LT := LT_of 666 (by decide +kernel) (by decide +kernel)
theorem fX8_38r : FLr RX8 38 7 11 := ⟨RX8, TX8, 12, rfl, by decide, luX8, tw_666⟩
theorem fX8_38 : FLd RX8 38 7 11 (.array .int) true := ⟨RX8, TX8, 12, tyX8, rfl, by decide, luX8, tw_666, tyX8_ok, nmX8, by decide +kernel, rfl, fun _ => rfl⟩
theorem tw_19 : Cond.methodLink RL 81 yX7_init ∈ LT := LT_of 19 (by decide +kernel) (by decide +kernel)
theorem tw_20 : Cond.instanceMethod yX7_init ∈ LT := LT_of 20 (by decide +kernel) (by decide +kernel)
theorem tw_1 : Cond.initialized RX7 ∈ LT := LT_of 1 (by decide +kernel) (by decide +kernel)
theorem tw_21 : Cond.code yX7_init cX7_init 1 none ∈ LT := LT_of 21 (by decide +kernel) (by decide +kernel)
theorem kiL_81 : CId RL 81 mX7_init 0 := ⟨tw_19, tw_20, rfl, tw_1, tw_21, rfl, rfl, ⟨by decide +kernel, by decide +kernel, by decide +kernel⟩⟩
theorem tw_obj_RX7_3 : Cond.code objectInit ⟨#[0xb1]⟩ 1 none ∈ LT := LT_of 24 (by decide +kernel) (by decide +kernel)
theorem tw_22 : Cond.methodLink RX7 3 objectInit ∈ LT := LT_of 22 (by decide +kernel) (by decide +kernel)
theorem tw_23 : Cond.instanceMethod objectInit ∈ LT := LT_of 23 (by decide +kernel) (by decide +kernel)
theorem oiX7_3 : Cond.methodLink RX7 3 objectInit ∈ LT ∧ Cond.instanceMethod objectInit ∈ LT ∧ Cond.code objectInit ⟨#[0xb1]⟩ 1 none ∈ LT := ⟨tw_22, tw_23, tw_obj_RX7_3⟩
theorem tw_27 : Cond.methodLink RX7 11 yX6_init ∈ LT := LT_of 27 (by decide +kernel) (by decide +kernel)
theorem tw_28 : Cond.instanceMethod yX6_init ∈ LT := LT_of 28 (by decide +kernel) (by decide +kernel)
theorem tw_2 : Cond.initialized RX6 ∈ LT := LT_of 2 (by decide +kernel) (by decide +kernel)
theorem tw_29 : Cond.code yX6_init cX6_init 2 none ∈ LT := LT_of 29 (by decide +kernel) (by decide +kernel)
theorem kiX7_11 : CId RX7 11 mX6_init 0 := ⟨tw_27, tw_28, rfl, tw_2, tw_29, rfl, rfl, ⟨by decide +kernel, by decide +kernel, by decide +kernel⟩⟩
theorem tw_obj_RX6_3 : Cond.code objectInit ⟨#[0xb1]⟩ 1 none ∈ LT := LT_of 24 (by decide +kernel) (by decide +kernel)
theorem tw_30 : Cond.methodLink RX6 3 objectInit ∈ LT := LT_of 30 (by decide +kernel) (by decide +kernel)
theorem oiX6_3 : Cond.methodLink RX6 3 objectInit ∈ LT ∧ Cond.instanceMethod objectInit ∈ LT ∧ Cond.code objectInit ⟨#[0xb1]⟩ 1 none ∈ LT := ⟨tw_30, tw_23, tw_obj_RX6_3⟩
theorem tw_obj_RX0_3 : Cond.code objectInit ⟨#[0xb1]⟩ 1 none ∈ LT := LT_of 24 (by decide +kernel) (by decide +kernel)
theorem tw_38 : Cond.methodLink RX0 3 objectInit ∈ LT := LT_of 38 (by decide +kernel) (by decide +kernel)
theorem oiX0_3 : Cond.methodLink RX0 3 objectInit ∈ LT ∧ Cond.instanceMethod objectInit ∈ LT ∧ Cond.code objectInit ⟨#[0xb1]⟩ 1 none ∈ LT := ⟨tw_38, tw_23, tw_obj_RX0_3⟩
theorem tw_obj_RX4_3 : Cond.code objectInit ⟨#[0xb1]⟩ 1 none ∈ LT := LT_of 24 (by decide +kernel) (by decide +kernel)
theorem tw_57 : Cond.methodLink RX4 3 objectInit ∈ LT := LT_of 57 (by decide +kernel) (by decide +kernel)
theorem oiX4_3 : Cond.methodLink RX4 3 objectInit ∈ LT ∧ Cond.instanceMethod objectInit ∈ LT ∧ Cond.code objectInit ⟨#[0xb1]⟩ 1 none ∈ LT := ⟨tw_57, tw_23, tw_obj_RX4_3⟩
theorem tw_98 : Cond.methodLink RX7 18 yX2_init ∈ LT := LT_of 98 (by decide +kernel) (by decide +kernel)
theorem tw_99 : Cond.instanceMethod yX2_init ∈ LT := LT_of 99 (by decide +kernel) (by decide +kernel)
theorem tw_5 : Cond.initialized RX2 ∈ LT := LT_of 5 (by decide +kernel) (by decide +kernel)
theorem tw_100 : Cond.code yX2_init cX2_init 2 none ∈ LT := LT_of 100 (by decide +kernel) (by decide +kernel)
theorem kiX7_18 : CId RX7 18 mX2_init 0 := ⟨tw_98, tw_99, rfl, tw_5, tw_100, rfl, rfl, ⟨by decide +kernel, by decide +kernel, by decide +kernel⟩⟩
theorem tw_obj_RX2_3 : Cond.code objectInit ⟨#[0xb1]⟩ 1 none ∈ LT := LT_of 24 (by decide +kernel) (by decide +kernel)
theorem tw_101 : Cond.methodLink RX2 3 objectInit ∈ LT := LT_of 101 (by decide +kernel) (by decide +kernel)
theorem oiX2_3 : Cond.methodLink RX2 3 objectInit ∈ LT ∧ Cond.instanceMethod objectInit ∈ LT ∧ Cond.code objectInit ⟨#[0xb1]⟩ 1 none ∈ LT := ⟨tw_101, tw_23, tw_obj_RX2_3⟩
theorem tw_104 : Cond.methodLink RX2 24 yX6_init ∈ LT := LT_of 104 (by decide +kernel) (by decide +kernel)
theorem kiX2_24 : CId RX2 24 mX6_init 0 := ⟨tw_104, tw_28, rfl, tw_2, tw_29, rfl, rfl, ⟨by decide +kernel, by decide +kernel, by decide +kernel⟩⟩
theorem tw_obj_RX3_3 : Cond.code objectInit ⟨#[0xb1]⟩ 1 none ∈ LT := LT_of 24 (by decide +kernel) (by decide +kernel)
theorem tw_121 : Cond.methodLink RX3 3 objectInit ∈ LT := LT_of 121 (by decide +kernel) (by decide +kernel)
theorem oiX3_3 : Cond.methodLink RX3 3 objectInit ∈ LT ∧ Cond.instanceMethod objectInit ∈ LT ∧ Cond.code objectInit ⟨#[0xb1]⟩ 1 none ∈ LT := ⟨tw_121, tw_23, tw_obj_RX3_3⟩
theorem tw_obj_RX1_3 : Cond.code objectInit ⟨#[0xb1]⟩ 1 none ∈ LT := LT_of 24 (by decide +kernel) (by decide +kernel)
theorem tw_134 : Cond.methodLink RX1 3 objectInit ∈ LT := LT_of 134 (by decide +kernel) (by decide +kernel)
theorem oiX1_3 : Cond.methodLink RX1 3 objectInit ∈ LT ∧ Cond.instanceMethod objectInit ∈ LT ∧ Cond.code objectInit ⟨#[0xb1]⟩ 1 none ∈ LT := ⟨tw_134, tw_23, tw_obj_RX1_3⟩
theorem tw_163 : Cond.methodLink RL 146 yX7_reads ∈ LT := LT_of 163 (by decide +kernel) (by decide +kernel)
theorem tw_164 : Cond.instanceMethod yX7_reads ∈ LT := LT_of 164 (by decide +kernel) (by decide +kernel)
theorem tw_165 : Cond.selects RX7 yX7_reads yX7_reads ∈ LT := LT_of 165 (by decide +kernel) (by decide +kernel)
theorem tw_166 : Cond.code yX7_reads cX7_reads 1 (some .int) ∈ LT := LT_of 166 (by decide +kernel) (by decide +kernel)
theorem kvL_146 : CVd RL 146 6 mX7_reads 0 := ⟨⟨TX7, 6, rfl⟩, tw_163, tw_164, tw_165, tw_1, tw_166, rfl, ⟨by decide +kernel, by decide +kernel, by decide +kernel⟩⟩
theorem tw_167 : Cond.methodLink RL 150 yX7_hits ∈ LT := LT_of 167 (by decide +kernel) (by decide +kernel)
theorem tw_168 : Cond.instanceMethod yX7_hits ∈ LT := LT_of 168 (by decide +kernel) (by decide +kernel)
theorem tw_169 : Cond.selects RX7 yX7_hits yX7_hits ∈ LT := LT_of 169 (by decide +kernel) (by decide +kernel)
theorem tw_170 : Cond.code yX7_hits cX7_hits 1 (some .int) ∈ LT := LT_of 170 (by decide +kernel) (by decide +kernel)
theorem kvL_150 : CVd RL 150 6 mX7_hits 0 := ⟨⟨TX7, 6, rfl⟩, tw_167, tw_168, tw_169, tw_1, tw_170, rfl, ⟨by decide +kernel, by decide +kernel, by decide +kernel⟩⟩
theorem tw_171 : Cond.methodLink RL 157 yX7_cached ∈ LT := LT_of 171 (by decide +kernel) (by decide +kernel)
theorem tw_172 : Cond.instanceMethod yX7_cached ∈ LT := LT_of 172 (by decide +kernel) (by decide +kernel)
theorem tw_173 : Cond.selects RX7 yX7_cached yX7_cached ∈ LT := LT_of 173 (by decide +kernel) (by decide +kernel)
theorem tw_174 : Cond.code yX7_cached cX7_cached 1 (some .int) ∈ LT := LT_of 174 (by decide +kernel) (by decide +kernel)
theorem kvL_157 : CVd RL 157 6 mX7_cached 0 := ⟨⟨TX7, 6, rfl⟩, tw_171, tw_172, tw_173, tw_1, tw_174, rfl, ⟨by decide +kernel, by decide +kernel, by decide +kernel⟩⟩
theorem tw_175 : Cond.methodLink RL 168 yX7_digest ∈ LT := LT_of 175 (by decide +kernel) (by decide +kernel)
theorem tw_176 : Cond.instanceMethod yX7_digest ∈ LT := LT_of 176 (by decide +kernel) (by decide +kernel)
theorem tw_177 : Cond.selects RX7 yX7_digest yX7_digest ∈ LT := LT_of 177 (by decide +kernel) (by decide +kernel)
theorem tw_178 : Cond.code yX7_digest cX7_digest 4 (some .long) ∈ LT := LT_of 178 (by decide +kernel) (by decide +kernel)
theorem kvL_168 : CVd RL 168 6 mX7_digest 0 := ⟨⟨TX7, 6, rfl⟩, tw_175, tw_176, tw_177, tw_1, tw_178, rfl, ⟨by decide +kernel, by decide +kernel, by decide +kernel⟩⟩
theorem tw_180 : Cond.methodLink RX7 181 yX7_mixList ∈ LT := LT_of 180 (by decide +kernel) (by decide +kernel)
theorem tw_182 : Cond.instanceMethod yX7_mixList ∈ LT := LT_of 182 (by decide +kernel) (by decide +kernel)
theorem ts_0 : Cond.selects RX7 yX7_mixList yX7_mixList ∈ LT := LT_sel 0 (by decide +kernel) (by decide +kernel)
theorem tw_183 : Cond.code yX7_mixList cX7_mixList 6 (some .long) ∈ LT := LT_of 183 (by decide +kernel) (by decide +kernel)
theorem kvX7_181 : CVd RX7 181 6 mX7_mixList 2 := ⟨⟨TX7, 6, rfl⟩, tw_180, tw_182, ts_0, tw_1, tw_183, rfl, ⟨by decide +kernel, by decide +kernel, by decide +kernel⟩⟩
theorem tw_184 : Cond.methodLink RX7 185 yX7_mix ∈ LT := LT_of 184 (by decide +kernel) (by decide +kernel)
theorem tw_185 : Cond.static yX7_mix ∈ LT := LT_of 185 (by decide +kernel) (by decide +kernel)
theorem tw_186 : Cond.code yX7_mix cX7_mix 3 (some .long) ∈ LT := LT_of 186 (by decide +kernel) (by decide +kernel)
theorem ksX7_185 : CSd RX7 185 mX7_mix 2 := ⟨tw_184, tw_185, tw_1, tw_186, rfl, ⟨by decide +kernel, by decide +kernel, by decide +kernel⟩⟩
theorem tw_188 : Cond.methodLink RX7 189 yX7_mixRow ∈ LT := LT_of 188 (by decide +kernel) (by decide +kernel)
theorem tw_189 : Cond.static yX7_mixRow ∈ LT := LT_of 189 (by decide +kernel) (by decide +kernel)
theorem tw_190 : Cond.code yX7_mixRow cX7_mixRow 7 (some .long) ∈ LT := LT_of 190 (by decide +kernel) (by decide +kernel)
theorem ksX7_189 : CSd RX7 189 mX7_mixRow 3 := ⟨tw_188, tw_189, tw_1, tw_190, rfl, ⟨by decide +kernel, by decide +kernel, by decide +kernel⟩⟩
theorem tw_191 : Cond.methodLink RX7 116 yX1_write ∈ LT := LT_of 191 (by decide +kernel) (by decide +kernel)
theorem tw_192 : Cond.instanceMethod yX1_write ∈ LT := LT_of 192 (by decide +kernel) (by decide +kernel)
theorem tw_193 : Cond.selects RX1 yX1_write yX1_write ∈ LT := LT_of 193 (by decide +kernel) (by decide +kernel)
theorem tw_7 : Cond.initialized RX1 ∈ LT := LT_of 7 (by decide +kernel) (by decide +kernel)
theorem tw_194 : Cond.code yX1_write cX1_write 5 none ∈ LT := LT_of 194 (by decide +kernel) (by decide +kernel)
theorem kvX7_116 : CVd RX7 116 1 mX1_write 1 := ⟨⟨TX1, 2, rfl⟩, tw_191, tw_192, tw_193, tw_7, tw_194, rfl, ⟨by decide +kernel, by decide +kernel, by decide +kernel⟩⟩
theorem tw_195 : Cond.methodLink RX1 24 yX4_factOf ∈ LT := LT_of 195 (by decide +kernel) (by decide +kernel)
theorem tw_196 : Cond.instanceMethod yX4_factOf ∈ LT := LT_of 196 (by decide +kernel) (by decide +kernel)
theorem tw_197 : Cond.selects RX4 yX4_factOf yX4_factOf ∈ LT := LT_of 197 (by decide +kernel) (by decide +kernel)
theorem tw_4 : Cond.initialized RX4 ∈ LT := LT_of 4 (by decide +kernel) (by decide +kernel)
theorem tw_198 : Cond.code yX4_factOf cX4_factOf 3 (some .int) ∈ LT := LT_of 198 (by decide +kernel) (by decide +kernel)
theorem kvX1_24 : CVd RX1 24 4 mX4_factOf 2 := ⟨⟨TX4, 4, rfl⟩, tw_195, tw_196, tw_197, tw_4, tw_198, rfl, ⟨by decide +kernel, by decide +kernel, by decide +kernel⟩⟩
theorem tw_199 : Cond.methodLink RX1 28 yX1_putHeader ∈ LT := LT_of 199 (by decide +kernel) (by decide +kernel)
theorem tw_201 : Cond.instanceMethod yX1_putHeader ∈ LT := LT_of 201 (by decide +kernel) (by decide +kernel)
theorem ts_1 : Cond.selects RX1 yX1_putHeader yX1_putHeader ∈ LT := LT_sel 1 (by decide +kernel) (by decide +kernel)
theorem tw_202 : Cond.code yX1_putHeader cX1_putHeader 3 none ∈ LT := LT_of 202 (by decide +kernel) (by decide +kernel)
theorem kvX1_28 : CVd RX1 28 1 mX1_putHeader 2 := ⟨⟨TX1, 2, rfl⟩, tw_199, tw_201, ts_1, tw_7, tw_202, rfl, ⟨by decide +kernel, by decide +kernel, by decide +kernel⟩⟩
theorem tw_203 : Cond.methodLink RX1 42 yX1_put ∈ LT := LT_of 203 (by decide +kernel) (by decide +kernel)
theorem tw_205 : Cond.instanceMethod yX1_put ∈ LT := LT_of 205 (by decide +kernel) (by decide +kernel)
theorem ts_2 : Cond.selects RX1 yX1_put yX1_put ∈ LT := LT_sel 2 (by decide +kernel) (by decide +kernel)
theorem tw_206 : Cond.code yX1_put cX1_put 4 none ∈ LT := LT_of 206 (by decide +kernel) (by decide +kernel)
theorem kvX1_42 : CVd RX1 42 1 mX1_put 2 := ⟨⟨TX1, 2, rfl⟩, tw_203, tw_205, ts_2, tw_7, tw_206, rfl, ⟨by decide +kernel, by decide +kernel, by decide +kernel⟩⟩
theorem tw_207 : Cond.methodLink RX1 46 yX4_widthOf ∈ LT := LT_of 207 (by decide +kernel) (by decide +kernel)
theorem tw_208 : Cond.instanceMethod yX4_widthOf ∈ LT := LT_of 208 (by decide +kernel) (by decide +kernel)
theorem tw_209 : Cond.selects RX4 yX4_widthOf yX4_widthOf ∈ LT := LT_of 209 (by decide +kernel) (by decide +kernel)
theorem tw_210 : Cond.code yX4_widthOf cX4_widthOf 2 (some .int) ∈ LT := LT_of 210 (by decide +kernel) (by decide +kernel)
theorem kvX1_46 : CVd RX1 46 4 mX4_widthOf 1 := ⟨⟨TX4, 4, rfl⟩, tw_207, tw_208, tw_209, tw_4, tw_210, rfl, ⟨by decide +kernel, by decide +kernel, by decide +kernel⟩⟩
theorem tw_211 : Cond.methodLink RX4 44 yX4_factOf ∈ LT := LT_of 211 (by decide +kernel) (by decide +kernel)
theorem kvX4_44 : CVd RX4 44 4 mX4_factOf 2 := ⟨⟨TX4, 4, rfl⟩, tw_211, tw_196, tw_197, tw_4, tw_198, rfl, ⟨by decide +kernel, by decide +kernel, by decide +kernel⟩⟩
theorem tw_212 : Cond.methodLink RX1 32 yX1_putBitmap ∈ LT := LT_of 212 (by decide +kernel) (by decide +kernel)
theorem tw_214 : Cond.instanceMethod yX1_putBitmap ∈ LT := LT_of 214 (by decide +kernel) (by decide +kernel)
theorem ts_3 : Cond.selects RX1 yX1_putBitmap yX1_putBitmap ∈ LT := LT_sel 3 (by decide +kernel) (by decide +kernel)
theorem tw_215 : Cond.code yX1_putBitmap cX1_putBitmap 8 none ∈ LT := LT_of 215 (by decide +kernel) (by decide +kernel)
theorem kvX1_32 : CVd RX1 32 1 mX1_putBitmap 3 := ⟨⟨TX1, 2, rfl⟩, tw_212, tw_214, ts_3, tw_7, tw_215, rfl, ⟨by decide +kernel, by decide +kernel, by decide +kernel⟩⟩
theorem tw_216 : Cond.methodLink RX1 50 yX4_documentAt ∈ LT := LT_of 216 (by decide +kernel) (by decide +kernel)
theorem tw_217 : Cond.instanceMethod yX4_documentAt ∈ LT := LT_of 217 (by decide +kernel) (by decide +kernel)
theorem tw_218 : Cond.selects RX4 yX4_documentAt yX4_documentAt ∈ LT := LT_of 218 (by decide +kernel) (by decide +kernel)
theorem tw_219 : Cond.code yX4_documentAt cX4_documentAt 2 (some .int) ∈ LT := LT_of 219 (by decide +kernel) (by decide +kernel)
theorem kvX1_50 : CVd RX1 50 4 mX4_documentAt 1 := ⟨⟨TX4, 4, rfl⟩, tw_216, tw_217, tw_218, tw_4, tw_219, rfl, ⟨by decide +kernel, by decide +kernel, by decide +kernel⟩⟩
theorem tw_220 : Cond.methodLink RX1 53 yX1_setBit ∈ LT := LT_of 220 (by decide +kernel) (by decide +kernel)
theorem tw_222 : Cond.instanceMethod yX1_setBit ∈ LT := LT_of 222 (by decide +kernel) (by decide +kernel)
theorem ts_4 : Cond.selects RX1 yX1_setBit yX1_setBit ∈ LT := LT_sel 4 (by decide +kernel) (by decide +kernel)
theorem tw_223 : Cond.code yX1_setBit cX1_setBit 2 none ∈ LT := LT_of 223 (by decide +kernel) (by decide +kernel)
theorem kvX1_53 : CVd RX1 53 1 mX1_setBit 1 := ⟨⟨TX1, 2, rfl⟩, tw_220, tw_222, ts_4, tw_7, tw_223, rfl, ⟨by decide +kernel, by decide +kernel, by decide +kernel⟩⟩
theorem tw_224 : Cond.methodLink RX1 36 yX1_putHighParts ∈ LT := LT_of 224 (by decide +kernel) (by decide +kernel)
theorem tw_226 : Cond.instanceMethod yX1_putHighParts ∈ LT := LT_of 226 (by decide +kernel) (by decide +kernel)
theorem ts_5 : Cond.selects RX1 yX1_putHighParts yX1_putHighParts ∈ LT := LT_sel 5 (by decide +kernel) (by decide +kernel)
theorem tw_227 : Cond.code yX1_putHighParts cX1_putHighParts 9 none ∈ LT := LT_of 227 (by decide +kernel) (by decide +kernel)
theorem kvX1_36 : CVd RX1 36 1 mX1_putHighParts 3 := ⟨⟨TX1, 2, rfl⟩, tw_224, tw_226, ts_5, tw_7, tw_227, rfl, ⟨by decide +kernel, by decide +kernel, by decide +kernel⟩⟩
theorem tw_228 : Cond.methodLink RX1 57 yX5_highLength ∈ LT := LT_of 228 (by decide +kernel) (by decide +kernel)
theorem tw_229 : Cond.static yX5_highLength ∈ LT := LT_of 229 (by decide +kernel) (by decide +kernel)
theorem tw_16 : Cond.initialized RX5 ∈ LT := LT_of 16 (by decide +kernel) (by decide +kernel)
theorem tw_230 : Cond.code yX5_highLength cX5_highLength 3 (some .int) ∈ LT := LT_of 230 (by decide +kernel) (by decide +kernel)
theorem ksX1_57 : CSd RX1 57 mX5_highLength 3 := ⟨tw_228, tw_229, tw_16, tw_230, rfl, ⟨by decide +kernel, by decide +kernel, by decide +kernel⟩⟩
theorem tw_231 : Cond.methodLink RX1 39 yX1_putLowParts ∈ LT := LT_of 231 (by decide +kernel) (by decide +kernel)
theorem tw_233 : Cond.instanceMethod yX1_putLowParts ∈ LT := LT_of 233 (by decide +kernel) (by decide +kernel)
theorem ts_6 : Cond.selects RX1 yX1_putLowParts yX1_putLowParts ∈ LT := LT_sel 6 (by decide +kernel) (by decide +kernel)
theorem tw_234 : Cond.code yX1_putLowParts cX1_putLowParts 8 none ∈ LT := LT_of 234 (by decide +kernel) (by decide +kernel)
theorem kvX1_39 : CVd RX1 39 1 mX1_putLowParts 3 := ⟨⟨TX1, 2, rfl⟩, tw_231, tw_233, ts_6, tw_7, tw_234, rfl, ⟨by decide +kernel, by decide +kernel, by decide +kernel⟩⟩
theorem tw_235 : Cond.methodLink RL 85 yL_append ∈ LT := LT_of 235 (by decide +kernel) (by decide +kernel)
theorem tw_236 : Cond.static yL_append ∈ LT := LT_of 236 (by decide +kernel) (by decide +kernel)
theorem tw_0 : Cond.initialized RL ∈ LT := LT_of 0 (by decide +kernel) (by decide +kernel)
theorem tw_237 : Cond.codeWith yL_append cL_append 5 (some .int) [(0, 10, 13, 13), (0, 10, 17, 15), (0, 10, 21, 17)] ∈ LT := LT_of 237 (by decide +kernel) (by decide +kernel)
theorem ksL_85 : CSw RL 85 mL_append 4 := ⟨tw_235, tw_236, tw_0, tw_237, (fun z => by cases z), ⟨by decide +kernel, by decide +kernel, by decide +kernel⟩⟩
theorem tw_241 : Cond.methodLink RL 7 yX7_append ∈ LT := LT_of 241 (by decide +kernel) (by decide +kernel)
theorem tw_242 : Cond.instanceMethod yX7_append ∈ LT := LT_of 242 (by decide +kernel) (by decide +kernel)
theorem tw_243 : Cond.selects RX7 yX7_append yX7_append ∈ LT := LT_of 243 (by decide +kernel) (by decide +kernel)
theorem tw_244 : Cond.code yX7_append cX7_append 3 (some .int) ∈ LT := LT_of 244 (by decide +kernel) (by decide +kernel)
theorem kvL_7 : CVd RL 7 6 mX7_append 2 := ⟨⟨TX7, 6, rfl⟩, tw_241, tw_242, tw_243, tw_1, tw_244, rfl, ⟨by decide +kernel, by decide +kernel, by decide +kernel⟩⟩
theorem tw_245 : Cond.methodLink RX7 44 yX7_appendRange ∈ LT := LT_of 245 (by decide +kernel) (by decide +kernel)
theorem tw_246 : Cond.instanceMethod yX7_appendRange ∈ LT := LT_of 246 (by decide +kernel) (by decide +kernel)
theorem tw_247 : Cond.selects RX7 yX7_appendRange yX7_appendRange ∈ LT := LT_of 247 (by decide +kernel) (by decide +kernel)
theorem tw_248 : Cond.code yX7_appendRange cX7_appendRange 7 (some .int) ∈ LT := LT_of 248 (by decide +kernel) (by decide +kernel)
theorem kvX7_44 : CVd RX7 44 6 mX7_appendRange 4 := ⟨⟨TX7, 6, rfl⟩, tw_245, tw_246, tw_247, tw_1, tw_248, rfl, ⟨by decide +kernel, by decide +kernel, by decide +kernel⟩⟩
theorem tw_249 : Cond.methodLink RX7 48 yX7_listAt ∈ LT := LT_of 249 (by decide +kernel) (by decide +kernel)
theorem tw_251 : Cond.instanceMethod yX7_listAt ∈ LT := LT_of 251 (by decide +kernel) (by decide +kernel)
theorem ts_7 : Cond.selects RX7 yX7_listAt yX7_listAt ∈ LT := LT_sel 7 (by decide +kernel) (by decide +kernel)
theorem tw_252 : Cond.code yX7_listAt cX7_listAt 2 (some (.object "MonotonePostings$Postings")) ∈ LT := LT_of 252 (by decide +kernel) (by decide +kernel)
theorem kvX7_48 : CVd RX7 48 6 mX7_listAt 1 := ⟨⟨TX7, 6, rfl⟩, tw_249, tw_251, ts_7, tw_1, tw_252, rfl, ⟨by decide +kernel, by decide +kernel, by decide +kernel⟩⟩
theorem tw_253 : Cond.methodLink RX7 126 yX7_requireList ∈ LT := LT_of 253 (by decide +kernel) (by decide +kernel)
theorem tw_254 : Cond.static yX7_requireList ∈ LT := LT_of 254 (by decide +kernel) (by decide +kernel)
theorem tw_255 : Cond.code yX7_requireList cX7_requireList 1 none ∈ LT := LT_of 255 (by decide +kernel) (by decide +kernel)
theorem ksX7_126 : CSd RX7 126 mX7_requireList 1 := ⟨tw_253, tw_254, tw_1, tw_255, rfl, ⟨by decide +kernel, by decide +kernel, by decide +kernel⟩⟩
theorem tw_256 : Cond.methodLink RX7 93 yX7_requireIndex ∈ LT := LT_of 256 (by decide +kernel) (by decide +kernel)
theorem tw_257 : Cond.static yX7_requireIndex ∈ LT := LT_of 257 (by decide +kernel) (by decide +kernel)
theorem tw_258 : Cond.code yX7_requireIndex cX7_requireIndex 2 none ∈ LT := LT_of 258 (by decide +kernel) (by decide +kernel)
theorem ksX7_93 : CSd RX7 93 mX7_requireIndex 2 := ⟨tw_256, tw_257, tw_1, tw_258, rfl, ⟨by decide +kernel, by decide +kernel, by decide +kernel⟩⟩
theorem tw_327 : Cond.methodLink RX7 52 yX7_requireRange ∈ LT := LT_of 327 (by decide +kernel) (by decide +kernel)
theorem tw_328 : Cond.static yX7_requireRange ∈ LT := LT_of 328 (by decide +kernel) (by decide +kernel)
theorem tw_329 : Cond.code yX7_requireRange cX7_requireRange 3 none ∈ LT := LT_of 329 (by decide +kernel) (by decide +kernel)
theorem ksX7_52 : CSd RX7 52 mX7_requireRange 3 := ⟨tw_327, tw_328, tw_1, tw_329, rfl, ⟨by decide +kernel, by decide +kernel, by decide +kernel⟩⟩
theorem tw_330 : Cond.methodLink RX7 101 yX7_requireBetween ∈ LT := LT_of 330 (by decide +kernel) (by decide +kernel)
theorem tw_331 : Cond.static yX7_requireBetween ∈ LT := LT_of 331 (by decide +kernel) (by decide +kernel)
theorem tw_332 : Cond.code yX7_requireBetween cX7_requireBetween 3 none ∈ LT := LT_of 332 (by decide +kernel) (by decide +kernel)
theorem ksX7_101 : CSd RX7 101 mX7_requireBetween 3 := ⟨tw_330, tw_331, tw_1, tw_332, rfl, ⟨by decide +kernel, by decide +kernel, by decide +kernel⟩⟩
theorem tw_349 : Cond.methodLink RX7 56 yX4_lastDocument ∈ LT := LT_of 349 (by decide +kernel) (by decide +kernel)
theorem tw_350 : Cond.instanceMethod yX4_lastDocument ∈ LT := LT_of 350 (by decide +kernel) (by decide +kernel)
theorem tw_351 : Cond.selects RX4 yX4_lastDocument yX4_lastDocument ∈ LT := LT_of 351 (by decide +kernel) (by decide +kernel)
theorem tw_352 : Cond.code yX4_lastDocument cX4_lastDocument 1 (some .int) ∈ LT := LT_of 352 (by decide +kernel) (by decide +kernel)
theorem kvX7_56 : CVd RX7 56 4 mX4_lastDocument 0 := ⟨⟨TX4, 4, rfl⟩, tw_349, tw_350, tw_351, tw_4, tw_352, rfl, ⟨by decide +kernel, by decide +kernel, by decide +kernel⟩⟩
theorem tw_353 : Cond.methodLink RX4 31 yX4_documentAt ∈ LT := LT_of 353 (by decide +kernel) (by decide +kernel)
theorem kvX4_31 : CVd RX4 31 4 mX4_documentAt 1 := ⟨⟨TX4, 4, rfl⟩, tw_353, tw_217, tw_218, tw_4, tw_219, rfl, ⟨by decide +kernel, by decide +kernel, by decide +kernel⟩⟩
theorem tw_371 : Cond.methodLink RX7 78 yX2_save ∈ LT := LT_of 371 (by decide +kernel) (by decide +kernel)
theorem tw_372 : Cond.instanceMethod yX2_save ∈ LT := LT_of 372 (by decide +kernel) (by decide +kernel)
theorem tw_373 : Cond.selects RX2 yX2_save yX2_save ∈ LT := LT_of 373 (by decide +kernel) (by decide +kernel)
theorem tw_374 : Cond.code yX2_save cX2_save 2 none ∈ LT := LT_of 374 (by decide +kernel) (by decide +kernel)
theorem kvX7_78 : CVd RX7 78 2 mX2_save 1 := ⟨⟨TX2, 3, rfl⟩, tw_371, tw_372, tw_373, tw_5, tw_374, rfl, ⟨by decide +kernel, by decide +kernel, by decide +kernel⟩⟩
theorem tw_375 : Cond.methodLink RX2 25 yX6_copyFrom ∈ LT := LT_of 375 (by decide +kernel) (by decide +kernel)
theorem tw_376 : Cond.instanceMethod yX6_copyFrom ∈ LT := LT_of 376 (by decide +kernel) (by decide +kernel)
theorem tw_377 : Cond.selects RX6 yX6_copyFrom yX6_copyFrom ∈ LT := LT_of 377 (by decide +kernel) (by decide +kernel)
theorem tw_378 : Cond.code yX6_copyFrom cX6_copyFrom 3 none ∈ LT := LT_of 378 (by decide +kernel) (by decide +kernel)
theorem kvX2_25 : CVd RX2 25 5 mX6_copyFrom 1 := ⟨⟨TX6, 4, rfl⟩, tw_375, tw_376, tw_377, tw_2, tw_378, rfl, ⟨by decide +kernel, by decide +kernel, by decide +kernel⟩⟩
theorem tw_379 : Cond.methodLink RX6 32 yX4_copyFrom ∈ LT := LT_of 379 (by decide +kernel) (by decide +kernel)
theorem tw_380 : Cond.instanceMethod yX4_copyFrom ∈ LT := LT_of 380 (by decide +kernel) (by decide +kernel)
theorem tw_381 : Cond.selects RX4 yX4_copyFrom yX4_copyFrom ∈ LT := LT_of 381 (by decide +kernel) (by decide +kernel)
theorem tw_382 : Cond.code yX4_copyFrom cX4_copyFrom 2 none ∈ LT := LT_of 382 (by decide +kernel) (by decide +kernel)
theorem kvX6_32 : CVd RX6 32 4 mX4_copyFrom 1 := ⟨⟨TX4, 4, rfl⟩, tw_379, tw_380, tw_381, tw_4, tw_382, rfl, ⟨by decide +kernel, by decide +kernel, by decide +kernel⟩⟩
theorem tw_383 : Cond.methodLink RX4 25 arraycopyName ∈ LT := LT_of 383 (by decide +kernel) (by decide +kernel)
theorem tw_385 : Cond.native arraycopyName ∈ LT := LT_of 385 (by decide +kernel) (by decide +kernel)
theorem tw_384 : Cond.static arraycopyName ∈ LT := LT_of 384 (by decide +kernel) (by decide +kernel)
theorem tw_15 : Cond.initialized "java/lang/System" ∈ LT := LT_of 15 (by decide +kernel) (by decide +kernel)
theorem acX4_25 : ACp RX4 25 := ⟨tw_383, tw_385, tw_384, tw_15⟩
theorem tw_386 : Cond.methodLink RX6 36 yX0_copyFrom ∈ LT := LT_of 386 (by decide +kernel) (by decide +kernel)
theorem tw_387 : Cond.instanceMethod yX0_copyFrom ∈ LT := LT_of 387 (by decide +kernel) (by decide +kernel)
theorem tw_388 : Cond.selects RX0 yX0_copyFrom yX0_copyFrom ∈ LT := LT_of 388 (by decide +kernel) (by decide +kernel)
theorem tw_3 : Cond.initialized RX0 ∈ LT := LT_of 3 (by decide +kernel) (by decide +kernel)
theorem tw_389 : Cond.code yX0_copyFrom cX0_copyFrom 2 none ∈ LT := LT_of 389 (by decide +kernel) (by decide +kernel)
theorem kvX6_36 : CVd RX6 36 0 mX0_copyFrom 1 := ⟨⟨TX0, 3, rfl⟩, tw_386, tw_387, tw_388, tw_3, tw_389, rfl, ⟨by decide +kernel, by decide +kernel, by decide +kernel⟩⟩
theorem tw_390 : Cond.methodLink RX0 22 arraycopyName ∈ LT := LT_of 390 (by decide +kernel) (by decide +kernel)
theorem acX0_22 : ACp RX0 22 := ⟨tw_390, tw_385, tw_384, tw_15⟩
theorem tw_391 : Cond.methodLink RX7 82 yX4_push ∈ LT := LT_of 391 (by decide +kernel) (by decide +kernel)
theorem tw_392 : Cond.instanceMethod yX4_push ∈ LT := LT_of 392 (by decide +kernel) (by decide +kernel)
theorem tw_393 : Cond.selects RX4 yX4_push yX4_push ∈ LT := LT_of 393 (by decide +kernel) (by decide +kernel)
theorem tw_394 : Cond.code yX4_push cX4_push 2 none ∈ LT := LT_of 394 (by decide +kernel) (by decide +kernel)
theorem kvX7_82 : CVd RX7 82 4 mX4_push 1 := ⟨⟨TX4, 4, rfl⟩, tw_391, tw_392, tw_393, tw_4, tw_394, rfl, ⟨by decide +kernel, by decide +kernel, by decide +kernel⟩⟩
theorem tw_395 : Cond.methodLink RX7 86 yX7_recode ∈ LT := LT_of 395 (by decide +kernel) (by decide +kernel)
theorem tw_397 : Cond.instanceMethod yX7_recode ∈ LT := LT_of 397 (by decide +kernel) (by decide +kernel)
theorem ts_9 : Cond.selects RX7 yX7_recode yX7_recode ∈ LT := LT_sel 9 (by decide +kernel) (by decide +kernel)
theorem tw_398 : Cond.code yX7_recode cX7_recode 2 none ∈ LT := LT_of 398 (by decide +kernel) (by decide +kernel)
theorem kvX7_86 : CVd RX7 86 6 mX7_recode 1 := ⟨⟨TX7, 6, rfl⟩, tw_395, tw_397, ts_9, tw_1, tw_398, rfl, ⟨by decide +kernel, by decide +kernel, by decide +kernel⟩⟩
theorem tw_399 : Cond.methodLink RX7 200 yX3_divide ∈ LT := LT_of 399 (by decide +kernel) (by decide +kernel)
theorem tw_400 : Cond.instanceMethod yX3_divide ∈ LT := LT_of 400 (by decide +kernel) (by decide +kernel)
theorem tw_401 : Cond.selects RX3 yX3_divide yX3_divide ∈ LT := LT_of 401 (by decide +kernel) (by decide +kernel)
theorem tw_6 : Cond.initialized RX3 ∈ LT := LT_of 6 (by decide +kernel) (by decide +kernel)
theorem tw_402 : Cond.code yX3_divide cX3_divide 5 none ∈ LT := LT_of 402 (by decide +kernel) (by decide +kernel)
theorem kvX7_200 : CVd RX7 200 3 mX3_divide 1 := ⟨⟨TX3, 2, rfl⟩, tw_399, tw_400, tw_401, tw_6, tw_402, rfl, ⟨by decide +kernel, by decide +kernel, by decide +kernel⟩⟩
theorem tw_403 : Cond.methodLink RX3 24 yX3_chooseEnd ∈ LT := LT_of 403 (by decide +kernel) (by decide +kernel)
theorem tw_405 : Cond.instanceMethod yX3_chooseEnd ∈ LT := LT_of 405 (by decide +kernel) (by decide +kernel)
theorem ts_10 : Cond.selects RX3 yX3_chooseEnd yX3_chooseEnd ∈ LT := LT_sel 10 (by decide +kernel) (by decide +kernel)
theorem tw_406 : Cond.code yX3_chooseEnd cX3_chooseEnd 7 none ∈ LT := LT_of 406 (by decide +kernel) (by decide +kernel)
theorem kvX3_24 : CVd RX3 24 3 mX3_chooseEnd 2 := ⟨⟨TX3, 2, rfl⟩, tw_403, tw_405, ts_10, tw_6, tw_406, rfl, ⟨by decide +kernel, by decide +kernel, by decide +kernel⟩⟩
theorem tw_407 : Cond.methodLink RX3 35 yX4_widthBetween ∈ LT := LT_of 407 (by decide +kernel) (by decide +kernel)
theorem tw_408 : Cond.instanceMethod yX4_widthBetween ∈ LT := LT_of 408 (by decide +kernel) (by decide +kernel)
theorem tw_409 : Cond.selects RX4 yX4_widthBetween yX4_widthBetween ∈ LT := LT_of 409 (by decide +kernel) (by decide +kernel)
theorem tw_410 : Cond.code yX4_widthBetween cX4_widthBetween 3 (some .int) ∈ LT := LT_of 410 (by decide +kernel) (by decide +kernel)
theorem kvX3_35 : CVd RX3 35 4 mX4_widthBetween 2 := ⟨⟨TX4, 4, rfl⟩, tw_407, tw_408, tw_409, tw_4, tw_410, rfl, ⟨by decide +kernel, by decide +kernel, by decide +kernel⟩⟩
theorem tw_411 : Cond.methodLink RX3 39 yX5_bestSize ∈ LT := LT_of 411 (by decide +kernel) (by decide +kernel)
theorem tw_412 : Cond.static yX5_bestSize ∈ LT := LT_of 412 (by decide +kernel) (by decide +kernel)
theorem tw_413 : Cond.code yX5_bestSize cX5_bestSize 4 (some .int) ∈ LT := LT_of 413 (by decide +kernel) (by decide +kernel)
theorem ksX3_39 : CSd RX3 39 mX5_bestSize 2 := ⟨tw_411, tw_412, tw_16, tw_413, rfl, ⟨by decide +kernel, by decide +kernel, by decide +kernel⟩⟩
theorem tw_414 : Cond.methodLink RX5 11 yX5_lowBits ∈ LT := LT_of 414 (by decide +kernel) (by decide +kernel)
theorem tw_415 : Cond.static yX5_lowBits ∈ LT := LT_of 415 (by decide +kernel) (by decide +kernel)
theorem tw_416 : Cond.code yX5_lowBits cX5_lowBits 3 (some .int) ∈ LT := LT_of 416 (by decide +kernel) (by decide +kernel)
theorem ksX5_11 : CSd RX5 11 mX5_lowBits 2 := ⟨tw_414, tw_415, tw_16, tw_416, rfl, ⟨by decide +kernel, by decide +kernel, by decide +kernel⟩⟩
theorem tw_417 : Cond.methodLink RX5 15 yX5_highLength ∈ LT := LT_of 417 (by decide +kernel) (by decide +kernel)
theorem ksX5_15 : CSd RX5 15 mX5_highLength 3 := ⟨tw_417, tw_229, tw_16, tw_230, rfl, ⟨by decide +kernel, by decide +kernel, by decide +kernel⟩⟩
theorem tw_418 : Cond.methodLink RX3 31 yX4_addPart ∈ LT := LT_of 418 (by decide +kernel) (by decide +kernel)
theorem tw_419 : Cond.instanceMethod yX4_addPart ∈ LT := LT_of 419 (by decide +kernel) (by decide +kernel)
theorem tw_420 : Cond.selects RX4 yX4_addPart yX4_addPart ∈ LT := LT_of 420 (by decide +kernel) (by decide +kernel)
theorem tw_421 : Cond.code yX4_addPart cX4_addPart 8 none ∈ LT := LT_of 421 (by decide +kernel) (by decide +kernel)
theorem kvX3_31 : CVd RX3 31 4 mX4_addPart 2 := ⟨⟨TX4, 4, rfl⟩, tw_418, tw_419, tw_420, tw_4, tw_421, rfl, ⟨by decide +kernel, by decide +kernel, by decide +kernel⟩⟩
theorem tw_422 : Cond.methodLink RX4 35 yX4_widthBetween ∈ LT := LT_of 422 (by decide +kernel) (by decide +kernel)
theorem kvX4_35 : CVd RX4 35 4 mX4_widthBetween 2 := ⟨⟨TX4, 4, rfl⟩, tw_422, tw_408, tw_409, tw_4, tw_410, rfl, ⟨by decide +kernel, by decide +kernel, by decide +kernel⟩⟩
theorem tw_423 : Cond.methodLink RX4 39 yX5_bestSize ∈ LT := LT_of 423 (by decide +kernel) (by decide +kernel)
theorem ksX4_39 : CSd RX4 39 mX5_bestSize 2 := ⟨tw_423, tw_412, tw_16, tw_413, rfl, ⟨by decide +kernel, by decide +kernel, by decide +kernel⟩⟩
theorem tw_424 : Cond.methodLink RX4 47 yX5_bestKind ∈ LT := LT_of 424 (by decide +kernel) (by decide +kernel)
theorem tw_425 : Cond.static yX5_bestKind ∈ LT := LT_of 425 (by decide +kernel) (by decide +kernel)
theorem tw_426 : Cond.code yX5_bestKind cX5_bestKind 3 (some .int) ∈ LT := LT_of 426 (by decide +kernel) (by decide +kernel)
theorem ksX4_47 : CSd RX4 47 mX5_bestKind 3 := ⟨tw_424, tw_425, tw_16, tw_426, rfl, ⟨by decide +kernel, by decide +kernel, by decide +kernel⟩⟩
theorem tw_427 : Cond.methodLink RX4 51 yX5_lowBits ∈ LT := LT_of 427 (by decide +kernel) (by decide +kernel)
theorem ksX4_51 : CSd RX4 51 mX5_lowBits 2 := ⟨tw_427, tw_415, tw_16, tw_416, rfl, ⟨by decide +kernel, by decide +kernel, by decide +kernel⟩⟩
theorem tw_428 : Cond.methodLink RX7 203 yX0_dropList ∈ LT := LT_of 428 (by decide +kernel) (by decide +kernel)
theorem tw_429 : Cond.instanceMethod yX0_dropList ∈ LT := LT_of 429 (by decide +kernel) (by decide +kernel)
theorem tw_430 : Cond.selects RX0 yX0_dropList yX0_dropList ∈ LT := LT_of 430 (by decide +kernel) (by decide +kernel)
theorem tw_431 : Cond.code yX0_dropList cX0_dropList 2 none ∈ LT := LT_of 431 (by decide +kernel) (by decide +kernel)
theorem kvX7_203 : CVd RX7 203 0 mX0_dropList 1 := ⟨⟨TX0, 3, rfl⟩, tw_428, tw_429, tw_430, tw_3, tw_431, rfl, ⟨by decide +kernel, by decide +kernel, by decide +kernel⟩⟩
theorem tw_432 : Cond.methodLink RX0 28 yX0_dropBetween ∈ LT := LT_of 432 (by decide +kernel) (by decide +kernel)
theorem tw_434 : Cond.instanceMethod yX0_dropBetween ∈ LT := LT_of 434 (by decide +kernel) (by decide +kernel)
theorem ts_11 : Cond.selects RX0 yX0_dropBetween yX0_dropBetween ∈ LT := LT_sel 11 (by decide +kernel) (by decide +kernel)
theorem tw_435 : Cond.code yX0_dropBetween cX0_dropBetween 6 (some .int) ∈ LT := LT_of 435 (by decide +kernel) (by decide +kernel)
theorem kvX0_28 : CVd RX0 28 0 mX0_dropBetween 2 := ⟨⟨TX0, 3, rfl⟩, tw_432, tw_434, ts_11, tw_3, tw_435, rfl, ⟨by decide +kernel, by decide +kernel, by decide +kernel⟩⟩
theorem tw_436 : Cond.methodLink RL 94 yL_appendRange ∈ LT := LT_of 436 (by decide +kernel) (by decide +kernel)
theorem tw_437 : Cond.static yL_appendRange ∈ LT := LT_of 437 (by decide +kernel) (by decide +kernel)
theorem tw_438 : Cond.codeWith yL_appendRange cL_appendRange 7 (some .int) [(0, 14, 17, 13), (0, 14, 21, 15), (0, 14, 25, 17)] ∈ LT := LT_of 438 (by decide +kernel) (by decide +kernel)
theorem ksL_94 : CSw RL 94 mL_appendRange 6 := ⟨tw_436, tw_437, tw_0, tw_438, (fun z => by cases z), ⟨by decide +kernel, by decide +kernel, by decide +kernel⟩⟩
theorem tw_439 : Cond.methodLink RL 19 yX7_appendRange ∈ LT := LT_of 439 (by decide +kernel) (by decide +kernel)
theorem kvL_19 : CVd RL 19 6 mX7_appendRange 4 := ⟨⟨TX7, 6, rfl⟩, tw_439, tw_246, tw_247, tw_1, tw_248, rfl, ⟨by decide +kernel, by decide +kernel, by decide +kernel⟩⟩
theorem tw_440 : Cond.methodLink RL 98 yL_clear ∈ LT := LT_of 440 (by decide +kernel) (by decide +kernel)
theorem tw_441 : Cond.static yL_clear ∈ LT := LT_of 441 (by decide +kernel) (by decide +kernel)
theorem tw_442 : Cond.codeWith yL_clear cL_clear 4 (some .int) [(0, 9, 12, 13)] ∈ LT := LT_of 442 (by decide +kernel) (by decide +kernel)
theorem ksL_98 : CSw RL 98 mL_clear 3 := ⟨tw_440, tw_441, tw_0, tw_442, (fun z => by cases z), ⟨by decide +kernel, by decide +kernel, by decide +kernel⟩⟩
theorem tw_443 : Cond.methodLink RL 23 yX7_clear ∈ LT := LT_of 443 (by decide +kernel) (by decide +kernel)
theorem tw_444 : Cond.instanceMethod yX7_clear ∈ LT := LT_of 444 (by decide +kernel) (by decide +kernel)
theorem tw_445 : Cond.selects RX7 yX7_clear yX7_clear ∈ LT := LT_of 445 (by decide +kernel) (by decide +kernel)
theorem tw_446 : Cond.code yX7_clear cX7_clear 3 (some .int) ∈ LT := LT_of 446 (by decide +kernel) (by decide +kernel)
theorem kvL_23 : CVd RL 23 6 mX7_clear 1 := ⟨⟨TX7, 6, rfl⟩, tw_443, tw_444, tw_445, tw_1, tw_446, rfl, ⟨by decide +kernel, by decide +kernel, by decide +kernel⟩⟩
theorem tw_447 : Cond.methodLink RX7 89 yX7_writeResult ∈ LT := LT_of 447 (by decide +kernel) (by decide +kernel)
theorem tw_449 : Cond.instanceMethod yX7_writeResult ∈ LT := LT_of 449 (by decide +kernel) (by decide +kernel)
theorem ts_12 : Cond.selects RX7 yX7_writeResult yX7_writeResult ∈ LT := LT_sel 12 (by decide +kernel) (by decide +kernel)
theorem tw_450 : Cond.code yX7_writeResult cX7_writeResult 3 (some .int) ∈ LT := LT_of 450 (by decide +kernel) (by decide +kernel)
theorem kvX7_89 : CVd RX7 89 6 mX7_writeResult 2 := ⟨⟨TX7, 6, rfl⟩, tw_447, tw_449, ts_12, tw_1, tw_450, rfl, ⟨by decide +kernel, by decide +kernel, by decide +kernel⟩⟩
theorem tw_451 : Cond.methodLink RX7 206 yX4_replace ∈ LT := LT_of 451 (by decide +kernel) (by decide +kernel)
theorem tw_452 : Cond.instanceMethod yX4_replace ∈ LT := LT_of 452 (by decide +kernel) (by decide +kernel)
theorem tw_453 : Cond.selects RX4 yX4_replace yX4_replace ∈ LT := LT_of 453 (by decide +kernel) (by decide +kernel)
theorem tw_454 : Cond.code yX4_replace cX4_replace 3 none ∈ LT := LT_of 454 (by decide +kernel) (by decide +kernel)
theorem kvX7_206 : CVd RX7 206 4 mX4_replace 2 := ⟨⟨TX4, 4, rfl⟩, tw_451, tw_452, tw_453, tw_4, tw_454, rfl, ⟨by decide +kernel, by decide +kernel, by decide +kernel⟩⟩
theorem tw_455 : Cond.methodLink RL 102 yL_size ∈ LT := LT_of 455 (by decide +kernel) (by decide +kernel)
theorem tw_456 : Cond.static yL_size ∈ LT := LT_of 456 (by decide +kernel) (by decide +kernel)
theorem tw_457 : Cond.codeWith yL_size cL_size 4 (some .int) [(0, 9, 12, 13)] ∈ LT := LT_of 457 (by decide +kernel) (by decide +kernel)
theorem ksL_102 : CSw RL 102 mL_size 3 := ⟨tw_455, tw_456, tw_0, tw_457, (fun z => by cases z), ⟨by decide +kernel, by decide +kernel, by decide +kernel⟩⟩
theorem tw_458 : Cond.methodLink RL 27 yX7_size ∈ LT := LT_of 458 (by decide +kernel) (by decide +kernel)
theorem tw_459 : Cond.instanceMethod yX7_size ∈ LT := LT_of 459 (by decide +kernel) (by decide +kernel)
theorem tw_460 : Cond.selects RX7 yX7_size yX7_size ∈ LT := LT_of 460 (by decide +kernel) (by decide +kernel)
theorem tw_461 : Cond.code yX7_size cX7_size 2 (some .int) ∈ LT := LT_of 461 (by decide +kernel) (by decide +kernel)
theorem kvL_27 : CVd RL 27 6 mX7_size 1 := ⟨⟨TX7, 6, rfl⟩, tw_458, tw_459, tw_460, tw_1, tw_461, rfl, ⟨by decide +kernel, by decide +kernel, by decide +kernel⟩⟩
theorem tw_462 : Cond.methodLink RL 105 yL_document ∈ LT := LT_of 462 (by decide +kernel) (by decide +kernel)
theorem tw_463 : Cond.static yL_document ∈ LT := LT_of 463 (by decide +kernel) (by decide +kernel)
theorem tw_464 : Cond.codeWith yL_document cL_document 5 (some .int) [(0, 10, 13, 13)] ∈ LT := LT_of 464 (by decide +kernel) (by decide +kernel)
theorem ksL_105 : CSw RL 105 mL_document 4 := ⟨tw_462, tw_463, tw_0, tw_464, (fun z => by cases z), ⟨by decide +kernel, by decide +kernel, by decide +kernel⟩⟩
theorem tw_465 : Cond.methodLink RL 30 yX7_document ∈ LT := LT_of 465 (by decide +kernel) (by decide +kernel)
theorem tw_466 : Cond.instanceMethod yX7_document ∈ LT := LT_of 466 (by decide +kernel) (by decide +kernel)
theorem tw_467 : Cond.selects RX7 yX7_document yX7_document ∈ LT := LT_of 467 (by decide +kernel) (by decide +kernel)
theorem tw_468 : Cond.code yX7_document cX7_document 4 (some .int) ∈ LT := LT_of 468 (by decide +kernel) (by decide +kernel)
theorem kvL_30 : CVd RL 30 6 mX7_document 2 := ⟨⟨TX7, 6, rfl⟩, tw_465, tw_466, tw_467, tw_1, tw_468, rfl, ⟨by decide +kernel, by decide +kernel, by decide +kernel⟩⟩
theorem tw_469 : Cond.methodLink RX7 97 yX4_documentAt ∈ LT := LT_of 469 (by decide +kernel) (by decide +kernel)
theorem kvX7_97 : CVd RX7 97 4 mX4_documentAt 1 := ⟨⟨TX4, 4, rfl⟩, tw_469, tw_217, tw_218, tw_4, tw_219, rfl, ⟨by decide +kernel, by decide +kernel, by decide +kernel⟩⟩
theorem tw_470 : Cond.methodLink RL 108 yL_rank ∈ LT := LT_of 470 (by decide +kernel) (by decide +kernel)
theorem tw_471 : Cond.static yL_rank ∈ LT := LT_of 471 (by decide +kernel) (by decide +kernel)
theorem tw_472 : Cond.codeWith yL_rank cL_rank 5 (some .int) [(0, 10, 13, 13), (0, 10, 17, 15)] ∈ LT := LT_of 472 (by decide +kernel) (by decide +kernel)
theorem ksL_108 : CSw RL 108 mL_rank 4 := ⟨tw_470, tw_471, tw_0, tw_472, (fun z => by cases z), ⟨by decide +kernel, by decide +kernel, by decide +kernel⟩⟩
theorem tw_473 : Cond.methodLink RL 33 yX7_rank ∈ LT := LT_of 473 (by decide +kernel) (by decide +kernel)
theorem tw_474 : Cond.instanceMethod yX7_rank ∈ LT := LT_of 474 (by decide +kernel) (by decide +kernel)
theorem tw_475 : Cond.selects RX7 yX7_rank yX7_rank ∈ LT := LT_of 475 (by decide +kernel) (by decide +kernel)
theorem tw_476 : Cond.code yX7_rank cX7_rank 4 (some .int) ∈ LT := LT_of 476 (by decide +kernel) (by decide +kernel)
theorem kvL_33 : CVd RL 33 6 mX7_rank 2 := ⟨⟨TX7, 6, rfl⟩, tw_473, tw_474, tw_475, tw_1, tw_476, rfl, ⟨by decide +kernel, by decide +kernel, by decide +kernel⟩⟩
theorem tw_477 : Cond.methodLink RX7 104 yX4_countBelow ∈ LT := LT_of 477 (by decide +kernel) (by decide +kernel)
theorem tw_478 : Cond.instanceMethod yX4_countBelow ∈ LT := LT_of 478 (by decide +kernel) (by decide +kernel)
theorem tw_479 : Cond.selects RX4 yX4_countBelow yX4_countBelow ∈ LT := LT_of 479 (by decide +kernel) (by decide +kernel)
theorem tw_480 : Cond.code yX4_countBelow cX4_countBelow 3 (some .int) ∈ LT := LT_of 480 (by decide +kernel) (by decide +kernel)
theorem kvX7_104 : CVd RX7 104 4 mX4_countBelow 1 := ⟨⟨TX4, 4, rfl⟩, tw_477, tw_478, tw_479, tw_4, tw_480, rfl, ⟨by decide +kernel, by decide +kernel, by decide +kernel⟩⟩
theorem tw_481 : Cond.methodLink RL 111 yL_partitions ∈ LT := LT_of 481 (by decide +kernel) (by decide +kernel)
theorem tw_482 : Cond.static yL_partitions ∈ LT := LT_of 482 (by decide +kernel) (by decide +kernel)
theorem tw_483 : Cond.codeWith yL_partitions cL_partitions 4 (some .int) [(0, 9, 12, 13)] ∈ LT := LT_of 483 (by decide +kernel) (by decide +kernel)
theorem ksL_111 : CSw RL 111 mL_partitions 3 := ⟨tw_481, tw_482, tw_0, tw_483, (fun z => by cases z), ⟨by decide +kernel, by decide +kernel, by decide +kernel⟩⟩
theorem tw_484 : Cond.methodLink RL 36 yX7_partitions ∈ LT := LT_of 484 (by decide +kernel) (by decide +kernel)
theorem tw_485 : Cond.instanceMethod yX7_partitions ∈ LT := LT_of 485 (by decide +kernel) (by decide +kernel)
theorem tw_486 : Cond.selects RX7 yX7_partitions yX7_partitions ∈ LT := LT_of 486 (by decide +kernel) (by decide +kernel)
theorem tw_487 : Cond.code yX7_partitions cX7_partitions 2 (some .int) ∈ LT := LT_of 487 (by decide +kernel) (by decide +kernel)
theorem kvL_36 : CVd RL 36 6 mX7_partitions 1 := ⟨⟨TX7, 6, rfl⟩, tw_484, tw_485, tw_486, tw_1, tw_487, rfl, ⟨by decide +kernel, by decide +kernel, by decide +kernel⟩⟩
theorem tw_488 : Cond.methodLink RL 114 yL_partition ∈ LT := LT_of 488 (by decide +kernel) (by decide +kernel)
theorem tw_489 : Cond.static yL_partition ∈ LT := LT_of 489 (by decide +kernel) (by decide +kernel)
theorem tw_490 : Cond.codeWith yL_partition cL_partition 6 (some .int) [(0, 12, 15, 13), (0, 12, 19, 15)] ∈ LT := LT_of 490 (by decide +kernel) (by decide +kernel)
theorem ksL_114 : CSw RL 114 mL_partition 5 := ⟨tw_488, tw_489, tw_0, tw_490, (fun z => by cases z), ⟨by decide +kernel, by decide +kernel, by decide +kernel⟩⟩
theorem tw_491 : Cond.methodLink RL 39 yX7_partition ∈ LT := LT_of 491 (by decide +kernel) (by decide +kernel)
theorem tw_492 : Cond.instanceMethod yX7_partition ∈ LT := LT_of 492 (by decide +kernel) (by decide +kernel)
theorem tw_493 : Cond.selects RX7 yX7_partition yX7_partition ∈ LT := LT_of 493 (by decide +kernel) (by decide +kernel)
theorem tw_494 : Cond.code yX7_partition cX7_partition 5 (some .int) ∈ LT := LT_of 494 (by decide +kernel) (by decide +kernel)
theorem kvL_39 : CVd RL 39 6 mX7_partition 3 := ⟨⟨TX7, 6, rfl⟩, tw_491, tw_492, tw_493, tw_1, tw_494, rfl, ⟨by decide +kernel, by decide +kernel, by decide +kernel⟩⟩
theorem tw_495 : Cond.methodLink RX7 110 yX4_factOf ∈ LT := LT_of 495 (by decide +kernel) (by decide +kernel)
theorem kvX7_110 : CVd RX7 110 4 mX4_factOf 2 := ⟨⟨TX4, 4, rfl⟩, tw_495, tw_196, tw_197, tw_4, tw_198, rfl, ⟨by decide +kernel, by decide +kernel, by decide +kernel⟩⟩
theorem tw_496 : Cond.methodLink RL 118 yL_codeLength ∈ LT := LT_of 496 (by decide +kernel) (by decide +kernel)
theorem tw_497 : Cond.static yL_codeLength ∈ LT := LT_of 497 (by decide +kernel) (by decide +kernel)
theorem tw_498 : Cond.codeWith yL_codeLength cL_codeLength 4 (some .int) [(0, 9, 12, 13)] ∈ LT := LT_of 498 (by decide +kernel) (by decide +kernel)
theorem ksL_118 : CSw RL 118 mL_codeLength 3 := ⟨tw_496, tw_497, tw_0, tw_498, (fun z => by cases z), ⟨by decide +kernel, by decide +kernel, by decide +kernel⟩⟩
theorem tw_499 : Cond.methodLink RL 43 yX7_codeLength ∈ LT := LT_of 499 (by decide +kernel) (by decide +kernel)
theorem tw_500 : Cond.instanceMethod yX7_codeLength ∈ LT := LT_of 500 (by decide +kernel) (by decide +kernel)
theorem tw_501 : Cond.selects RX7 yX7_codeLength yX7_codeLength ∈ LT := LT_of 501 (by decide +kernel) (by decide +kernel)
theorem tw_502 : Cond.code yX7_codeLength cX7_codeLength 2 (some .int) ∈ LT := LT_of 502 (by decide +kernel) (by decide +kernel)
theorem kvL_43 : CVd RL 43 6 mX7_codeLength 1 := ⟨⟨TX7, 6, rfl⟩, tw_499, tw_500, tw_501, tw_1, tw_502, rfl, ⟨by decide +kernel, by decide +kernel, by decide +kernel⟩⟩
theorem tw_503 : Cond.methodLink RX7 113 yX4_codeSize ∈ LT := LT_of 503 (by decide +kernel) (by decide +kernel)
theorem tw_504 : Cond.instanceMethod yX4_codeSize ∈ LT := LT_of 504 (by decide +kernel) (by decide +kernel)
theorem tw_505 : Cond.selects RX4 yX4_codeSize yX4_codeSize ∈ LT := LT_of 505 (by decide +kernel) (by decide +kernel)
theorem tw_506 : Cond.code yX4_codeSize cX4_codeSize 3 (some .int) ∈ LT := LT_of 506 (by decide +kernel) (by decide +kernel)
theorem kvX7_113 : CVd RX7 113 4 mX4_codeSize 0 := ⟨⟨TX4, 4, rfl⟩, tw_503, tw_504, tw_505, tw_4, tw_506, rfl, ⟨by decide +kernel, by decide +kernel, by decide +kernel⟩⟩
theorem tw_507 : Cond.methodLink RL 121 yL_codeBit ∈ LT := LT_of 507 (by decide +kernel) (by decide +kernel)
theorem tw_508 : Cond.static yL_codeBit ∈ LT := LT_of 508 (by decide +kernel) (by decide +kernel)
theorem tw_509 : Cond.codeWith yL_codeBit cL_codeBit 5 (some .int) [(0, 10, 13, 13)] ∈ LT := LT_of 509 (by decide +kernel) (by decide +kernel)
theorem ksL_121 : CSw RL 121 mL_codeBit 4 := ⟨tw_507, tw_508, tw_0, tw_509, (fun z => by cases z), ⟨by decide +kernel, by decide +kernel, by decide +kernel⟩⟩
theorem tw_510 : Cond.methodLink RL 46 yX7_codeBit ∈ LT := LT_of 510 (by decide +kernel) (by decide +kernel)
theorem tw_511 : Cond.instanceMethod yX7_codeBit ∈ LT := LT_of 511 (by decide +kernel) (by decide +kernel)
theorem tw_512 : Cond.selects RX7 yX7_codeBit yX7_codeBit ∈ LT := LT_of 512 (by decide +kernel) (by decide +kernel)
theorem tw_513 : Cond.code yX7_codeBit cX7_codeBit 4 (some .int) ∈ LT := LT_of 513 (by decide +kernel) (by decide +kernel)
theorem kvL_46 : CVd RL 46 6 mX7_codeBit 2 := ⟨⟨TX7, 6, rfl⟩, tw_510, tw_511, tw_512, tw_1, tw_513, rfl, ⟨by decide +kernel, by decide +kernel, by decide +kernel⟩⟩
theorem tw_514 : Cond.methodLink RX7 120 yX1_bitAt ∈ LT := LT_of 514 (by decide +kernel) (by decide +kernel)
theorem tw_515 : Cond.instanceMethod yX1_bitAt ∈ LT := LT_of 515 (by decide +kernel) (by decide +kernel)
theorem tw_516 : Cond.selects RX1 yX1_bitAt yX1_bitAt ∈ LT := LT_of 516 (by decide +kernel) (by decide +kernel)
theorem tw_517 : Cond.code yX1_bitAt cX1_bitAt 2 (some .int) ∈ LT := LT_of 517 (by decide +kernel) (by decide +kernel)
theorem kvX7_120 : CVd RX7 120 1 mX1_bitAt 1 := ⟨⟨TX1, 2, rfl⟩, tw_514, tw_515, tw_516, tw_7, tw_517, rfl, ⟨by decide +kernel, by decide +kernel, by decide +kernel⟩⟩
theorem tw_518 : Cond.methodLink RL 124 yL_fixedLength ∈ LT := LT_of 518 (by decide +kernel) (by decide +kernel)
theorem tw_519 : Cond.static yL_fixedLength ∈ LT := LT_of 519 (by decide +kernel) (by decide +kernel)
theorem tw_520 : Cond.codeWith yL_fixedLength cL_fixedLength 5 (some .int) [(0, 10, 13, 13), (0, 10, 17, 15)] ∈ LT := LT_of 520 (by decide +kernel) (by decide +kernel)
theorem ksL_124 : CSw RL 124 mL_fixedLength 4 := ⟨tw_518, tw_519, tw_0, tw_520, (fun z => by cases z), ⟨by decide +kernel, by decide +kernel, by decide +kernel⟩⟩
theorem tw_521 : Cond.methodLink RL 49 yX7_fixedLength ∈ LT := LT_of 521 (by decide +kernel) (by decide +kernel)
theorem tw_522 : Cond.instanceMethod yX7_fixedLength ∈ LT := LT_of 522 (by decide +kernel) (by decide +kernel)
theorem tw_523 : Cond.selects RX7 yX7_fixedLength yX7_fixedLength ∈ LT := LT_of 523 (by decide +kernel) (by decide +kernel)
theorem tw_524 : Cond.code yX7_fixedLength cX7_fixedLength 4 (some .int) ∈ LT := LT_of 524 (by decide +kernel) (by decide +kernel)
theorem kvL_49 : CVd RL 49 6 mX7_fixedLength 2 := ⟨⟨TX7, 6, rfl⟩, tw_521, tw_522, tw_523, tw_1, tw_524, rfl, ⟨by decide +kernel, by decide +kernel, by decide +kernel⟩⟩
theorem tw_525 : Cond.methodLink RX7 123 yX4_sizeInParts ∈ LT := LT_of 525 (by decide +kernel) (by decide +kernel)
theorem tw_526 : Cond.instanceMethod yX4_sizeInParts ∈ LT := LT_of 526 (by decide +kernel) (by decide +kernel)
theorem tw_527 : Cond.selects RX4 yX4_sizeInParts yX4_sizeInParts ∈ LT := LT_of 527 (by decide +kernel) (by decide +kernel)
theorem tw_528 : Cond.code yX4_sizeInParts cX4_sizeInParts 6 (some .int) ∈ LT := LT_of 528 (by decide +kernel) (by decide +kernel)
theorem kvX7_123 : CVd RX7 123 4 mX4_sizeInParts 1 := ⟨⟨TX4, 4, rfl⟩, tw_525, tw_526, tw_527, tw_4, tw_528, rfl, ⟨by decide +kernel, by decide +kernel, by decide +kernel⟩⟩
theorem tw_529 : Cond.methodLink RL 127 yL_bitsPerDocument ∈ LT := LT_of 529 (by decide +kernel) (by decide +kernel)
theorem tw_530 : Cond.static yL_bitsPerDocument ∈ LT := LT_of 530 (by decide +kernel) (by decide +kernel)
theorem tw_531 : Cond.codeWith yL_bitsPerDocument cL_bitsPerDocument 4 (some .int) [(0, 8, 11, 13)] ∈ LT := LT_of 531 (by decide +kernel) (by decide +kernel)
theorem ksL_127 : CSw RL 127 mL_bitsPerDocument 3 := ⟨tw_529, tw_530, tw_0, tw_531, (fun z => by cases z), ⟨by decide +kernel, by decide +kernel, by decide +kernel⟩⟩
theorem tw_532 : Cond.methodLink RL 52 yX7_bitsPerDocument ∈ LT := LT_of 532 (by decide +kernel) (by decide +kernel)
theorem tw_533 : Cond.instanceMethod yX7_bitsPerDocument ∈ LT := LT_of 533 (by decide +kernel) (by decide +kernel)
theorem tw_534 : Cond.selects RX7 yX7_bitsPerDocument yX7_bitsPerDocument ∈ LT := LT_of 534 (by decide +kernel) (by decide +kernel)
theorem tw_535 : Cond.code yX7_bitsPerDocument cX7_bitsPerDocument 3 (some .double) ∈ LT := LT_of 535 (by decide +kernel) (by decide +kernel)
theorem kvL_52 : CVd RL 52 6 mX7_bitsPerDocument 1 := ⟨⟨TX7, 6, rfl⟩, tw_532, tw_533, tw_534, tw_1, tw_535, rfl, ⟨by decide +kernel, by decide +kernel, by decide +kernel⟩⟩
theorem tw_536 : Cond.methodLink RL 131 yL_nextAtLeast ∈ LT := LT_of 536 (by decide +kernel) (by decide +kernel)
theorem tw_537 : Cond.static yL_nextAtLeast ∈ LT := LT_of 537 (by decide +kernel) (by decide +kernel)
theorem tw_538 : Cond.codeWith yL_nextAtLeast cL_nextAtLeast 5 (some .int) [(0, 10, 13, 13), (0, 10, 17, 15)] ∈ LT := LT_of 538 (by decide +kernel) (by decide +kernel)
theorem ksL_131 : CSw RL 131 mL_nextAtLeast 4 := ⟨tw_536, tw_537, tw_0, tw_538, (fun z => by cases z), ⟨by decide +kernel, by decide +kernel, by decide +kernel⟩⟩
theorem tw_539 : Cond.methodLink RL 56 yX7_nextAtLeast ∈ LT := LT_of 539 (by decide +kernel) (by decide +kernel)
theorem tw_540 : Cond.instanceMethod yX7_nextAtLeast ∈ LT := LT_of 540 (by decide +kernel) (by decide +kernel)
theorem tw_541 : Cond.selects RX7 yX7_nextAtLeast yX7_nextAtLeast ∈ LT := LT_of 541 (by decide +kernel) (by decide +kernel)
theorem tw_542 : Cond.code yX7_nextAtLeast cX7_nextAtLeast 3 (some .int) ∈ LT := LT_of 542 (by decide +kernel) (by decide +kernel)
theorem kvL_56 : CVd RL 56 6 mX7_nextAtLeast 2 := ⟨⟨TX7, 6, rfl⟩, tw_539, tw_540, tw_541, tw_1, tw_542, rfl, ⟨by decide +kernel, by decide +kernel, by decide +kernel⟩⟩
theorem tw_543 : Cond.methodLink RX7 129 yX6_query ∈ LT := LT_of 543 (by decide +kernel) (by decide +kernel)
theorem tw_544 : Cond.instanceMethod yX6_query ∈ LT := LT_of 544 (by decide +kernel) (by decide +kernel)
theorem tw_545 : Cond.selects RX6 yX6_query yX6_query ∈ LT := LT_of 545 (by decide +kernel) (by decide +kernel)
theorem tw_546 : Cond.code yX6_query cX6_query 6 (some .int) ∈ LT := LT_of 546 (by decide +kernel) (by decide +kernel)
theorem kvX7_129 : CVd RX7 129 5 mX6_query 2 := ⟨⟨TX6, 4, rfl⟩, tw_543, tw_544, tw_545, tw_2, tw_546, rfl, ⟨by decide +kernel, by decide +kernel, by decide +kernel⟩⟩
theorem tw_547 : Cond.methodLink RX6 42 yX4_factOf ∈ LT := LT_of 547 (by decide +kernel) (by decide +kernel)
theorem kvX6_42 : CVd RX6 42 4 mX4_factOf 2 := ⟨⟨TX4, 4, rfl⟩, tw_547, tw_196, tw_197, tw_4, tw_198, rfl, ⟨by decide +kernel, by decide +kernel, by decide +kernel⟩⟩
theorem tw_548 : Cond.methodLink RX6 46 yX6_queryInside ∈ LT := LT_of 548 (by decide +kernel) (by decide +kernel)
theorem tw_550 : Cond.instanceMethod yX6_queryInside ∈ LT := LT_of 550 (by decide +kernel) (by decide +kernel)
theorem ts_13 : Cond.selects RX6 yX6_queryInside yX6_queryInside ∈ LT := LT_sel 13 (by decide +kernel) (by decide +kernel)
theorem tw_551 : Cond.code yX6_queryInside cX6_queryInside 6 (some .int) ∈ LT := LT_of 551 (by decide +kernel) (by decide +kernel)
theorem kvX6_46 : CVd RX6 46 5 mX6_queryInside 3 := ⟨⟨TX6, 4, rfl⟩, tw_548, tw_550, ts_13, tw_2, tw_551, rfl, ⟨by decide +kernel, by decide +kernel, by decide +kernel⟩⟩
theorem tw_552 : Cond.methodLink RX6 50 yX4_countBelow ∈ LT := LT_of 552 (by decide +kernel) (by decide +kernel)
theorem kvX6_50 : CVd RX6 50 4 mX4_countBelow 1 := ⟨⟨TX4, 4, rfl⟩, tw_552, tw_478, tw_479, tw_4, tw_480, rfl, ⟨by decide +kernel, by decide +kernel, by decide +kernel⟩⟩
theorem tw_553 : Cond.methodLink RX6 54 yX0_use ∈ LT := LT_of 553 (by decide +kernel) (by decide +kernel)
theorem tw_554 : Cond.instanceMethod yX0_use ∈ LT := LT_of 554 (by decide +kernel) (by decide +kernel)
theorem tw_555 : Cond.selects RX0 yX0_use yX0_use ∈ LT := LT_of 555 (by decide +kernel) (by decide +kernel)
theorem tw_556 : Cond.code yX0_use cX0_use 3 (some .boolean) ∈ LT := LT_of 556 (by decide +kernel) (by decide +kernel)
theorem kvX6_54 : CVd RX6 54 0 mX0_use 1 := ⟨⟨TX0, 3, rfl⟩, tw_553, tw_554, tw_555, tw_3, tw_556, rfl, ⟨by decide +kernel, by decide +kernel, by decide +kernel⟩⟩
theorem tw_557 : Cond.methodLink RX0 32 yX0_shrinkTo ∈ LT := LT_of 557 (by decide +kernel) (by decide +kernel)
theorem tw_559 : Cond.instanceMethod yX0_shrinkTo ∈ LT := LT_of 559 (by decide +kernel) (by decide +kernel)
theorem ts_14 : Cond.selects RX0 yX0_shrinkTo yX0_shrinkTo ∈ LT := LT_sel 14 (by decide +kernel) (by decide +kernel)
theorem tw_560 : Cond.code yX0_shrinkTo cX0_shrinkTo 3 none ∈ LT := LT_of 560 (by decide +kernel) (by decide +kernel)
theorem kvX0_32 : CVd RX0 32 0 mX0_shrinkTo 1 := ⟨⟨TX0, 3, rfl⟩, tw_557, tw_559, ts_14, tw_3, tw_560, rfl, ⟨by decide +kernel, by decide +kernel, by decide +kernel⟩⟩
theorem tw_561 : Cond.methodLink RX6 58 yX4_readsInside ∈ LT := LT_of 561 (by decide +kernel) (by decide +kernel)
theorem tw_562 : Cond.instanceMethod yX4_readsInside ∈ LT := LT_of 562 (by decide +kernel) (by decide +kernel)
theorem tw_563 : Cond.selects RX4 yX4_readsInside yX4_readsInside ∈ LT := LT_of 563 (by decide +kernel) (by decide +kernel)
theorem tw_564 : Cond.code yX4_readsInside cX4_readsInside 8 (some .int) ∈ LT := LT_of 564 (by decide +kernel) (by decide +kernel)
theorem kvX6_58 : CVd RX6 58 4 mX4_readsInside 3 := ⟨⟨TX4, 4, rfl⟩, tw_561, tw_562, tw_563, tw_4, tw_564, rfl, ⟨by decide +kernel, by decide +kernel, by decide +kernel⟩⟩
theorem tw_565 : Cond.methodLink RX4 54 yX4_countBelow ∈ LT := LT_of 565 (by decide +kernel) (by decide +kernel)
theorem kvX4_54 : CVd RX4 54 4 mX4_countBelow 1 := ⟨⟨TX4, 4, rfl⟩, tw_565, tw_478, tw_479, tw_4, tw_480, rfl, ⟨by decide +kernel, by decide +kernel, by decide +kernel⟩⟩
theorem tw_566 : Cond.methodLink RX6 61 yX4_documentAt ∈ LT := LT_of 566 (by decide +kernel) (by decide +kernel)
theorem kvX6_61 : CVd RX6 61 4 mX4_documentAt 1 := ⟨⟨TX4, 4, rfl⟩, tw_566, tw_217, tw_218, tw_4, tw_219, rfl, ⟨by decide +kernel, by decide +kernel, by decide +kernel⟩⟩
theorem tw_567 : Cond.methodLink RL 134 yL_countIntersection ∈ LT := LT_of 567 (by decide +kernel) (by decide +kernel)
theorem tw_568 : Cond.static yL_countIntersection ∈ LT := LT_of 568 (by decide +kernel) (by decide +kernel)
theorem tw_569 : Cond.codeWith yL_countIntersection cL_countIntersection 4 (some .int) [(0, 9, 12, 15)] ∈ LT := LT_of 569 (by decide +kernel) (by decide +kernel)
theorem ksL_134 : CSw RL 134 mL_countIntersection 3 := ⟨tw_567, tw_568, tw_0, tw_569, (fun z => by cases z), ⟨by decide +kernel, by decide +kernel, by decide +kernel⟩⟩
theorem tw_570 : Cond.methodLink RL 59 yX7_countIntersection ∈ LT := LT_of 570 (by decide +kernel) (by decide +kernel)
theorem tw_571 : Cond.instanceMethod yX7_countIntersection ∈ LT := LT_of 571 (by decide +kernel) (by decide +kernel)
theorem tw_572 : Cond.selects RX7 yX7_countIntersection yX7_countIntersection ∈ LT := LT_of 572 (by decide +kernel) (by decide +kernel)
theorem tw_573 : Cond.code yX7_countIntersection cX7_countIntersection 2 (some .int) ∈ LT := LT_of 573 (by decide +kernel) (by decide +kernel)
theorem kvL_59 : CVd RL 59 6 mX7_countIntersection 1 := ⟨⟨TX7, 6, rfl⟩, tw_570, tw_571, tw_572, tw_1, tw_573, rfl, ⟨by decide +kernel, by decide +kernel, by decide +kernel⟩⟩
theorem tw_574 : Cond.methodLink RX7 132 yX7_requireSet ∈ LT := LT_of 574 (by decide +kernel) (by decide +kernel)
theorem tw_575 : Cond.static yX7_requireSet ∈ LT := LT_of 575 (by decide +kernel) (by decide +kernel)
theorem tw_576 : Cond.code yX7_requireSet cX7_requireSet 1 none ∈ LT := LT_of 576 (by decide +kernel) (by decide +kernel)
theorem ksX7_132 : CSd RX7 132 mX7_requireSet 1 := ⟨tw_574, tw_575, tw_1, tw_576, rfl, ⟨by decide +kernel, by decide +kernel, by decide +kernel⟩⟩
theorem tw_577 : Cond.methodLink RX7 135 yX7_findIntersection ∈ LT := LT_of 577 (by decide +kernel) (by decide +kernel)
theorem tw_579 : Cond.instanceMethod yX7_findIntersection ∈ LT := LT_of 579 (by decide +kernel) (by decide +kernel)
theorem ts_15 : Cond.selects RX7 yX7_findIntersection yX7_findIntersection ∈ LT := LT_sel 15 (by decide +kernel) (by decide +kernel)
theorem tw_580 : Cond.code yX7_findIntersection cX7_findIntersection 8 (some .int) ∈ LT := LT_of 580 (by decide +kernel) (by decide +kernel)
theorem kvX7_135 : CVd RX7 135 6 mX7_findIntersection 1 := ⟨⟨TX7, 6, rfl⟩, tw_577, tw_579, ts_15, tw_1, tw_580, rfl, ⟨by decide +kernel, by decide +kernel, by decide +kernel⟩⟩
theorem tw_581 : Cond.methodLink RX7 210 yX7_orderLists ∈ LT := LT_of 581 (by decide +kernel) (by decide +kernel)
theorem tw_583 : Cond.instanceMethod yX7_orderLists ∈ LT := LT_of 583 (by decide +kernel) (by decide +kernel)
theorem ts_16 : Cond.selects RX7 yX7_orderLists yX7_orderLists ∈ LT := LT_sel 16 (by decide +kernel) (by decide +kernel)
theorem tw_584 : Cond.code yX7_orderLists cX7_orderLists 5 (some .int) ∈ LT := LT_of 584 (by decide +kernel) (by decide +kernel)
theorem kvX7_210 : CVd RX7 210 6 mX7_orderLists 1 := ⟨⟨TX7, 6, rfl⟩, tw_581, tw_583, ts_16, tw_1, tw_584, rfl, ⟨by decide +kernel, by decide +kernel, by decide +kernel⟩⟩
theorem tw_585 : Cond.methodLink RX7 213 yX7_askOthers ∈ LT := LT_of 585 (by decide +kernel) (by decide +kernel)
theorem tw_587 : Cond.instanceMethod yX7_askOthers ∈ LT := LT_of 587 (by decide +kernel) (by decide +kernel)
theorem ts_17 : Cond.selects RX7 yX7_askOthers yX7_askOthers ∈ LT := LT_sel 17 (by decide +kernel) (by decide +kernel)
theorem tw_588 : Cond.code yX7_askOthers cX7_askOthers 5 (some .int) ∈ LT := LT_of 588 (by decide +kernel) (by decide +kernel)
theorem kvX7_213 : CVd RX7 213 6 mX7_askOthers 2 := ⟨⟨TX7, 6, rfl⟩, tw_585, tw_587, ts_17, tw_1, tw_588, rfl, ⟨by decide +kernel, by decide +kernel, by decide +kernel⟩⟩
theorem tw_589 : Cond.methodLink RL 137 yL_intersect ∈ LT := LT_of 589 (by decide +kernel) (by decide +kernel)
theorem tw_590 : Cond.static yL_intersect ∈ LT := LT_of 590 (by decide +kernel) (by decide +kernel)
theorem tw_591 : Cond.codeWith yL_intersect cL_intersect 5 (some .int) [(0, 10, 13, 15), (0, 10, 17, 13)] ∈ LT := LT_of 591 (by decide +kernel) (by decide +kernel)
theorem ksL_137 : CSw RL 137 mL_intersect 4 := ⟨tw_589, tw_590, tw_0, tw_591, (fun z => by cases z), ⟨by decide +kernel, by decide +kernel, by decide +kernel⟩⟩
theorem tw_592 : Cond.methodLink RL 62 yX7_intersect ∈ LT := LT_of 592 (by decide +kernel) (by decide +kernel)
theorem tw_593 : Cond.instanceMethod yX7_intersect ∈ LT := LT_of 593 (by decide +kernel) (by decide +kernel)
theorem tw_594 : Cond.selects RX7 yX7_intersect yX7_intersect ∈ LT := LT_of 594 (by decide +kernel) (by decide +kernel)
theorem tw_595 : Cond.code yX7_intersect cX7_intersect 3 (some .int) ∈ LT := LT_of 595 (by decide +kernel) (by decide +kernel)
theorem kvL_62 : CVd RL 62 6 mX7_intersect 2 := ⟨⟨TX7, 6, rfl⟩, tw_592, tw_593, tw_594, tw_1, tw_595, rfl, ⟨by decide +kernel, by decide +kernel, by decide +kernel⟩⟩
theorem tw_596 : Cond.methodLink RL 140 yL_unite ∈ LT := LT_of 596 (by decide +kernel) (by decide +kernel)
theorem tw_597 : Cond.static yL_unite ∈ LT := LT_of 597 (by decide +kernel) (by decide +kernel)
theorem tw_598 : Cond.codeWith yL_unite cL_unite 6 (some .int) [(0, 12, 15, 13), (0, 12, 19, 17)] ∈ LT := LT_of 598 (by decide +kernel) (by decide +kernel)
theorem ksL_140 : CSw RL 140 mL_unite 5 := ⟨tw_596, tw_597, tw_0, tw_598, (fun z => by cases z), ⟨by decide +kernel, by decide +kernel, by decide +kernel⟩⟩
theorem tw_599 : Cond.methodLink RL 65 yX7_unite ∈ LT := LT_of 599 (by decide +kernel) (by decide +kernel)
theorem tw_600 : Cond.instanceMethod yX7_unite ∈ LT := LT_of 600 (by decide +kernel) (by decide +kernel)
theorem tw_601 : Cond.selects RX7 yX7_unite yX7_unite ∈ LT := LT_of 601 (by decide +kernel) (by decide +kernel)
theorem tw_602 : Cond.code yX7_unite cX7_unite 5 (some .int) ∈ LT := LT_of 602 (by decide +kernel) (by decide +kernel)
theorem kvL_65 : CVd RL 65 6 mX7_unite 3 := ⟨⟨TX7, 6, rfl⟩, tw_599, tw_600, tw_601, tw_1, tw_602, rfl, ⟨by decide +kernel, by decide +kernel, by decide +kernel⟩⟩
theorem tw_603 : Cond.methodLink RX7 138 yX7_mergeIntoResult ∈ LT := LT_of 603 (by decide +kernel) (by decide +kernel)
theorem tw_605 : Cond.instanceMethod yX7_mergeIntoResult ∈ LT := LT_of 605 (by decide +kernel) (by decide +kernel)
theorem ts_18 : Cond.selects RX7 yX7_mergeIntoResult yX7_mergeIntoResult ∈ LT := LT_sel 18 (by decide +kernel) (by decide +kernel)
theorem tw_606 : Cond.code yX7_mergeIntoResult cX7_mergeIntoResult 8 (some .int) ∈ LT := LT_of 606 (by decide +kernel) (by decide +kernel)
theorem kvX7_138 : CVd RX7 138 6 mX7_mergeIntoResult 2 := ⟨⟨TX7, 6, rfl⟩, tw_603, tw_605, ts_18, tw_1, tw_606, rfl, ⟨by decide +kernel, by decide +kernel, by decide +kernel⟩⟩
theorem tw_608 : Cond.methodLink RL 143 yL_subtract ∈ LT := LT_of 608 (by decide +kernel) (by decide +kernel)
theorem tw_609 : Cond.static yL_subtract ∈ LT := LT_of 609 (by decide +kernel) (by decide +kernel)
theorem tw_610 : Cond.codeWith yL_subtract cL_subtract 6 (some .int) [(0, 12, 15, 13)] ∈ LT := LT_of 610 (by decide +kernel) (by decide +kernel)
theorem ksL_143 : CSw RL 143 mL_subtract 5 := ⟨tw_608, tw_609, tw_0, tw_610, (fun z => by cases z), ⟨by decide +kernel, by decide +kernel, by decide +kernel⟩⟩
theorem tw_611 : Cond.methodLink RL 68 yX7_subtract ∈ LT := LT_of 611 (by decide +kernel) (by decide +kernel)
theorem tw_612 : Cond.instanceMethod yX7_subtract ∈ LT := LT_of 612 (by decide +kernel) (by decide +kernel)
theorem tw_613 : Cond.selects RX7 yX7_subtract yX7_subtract ∈ LT := LT_of 613 (by decide +kernel) (by decide +kernel)
theorem tw_614 : Cond.code yX7_subtract cX7_subtract 5 (some .int) ∈ LT := LT_of 614 (by decide +kernel) (by decide +kernel)
theorem kvL_68 : CVd RL 68 6 mX7_subtract 3 := ⟨⟨TX7, 6, rfl⟩, tw_611, tw_612, tw_613, tw_1, tw_614, rfl, ⟨by decide +kernel, by decide +kernel, by decide +kernel⟩⟩
theorem tw_615 : Cond.methodLink RX7 144 yX7_differenceIntoResult ∈ LT := LT_of 615 (by decide +kernel) (by decide +kernel)
theorem tw_617 : Cond.instanceMethod yX7_differenceIntoResult ∈ LT := LT_of 617 (by decide +kernel) (by decide +kernel)
theorem ts_19 : Cond.selects RX7 yX7_differenceIntoResult yX7_differenceIntoResult ∈ LT := LT_sel 19 (by decide +kernel) (by decide +kernel)
theorem tw_618 : Cond.code yX7_differenceIntoResult cX7_differenceIntoResult 6 (some .int) ∈ LT := LT_of 618 (by decide +kernel) (by decide +kernel)
theorem kvX7_144 : CVd RX7 144 6 mX7_differenceIntoResult 2 := ⟨⟨TX7, 6, rfl⟩, tw_615, tw_617, ts_19, tw_1, tw_618, rfl, ⟨by decide +kernel, by decide +kernel, by decide +kernel⟩⟩
theorem tw_619 : Cond.methodLink RL 154 yL_setCapacity ∈ LT := LT_of 619 (by decide +kernel) (by decide +kernel)
theorem tw_620 : Cond.static yL_setCapacity ∈ LT := LT_of 620 (by decide +kernel) (by decide +kernel)
theorem tw_621 : Cond.codeWith yL_setCapacity cL_setCapacity 4 (some .int) [(0, 9, 12, 15)] ∈ LT := LT_of 621 (by decide +kernel) (by decide +kernel)
theorem ksL_154 : CSw RL 154 mL_setCapacity 3 := ⟨tw_619, tw_620, tw_0, tw_621, (fun z => by cases z), ⟨by decide +kernel, by decide +kernel, by decide +kernel⟩⟩
theorem tw_622 : Cond.methodLink RL 71 yX7_setCapacity ∈ LT := LT_of 622 (by decide +kernel) (by decide +kernel)
theorem tw_623 : Cond.instanceMethod yX7_setCapacity ∈ LT := LT_of 623 (by decide +kernel) (by decide +kernel)
theorem tw_624 : Cond.selects RX7 yX7_setCapacity yX7_setCapacity ∈ LT := LT_of 624 (by decide +kernel) (by decide +kernel)
theorem tw_625 : Cond.code yX7_setCapacity cX7_setCapacity 3 (some .int) ∈ LT := LT_of 625 (by decide +kernel) (by decide +kernel)
theorem kvL_71 : CVd RL 71 6 mX7_setCapacity 1 := ⟨⟨TX7, 6, rfl⟩, tw_622, tw_623, tw_624, tw_1, tw_625, rfl, ⟨by decide +kernel, by decide +kernel, by decide +kernel⟩⟩
theorem tw_626 : Cond.methodLink RX7 162 yX0_resize ∈ LT := LT_of 626 (by decide +kernel) (by decide +kernel)
theorem tw_627 : Cond.instanceMethod yX0_resize ∈ LT := LT_of 627 (by decide +kernel) (by decide +kernel)
theorem tw_628 : Cond.selects RX0 yX0_resize yX0_resize ∈ LT := LT_of 628 (by decide +kernel) (by decide +kernel)
theorem tw_629 : Cond.code yX0_resize cX0_resize 2 none ∈ LT := LT_of 629 (by decide +kernel) (by decide +kernel)
theorem kvX7_162 : CVd RX7 162 0 mX0_resize 1 := ⟨⟨TX0, 3, rfl⟩, tw_626, tw_627, tw_628, tw_3, tw_629, rfl, ⟨by decide +kernel, by decide +kernel, by decide +kernel⟩⟩
theorem tw_630 : Cond.methodLink RL 161 yL_cachedAt ∈ LT := LT_of 630 (by decide +kernel) (by decide +kernel)
theorem tw_631 : Cond.static yL_cachedAt ∈ LT := LT_of 631 (by decide +kernel) (by decide +kernel)
theorem tw_632 : Cond.codeWith yL_cachedAt cL_cachedAt 4 (some .int) [(0, 9, 12, 13)] ∈ LT := LT_of 632 (by decide +kernel) (by decide +kernel)
theorem ksL_161 : CSw RL 161 mL_cachedAt 3 := ⟨tw_630, tw_631, tw_0, tw_632, (fun z => by cases z), ⟨by decide +kernel, by decide +kernel, by decide +kernel⟩⟩
theorem tw_633 : Cond.methodLink RL 74 yX7_cachedAt ∈ LT := LT_of 633 (by decide +kernel) (by decide +kernel)
theorem tw_634 : Cond.instanceMethod yX7_cachedAt ∈ LT := LT_of 634 (by decide +kernel) (by decide +kernel)
theorem tw_635 : Cond.selects RX7 yX7_cachedAt yX7_cachedAt ∈ LT := LT_of 635 (by decide +kernel) (by decide +kernel)
theorem tw_636 : Cond.code yX7_cachedAt cX7_cachedAt 2 (some .int) ∈ LT := LT_of 636 (by decide +kernel) (by decide +kernel)
theorem kvL_74 : CVd RL 74 6 mX7_cachedAt 1 := ⟨⟨TX7, 6, rfl⟩, tw_633, tw_634, tw_635, tw_1, tw_636, rfl, ⟨by decide +kernel, by decide +kernel, by decide +kernel⟩⟩
theorem tw_637 : Cond.methodLink RL 164 yL_undo ∈ LT := LT_of 637 (by decide +kernel) (by decide +kernel)
theorem tw_638 : Cond.static yL_undo ∈ LT := LT_of 638 (by decide +kernel) (by decide +kernel)
theorem tw_639 : Cond.codeWith yL_undo cL_undo 3 (some .int) [(0, 8, 11, 17)] ∈ LT := LT_of 639 (by decide +kernel) (by decide +kernel)
theorem ksL_164 : CSw RL 164 mL_undo 2 := ⟨tw_637, tw_638, tw_0, tw_639, (fun z => by cases z), ⟨by decide +kernel, by decide +kernel, by decide +kernel⟩⟩
theorem tw_640 : Cond.methodLink RL 77 yX7_undo ∈ LT := LT_of 640 (by decide +kernel) (by decide +kernel)
theorem tw_641 : Cond.instanceMethod yX7_undo ∈ LT := LT_of 641 (by decide +kernel) (by decide +kernel)
theorem tw_642 : Cond.selects RX7 yX7_undo yX7_undo ∈ LT := LT_of 642 (by decide +kernel) (by decide +kernel)
theorem tw_643 : Cond.code yX7_undo cX7_undo 1 (some .int) ∈ LT := LT_of 643 (by decide +kernel) (by decide +kernel)
theorem kvL_77 : CVd RL 77 6 mX7_undo 0 := ⟨⟨TX7, 6, rfl⟩, tw_640, tw_641, tw_642, tw_1, tw_643, rfl, ⟨by decide +kernel, by decide +kernel, by decide +kernel⟩⟩
theorem tw_645 : Cond.methodLink RX7 172 yX2_restore ∈ LT := LT_of 645 (by decide +kernel) (by decide +kernel)
theorem tw_646 : Cond.instanceMethod yX2_restore ∈ LT := LT_of 646 (by decide +kernel) (by decide +kernel)
theorem tw_647 : Cond.selects RX2 yX2_restore yX2_restore ∈ LT := LT_of 647 (by decide +kernel) (by decide +kernel)
theorem tw_648 : Cond.code yX2_restore cX2_restore 2 none ∈ LT := LT_of 648 (by decide +kernel) (by decide +kernel)
theorem kvX7_172 : CVd RX7 172 2 mX2_restore 1 := ⟨⟨TX2, 3, rfl⟩, tw_645, tw_646, tw_647, tw_5, tw_648, rfl, ⟨by decide +kernel, by decide +kernel, by decide +kernel⟩⟩
theorem tw_651 : Cond.methodLink RL 84 yX8_init ∈ LT := LT_of 651 (by decide +kernel) (by decide +kernel)
theorem tw_652 : Cond.instanceMethod yX8_init ∈ LT := LT_of 652 (by decide +kernel) (by decide +kernel)
theorem tw_8 : Cond.initialized RX8 ∈ LT := LT_of 8 (by decide +kernel) (by decide +kernel)
theorem tw_653 : Cond.code yX8_init cX8_init 1 none ∈ LT := LT_of 653 (by decide +kernel) (by decide +kernel)
theorem kiL_84 : CId RL 84 mX8_init 0 := ⟨tw_651, tw_652, rfl, tw_8, tw_653, rfl, rfl, ⟨by decide +kernel, by decide +kernel, by decide +kernel⟩⟩
theorem tw_obj_RX8_1 : Cond.code objectInit ⟨#[0xb1]⟩ 1 none ∈ LT := LT_of 24 (by decide +kernel) (by decide +kernel)
theorem tw_654 : Cond.methodLink RX8 1 objectInit ∈ LT := LT_of 654 (by decide +kernel) (by decide +kernel)
theorem oiX8_1 : Cond.methodLink RX8 1 objectInit ∈ LT ∧ Cond.instanceMethod objectInit ∈ LT ∧ Cond.code objectInit ⟨#[0xb1]⟩ 1 none ∈ LT := ⟨tw_654, tw_23, tw_obj_RX8_1⟩
theorem tw_693 : Cond.methodLink RL 91 yX8_thrown ∈ LT := LT_of 693 (by decide +kernel) (by decide +kernel)
theorem tw_694 : Cond.instanceMethod yX8_thrown ∈ LT := LT_of 694 (by decide +kernel) (by decide +kernel)
theorem tw_695 : Cond.selects RX8 yX8_thrown yX8_thrown ∈ LT := LT_of 695 (by decide +kernel) (by decide +kernel)
theorem tw_696 : Cond.code yX8_thrown cX8_thrown 1 (some .int) ∈ LT := LT_of 696 (by decide +kernel) (by decide +kernel)
theorem kvL_91 : CVd RL 91 7 mX8_thrown 0 := ⟨⟨TX8, 12, rfl⟩, tw_693, tw_694, tw_695, tw_8, tw_696, rfl, ⟨by decide +kernel, by decide +kernel, by decide +kernel⟩⟩
theorem tw_697 : Cond.methodLink RL 90 yX8_append ∈ LT := LT_of 697 (by decide +kernel) (by decide +kernel)
theorem tw_698 : Cond.instanceMethod yX8_append ∈ LT := LT_of 698 (by decide +kernel) (by decide +kernel)
theorem tw_699 : Cond.selects RX8 yX8_append yX8_append ∈ LT := LT_of 699 (by decide +kernel) (by decide +kernel)
theorem tw_700 : Cond.code yX8_append cX8_append 3 (some .int) ∈ LT := LT_of 700 (by decide +kernel) (by decide +kernel)
theorem kvL_90 : CVd RL 90 7 mX8_append 2 := ⟨⟨TX8, 12, rfl⟩, tw_697, tw_698, tw_699, tw_8, tw_700, rfl, ⟨by decide +kernel, by decide +kernel, by decide +kernel⟩⟩
theorem tw_701 : Cond.methodLink RX8 60 yX8_isList ∈ LT := LT_of 701 (by decide +kernel) (by decide +kernel)
theorem tw_702 : Cond.static yX8_isList ∈ LT := LT_of 702 (by decide +kernel) (by decide +kernel)
theorem tw_703 : Cond.code yX8_isList cX8_isList 1 (some .boolean) ∈ LT := LT_of 703 (by decide +kernel) (by decide +kernel)
theorem ksX8_60 : CSd RX8 60 mX8_isList 1 := ⟨tw_701, tw_702, tw_8, tw_703, rfl, ⟨by decide +kernel, by decide +kernel, by decide +kernel⟩⟩
theorem tw_704 : Cond.methodLink RX8 45 yX8_in ∈ LT := LT_of 704 (by decide +kernel) (by decide +kernel)
theorem tw_705 : Cond.static yX8_in ∈ LT := LT_of 705 (by decide +kernel) (by decide +kernel)
theorem tw_706 : Cond.code yX8_in cX8_in 3 (some .boolean) ∈ LT := LT_of 706 (by decide +kernel) (by decide +kernel)
theorem ksX8_45 : CSd RX8 45 mX8_in 3 := ⟨tw_704, tw_705, tw_8, tw_706, rfl, ⟨by decide +kernel, by decide +kernel, by decide +kernel⟩⟩
theorem tw_707 : Cond.methodLink RX8 64 yX8_fails ∈ LT := LT_of 707 (by decide +kernel) (by decide +kernel)
theorem tw_709 : Cond.instanceMethod yX8_fails ∈ LT := LT_of 709 (by decide +kernel) (by decide +kernel)
theorem ts_20 : Cond.selects RX8 yX8_fails yX8_fails ∈ LT := LT_sel 20 (by decide +kernel) (by decide +kernel)
theorem tw_710 : Cond.code yX8_fails cX8_fails 2 (some .int) ∈ LT := LT_of 710 (by decide +kernel) (by decide +kernel)
theorem kvX8_64 : CVd RX8 64 7 mX8_fails 1 := ⟨⟨TX8, 12, rfl⟩, tw_707, tw_709, ts_20, tw_8, tw_710, rfl, ⟨by decide +kernel, by decide +kernel, by decide +kernel⟩⟩
theorem tw_711 : Cond.methodLink RX8 68 yX8_isBehind ∈ LT := LT_of 711 (by decide +kernel) (by decide +kernel)
theorem tw_713 : Cond.instanceMethod yX8_isBehind ∈ LT := LT_of 713 (by decide +kernel) (by decide +kernel)
theorem ts_21 : Cond.selects RX8 yX8_isBehind yX8_isBehind ∈ LT := LT_sel 21 (by decide +kernel) (by decide +kernel)
theorem tw_714 : Cond.code yX8_isBehind cX8_isBehind 3 (some .boolean) ∈ LT := LT_of 714 (by decide +kernel) (by decide +kernel)
theorem kvX8_68 : CVd RX8 68 7 mX8_isBehind 2 := ⟨⟨TX8, 12, rfl⟩, tw_711, tw_713, ts_21, tw_8, tw_714, rfl, ⟨by decide +kernel, by decide +kernel, by decide +kernel⟩⟩
theorem tw_715 : Cond.methodLink RX8 56 yX8_doc ∈ LT := LT_of 715 (by decide +kernel) (by decide +kernel)
theorem tw_717 : Cond.instanceMethod yX8_doc ∈ LT := LT_of 717 (by decide +kernel) (by decide +kernel)
theorem ts_22 : Cond.selects RX8 yX8_doc yX8_doc ∈ LT := LT_sel 22 (by decide +kernel) (by decide +kernel)
theorem tw_718 : Cond.code yX8_doc cX8_doc 3 (some .int) ∈ LT := LT_of 718 (by decide +kernel) (by decide +kernel)
theorem kvX8_56 : CVd RX8 56 7 mX8_doc 2 := ⟨⟨TX8, 12, rfl⟩, tw_715, tw_717, ts_22, tw_8, tw_718, rfl, ⟨by decide +kernel, by decide +kernel, by decide +kernel⟩⟩
theorem tw_719 : Cond.methodLink RX8 72 yX8_save ∈ LT := LT_of 719 (by decide +kernel) (by decide +kernel)
theorem tw_721 : Cond.instanceMethod yX8_save ∈ LT := LT_of 721 (by decide +kernel) (by decide +kernel)
theorem ts_23 : Cond.selects RX8 yX8_save yX8_save ∈ LT := LT_sel 23 (by decide +kernel) (by decide +kernel)
theorem tw_722 : Cond.code yX8_save cX8_save 2 none ∈ LT := LT_of 722 (by decide +kernel) (by decide +kernel)
theorem kvX8_72 : CVd RX8 72 7 mX8_save 0 := ⟨⟨TX8, 12, rfl⟩, tw_719, tw_721, ts_23, tw_8, tw_722, rfl, ⟨by decide +kernel, by decide +kernel, by decide +kernel⟩⟩
theorem tw_723 : Cond.methodLink RX8 75 yX8_changes ∈ LT := LT_of 723 (by decide +kernel) (by decide +kernel)
theorem tw_725 : Cond.instanceMethod yX8_changes ∈ LT := LT_of 725 (by decide +kernel) (by decide +kernel)
theorem ts_24 : Cond.selects RX8 yX8_changes yX8_changes ∈ LT := LT_sel 24 (by decide +kernel) (by decide +kernel)
theorem tw_726 : Cond.code yX8_changes cX8_changes 3 none ∈ LT := LT_of 726 (by decide +kernel) (by decide +kernel)
theorem kvX8_75 : CVd RX8 75 7 mX8_changes 1 := ⟨⟨TX8, 12, rfl⟩, tw_723, tw_725, ts_24, tw_8, tw_726, rfl, ⟨by decide +kernel, by decide +kernel, by decide +kernel⟩⟩
theorem tw_727 : Cond.methodLink RX8 52 yX8_drop ∈ LT := LT_of 727 (by decide +kernel) (by decide +kernel)
theorem tw_729 : Cond.instanceMethod yX8_drop ∈ LT := LT_of 729 (by decide +kernel) (by decide +kernel)
theorem ts_25 : Cond.selects RX8 yX8_drop yX8_drop ∈ LT := LT_sel 25 (by decide +kernel) (by decide +kernel)
theorem tw_730 : Cond.code yX8_drop cX8_drop 3 none ∈ LT := LT_of 730 (by decide +kernel) (by decide +kernel)
theorem kvX8_52 : CVd RX8 52 7 mX8_drop 1 := ⟨⟨TX8, 12, rfl⟩, tw_727, tw_729, ts_25, tw_8, tw_730, rfl, ⟨by decide +kernel, by decide +kernel, by decide +kernel⟩⟩
theorem tw_731 : Cond.methodLink RX8 78 yX8_add ∈ LT := LT_of 731 (by decide +kernel) (by decide +kernel)
theorem tw_733 : Cond.instanceMethod yX8_add ∈ LT := LT_of 733 (by decide +kernel) (by decide +kernel)
theorem ts_26 : Cond.selects RX8 yX8_add yX8_add ∈ LT := LT_sel 26 (by decide +kernel) (by decide +kernel)
theorem tw_734 : Cond.code yX8_add cX8_add 3 none ∈ LT := LT_of 734 (by decide +kernel) (by decide +kernel)
theorem kvX8_78 : CVd RX8 78 7 mX8_add 2 := ⟨⟨TX8, 12, rfl⟩, tw_731, tw_733, ts_26, tw_8, tw_734, rfl, ⟨by decide +kernel, by decide +kernel, by decide +kernel⟩⟩
theorem tw_735 : Cond.methodLink RL 97 yX8_appendRange ∈ LT := LT_of 735 (by decide +kernel) (by decide +kernel)
theorem tw_736 : Cond.instanceMethod yX8_appendRange ∈ LT := LT_of 736 (by decide +kernel) (by decide +kernel)
theorem tw_737 : Cond.selects RX8 yX8_appendRange yX8_appendRange ∈ LT := LT_of 737 (by decide +kernel) (by decide +kernel)
theorem tw_738 : Cond.code yX8_appendRange cX8_appendRange 6 (some .int) ∈ LT := LT_of 738 (by decide +kernel) (by decide +kernel)
theorem kvL_97 : CVd RL 97 7 mX8_appendRange 4 := ⟨⟨TX8, 12, rfl⟩, tw_735, tw_736, tw_737, tw_8, tw_738, rfl, ⟨by decide +kernel, by decide +kernel, by decide +kernel⟩⟩
theorem tw_739 : Cond.methodLink RL 101 yX8_clear ∈ LT := LT_of 739 (by decide +kernel) (by decide +kernel)
theorem tw_740 : Cond.instanceMethod yX8_clear ∈ LT := LT_of 740 (by decide +kernel) (by decide +kernel)
theorem tw_741 : Cond.selects RX8 yX8_clear yX8_clear ∈ LT := LT_of 741 (by decide +kernel) (by decide +kernel)
theorem tw_742 : Cond.code yX8_clear cX8_clear 3 (some .int) ∈ LT := LT_of 742 (by decide +kernel) (by decide +kernel)
theorem kvL_101 : CVd RL 101 7 mX8_clear 1 := ⟨⟨TX8, 12, rfl⟩, tw_739, tw_740, tw_741, tw_8, tw_742, rfl, ⟨by decide +kernel, by decide +kernel, by decide +kernel⟩⟩
theorem tw_743 : Cond.methodLink RL 104 yX8_size ∈ LT := LT_of 743 (by decide +kernel) (by decide +kernel)
theorem tw_744 : Cond.instanceMethod yX8_size ∈ LT := LT_of 744 (by decide +kernel) (by decide +kernel)
theorem tw_745 : Cond.selects RX8 yX8_size yX8_size ∈ LT := LT_of 745 (by decide +kernel) (by decide +kernel)
theorem tw_746 : Cond.code yX8_size cX8_size 2 (some .int) ∈ LT := LT_of 746 (by decide +kernel) (by decide +kernel)
theorem kvL_104 : CVd RL 104 7 mX8_size 1 := ⟨⟨TX8, 12, rfl⟩, tw_743, tw_744, tw_745, tw_8, tw_746, rfl, ⟨by decide +kernel, by decide +kernel, by decide +kernel⟩⟩
theorem tw_747 : Cond.methodLink RL 107 yX8_document ∈ LT := LT_of 747 (by decide +kernel) (by decide +kernel)
theorem tw_748 : Cond.instanceMethod yX8_document ∈ LT := LT_of 748 (by decide +kernel) (by decide +kernel)
theorem tw_749 : Cond.selects RX8 yX8_document yX8_document ∈ LT := LT_of 749 (by decide +kernel) (by decide +kernel)
theorem tw_750 : Cond.code yX8_document cX8_document 3 (some .int) ∈ LT := LT_of 750 (by decide +kernel) (by decide +kernel)
theorem kvL_107 : CVd RL 107 7 mX8_document 2 := ⟨⟨TX8, 12, rfl⟩, tw_747, tw_748, tw_749, tw_8, tw_750, rfl, ⟨by decide +kernel, by decide +kernel, by decide +kernel⟩⟩
theorem tw_751 : Cond.methodLink RL 110 yX8_rank ∈ LT := LT_of 751 (by decide +kernel) (by decide +kernel)
theorem tw_752 : Cond.instanceMethod yX8_rank ∈ LT := LT_of 752 (by decide +kernel) (by decide +kernel)
theorem tw_753 : Cond.selects RX8 yX8_rank yX8_rank ∈ LT := LT_of 753 (by decide +kernel) (by decide +kernel)
theorem tw_754 : Cond.code yX8_rank cX8_rank 5 (some .int) ∈ LT := LT_of 754 (by decide +kernel) (by decide +kernel)
theorem kvL_110 : CVd RL 110 7 mX8_rank 2 := ⟨⟨TX8, 12, rfl⟩, tw_751, tw_752, tw_753, tw_8, tw_754, rfl, ⟨by decide +kernel, by decide +kernel, by decide +kernel⟩⟩
theorem tw_755 : Cond.methodLink RL 113 yX8_partitions ∈ LT := LT_of 755 (by decide +kernel) (by decide +kernel)
theorem tw_756 : Cond.instanceMethod yX8_partitions ∈ LT := LT_of 756 (by decide +kernel) (by decide +kernel)
theorem tw_757 : Cond.selects RX8 yX8_partitions yX8_partitions ∈ LT := LT_of 757 (by decide +kernel) (by decide +kernel)
theorem tw_758 : Cond.code yX8_partitions cX8_partitions 2 (some .int) ∈ LT := LT_of 758 (by decide +kernel) (by decide +kernel)
theorem kvL_113 : CVd RL 113 7 mX8_partitions 1 := ⟨⟨TX8, 12, rfl⟩, tw_755, tw_756, tw_757, tw_8, tw_758, rfl, ⟨by decide +kernel, by decide +kernel, by decide +kernel⟩⟩
theorem tw_759 : Cond.methodLink RX8 114 yX8_lay ∈ LT := LT_of 759 (by decide +kernel) (by decide +kernel)
theorem tw_761 : Cond.instanceMethod yX8_lay ∈ LT := LT_of 761 (by decide +kernel) (by decide +kernel)
theorem ts_27 : Cond.selects RX8 yX8_lay yX8_lay ∈ LT := LT_sel 27 (by decide +kernel) (by decide +kernel)
theorem tw_762 : Cond.code yX8_lay cX8_lay 6 none ∈ LT := LT_of 762 (by decide +kernel) (by decide +kernel)
theorem kvX8_114 : CVd RX8 114 7 mX8_lay 1 := ⟨⟨TX8, 12, rfl⟩, tw_759, tw_761, ts_27, tw_8, tw_762, rfl, ⟨by decide +kernel, by decide +kernel, by decide +kernel⟩⟩
theorem tw_764 : Cond.methodLink RX8 92 yX8_sizeOf ∈ LT := LT_of 764 (by decide +kernel) (by decide +kernel)
theorem tw_766 : Cond.instanceMethod yX8_sizeOf ∈ LT := LT_of 766 (by decide +kernel) (by decide +kernel)
theorem ts_28 : Cond.selects RX8 yX8_sizeOf yX8_sizeOf ∈ LT := LT_sel 28 (by decide +kernel) (by decide +kernel)
theorem tw_767 : Cond.code yX8_sizeOf cX8_sizeOf 6 (some .int) ∈ LT := LT_of 767 (by decide +kernel) (by decide +kernel)
theorem kvX8_92 : CVd RX8 92 7 mX8_sizeOf 3 := ⟨⟨TX8, 12, rfl⟩, tw_764, tw_766, ts_28, tw_8, tw_767, rfl, ⟨by decide +kernel, by decide +kernel, by decide +kernel⟩⟩
theorem tw_768 : Cond.methodLink RX8 88 yX8_kindOf ∈ LT := LT_of 768 (by decide +kernel) (by decide +kernel)
theorem tw_769 : Cond.static yX8_kindOf ∈ LT := LT_of 769 (by decide +kernel) (by decide +kernel)
theorem tw_770 : Cond.code yX8_kindOf cX8_kindOf 2 (some .int) ∈ LT := LT_of 770 (by decide +kernel) (by decide +kernel)
theorem ksX8_88 : CSd RX8 88 mX8_kindOf 2 := ⟨tw_768, tw_769, tw_8, tw_770, rfl, ⟨by decide +kernel, by decide +kernel, by decide +kernel⟩⟩
theorem tw_771 : Cond.methodLink RX8 85 yX8_sparse ∈ LT := LT_of 771 (by decide +kernel) (by decide +kernel)
theorem tw_772 : Cond.static yX8_sparse ∈ LT := LT_of 772 (by decide +kernel) (by decide +kernel)
theorem tw_773 : Cond.code yX8_sparse cX8_sparse 3 (some .int) ∈ LT := LT_of 773 (by decide +kernel) (by decide +kernel)
theorem ksX8_85 : CSd RX8 85 mX8_sparse 2 := ⟨tw_771, tw_772, tw_8, tw_773, rfl, ⟨by decide +kernel, by decide +kernel, by decide +kernel⟩⟩
theorem tw_774 : Cond.methodLink RX8 82 yX8_lowBits ∈ LT := LT_of 774 (by decide +kernel) (by decide +kernel)
theorem tw_775 : Cond.static yX8_lowBits ∈ LT := LT_of 775 (by decide +kernel) (by decide +kernel)
theorem tw_776 : Cond.code yX8_lowBits cX8_lowBits 3 (some .int) ∈ LT := LT_of 776 (by decide +kernel) (by decide +kernel)
theorem ksX8_82 : CSd RX8 82 mX8_lowBits 2 := ⟨tw_774, tw_775, tw_8, tw_776, rfl, ⟨by decide +kernel, by decide +kernel, by decide +kernel⟩⟩
theorem tw_777 : Cond.methodLink RL 117 yX8_partition ∈ LT := LT_of 777 (by decide +kernel) (by decide +kernel)
theorem tw_778 : Cond.instanceMethod yX8_partition ∈ LT := LT_of 778 (by decide +kernel) (by decide +kernel)
theorem tw_779 : Cond.selects RX8 yX8_partition yX8_partition ∈ LT := LT_of 779 (by decide +kernel) (by decide +kernel)
theorem tw_780 : Cond.code yX8_partition cX8_partition 4 (some .int) ∈ LT := LT_of 780 (by decide +kernel) (by decide +kernel)
theorem kvL_117 : CVd RL 117 7 mX8_partition 3 := ⟨⟨TX8, 12, rfl⟩, tw_777, tw_778, tw_779, tw_8, tw_780, rfl, ⟨by decide +kernel, by decide +kernel, by decide +kernel⟩⟩
theorem tw_781 : Cond.methodLink RX8 120 yX8_property ∈ LT := LT_of 781 (by decide +kernel) (by decide +kernel)
theorem tw_783 : Cond.instanceMethod yX8_property ∈ LT := LT_of 783 (by decide +kernel) (by decide +kernel)
theorem ts_29 : Cond.selects RX8 yX8_property yX8_property ∈ LT := LT_sel 29 (by decide +kernel) (by decide +kernel)
theorem tw_784 : Cond.code yX8_property cX8_property 4 (some .int) ∈ LT := LT_of 784 (by decide +kernel) (by decide +kernel)
theorem kvX8_120 : CVd RX8 120 7 mX8_property 3 := ⟨⟨TX8, 12, rfl⟩, tw_781, tw_783, ts_29, tw_8, tw_784, rfl, ⟨by decide +kernel, by decide +kernel, by decide +kernel⟩⟩
theorem tw_785 : Cond.methodLink RX8 111 yX8_kindIn ∈ LT := LT_of 785 (by decide +kernel) (by decide +kernel)
theorem tw_787 : Cond.instanceMethod yX8_kindIn ∈ LT := LT_of 787 (by decide +kernel) (by decide +kernel)
theorem ts_30 : Cond.selects RX8 yX8_kindIn yX8_kindIn ∈ LT := LT_sel 30 (by decide +kernel) (by decide +kernel)
theorem tw_788 : Cond.code yX8_kindIn cX8_kindIn 3 (some .int) ∈ LT := LT_of 788 (by decide +kernel) (by decide +kernel)
theorem kvX8_111 : CVd RX8 111 7 mX8_kindIn 2 := ⟨⟨TX8, 12, rfl⟩, tw_785, tw_787, ts_30, tw_8, tw_788, rfl, ⟨by decide +kernel, by decide +kernel, by decide +kernel⟩⟩
theorem tw_789 : Cond.methodLink RX8 105 yX8_documentsIn ∈ LT := LT_of 789 (by decide +kernel) (by decide +kernel)
theorem tw_791 : Cond.instanceMethod yX8_documentsIn ∈ LT := LT_of 791 (by decide +kernel) (by decide +kernel)
theorem ts_31 : Cond.selects RX8 yX8_documentsIn yX8_documentsIn ∈ LT := LT_sel 31 (by decide +kernel) (by decide +kernel)
theorem tw_792 : Cond.code yX8_documentsIn cX8_documentsIn 3 (some .int) ∈ LT := LT_of 792 (by decide +kernel) (by decide +kernel)
theorem kvX8_105 : CVd RX8 105 7 mX8_documentsIn 2 := ⟨⟨TX8, 12, rfl⟩, tw_789, tw_791, ts_31, tw_8, tw_792, rfl, ⟨by decide +kernel, by decide +kernel, by decide +kernel⟩⟩
theorem tw_793 : Cond.methodLink RX8 96 yX8_beginOf ∈ LT := LT_of 793 (by decide +kernel) (by decide +kernel)
theorem tw_795 : Cond.instanceMethod yX8_beginOf ∈ LT := LT_of 795 (by decide +kernel) (by decide +kernel)
theorem ts_32 : Cond.selects RX8 yX8_beginOf yX8_beginOf ∈ LT := LT_sel 32 (by decide +kernel) (by decide +kernel)
theorem tw_796 : Cond.code yX8_beginOf cX8_beginOf 3 (some .int) ∈ LT := LT_of 796 (by decide +kernel) (by decide +kernel)
theorem kvX8_96 : CVd RX8 96 7 mX8_beginOf 2 := ⟨⟨TX8, 12, rfl⟩, tw_793, tw_795, ts_32, tw_8, tw_796, rfl, ⟨by decide +kernel, by decide +kernel, by decide +kernel⟩⟩
theorem tw_797 : Cond.methodLink RX8 108 yX8_widthOf ∈ LT := LT_of 797 (by decide +kernel) (by decide +kernel)
theorem tw_799 : Cond.instanceMethod yX8_widthOf ∈ LT := LT_of 799 (by decide +kernel) (by decide +kernel)
theorem ts_33 : Cond.selects RX8 yX8_widthOf yX8_widthOf ∈ LT := LT_sel 33 (by decide +kernel) (by decide +kernel)
theorem tw_800 : Cond.code yX8_widthOf cX8_widthOf 3 (some .int) ∈ LT := LT_of 800 (by decide +kernel) (by decide +kernel)
theorem kvX8_108 : CVd RX8 108 7 mX8_widthOf 2 := ⟨⟨TX8, 12, rfl⟩, tw_797, tw_799, ts_33, tw_8, tw_800, rfl, ⟨by decide +kernel, by decide +kernel, by decide +kernel⟩⟩
theorem tw_801 : Cond.methodLink RX8 99 yX8_lastIn ∈ LT := LT_of 801 (by decide +kernel) (by decide +kernel)
theorem tw_803 : Cond.instanceMethod yX8_lastIn ∈ LT := LT_of 803 (by decide +kernel) (by decide +kernel)
theorem ts_34 : Cond.selects RX8 yX8_lastIn yX8_lastIn ∈ LT := LT_sel 34 (by decide +kernel) (by decide +kernel)
theorem tw_804 : Cond.code yX8_lastIn cX8_lastIn 3 (some .int) ∈ LT := LT_of 804 (by decide +kernel) (by decide +kernel)
theorem kvX8_99 : CVd RX8 99 7 mX8_lastIn 2 := ⟨⟨TX8, 12, rfl⟩, tw_801, tw_803, ts_34, tw_8, tw_804, rfl, ⟨by decide +kernel, by decide +kernel, by decide +kernel⟩⟩
theorem tw_805 : Cond.methodLink RX8 102 yX8_firstIn ∈ LT := LT_of 805 (by decide +kernel) (by decide +kernel)
theorem tw_807 : Cond.instanceMethod yX8_firstIn ∈ LT := LT_of 807 (by decide +kernel) (by decide +kernel)
theorem ts_35 : Cond.selects RX8 yX8_firstIn yX8_firstIn ∈ LT := LT_sel 35 (by decide +kernel) (by decide +kernel)
theorem tw_808 : Cond.code yX8_firstIn cX8_firstIn 3 (some .int) ∈ LT := LT_of 808 (by decide +kernel) (by decide +kernel)
theorem kvX8_102 : CVd RX8 102 7 mX8_firstIn 2 := ⟨⟨TX8, 12, rfl⟩, tw_805, tw_807, ts_35, tw_8, tw_808, rfl, ⟨by decide +kernel, by decide +kernel, by decide +kernel⟩⟩
theorem tw_809 : Cond.methodLink RX8 117 yX8_lowIn ∈ LT := LT_of 809 (by decide +kernel) (by decide +kernel)
theorem tw_811 : Cond.instanceMethod yX8_lowIn ∈ LT := LT_of 811 (by decide +kernel) (by decide +kernel)
theorem ts_36 : Cond.selects RX8 yX8_lowIn yX8_lowIn ∈ LT := LT_sel 36 (by decide +kernel) (by decide +kernel)
theorem tw_812 : Cond.code yX8_lowIn cX8_lowIn 3 (some .int) ∈ LT := LT_of 812 (by decide +kernel) (by decide +kernel)
theorem kvX8_117 : CVd RX8 117 7 mX8_lowIn 2 := ⟨⟨TX8, 12, rfl⟩, tw_809, tw_811, ts_36, tw_8, tw_812, rfl, ⟨by decide +kernel, by decide +kernel, by decide +kernel⟩⟩
theorem tw_813 : Cond.methodLink RL 120 yX8_codeLength ∈ LT := LT_of 813 (by decide +kernel) (by decide +kernel)
theorem tw_814 : Cond.instanceMethod yX8_codeLength ∈ LT := LT_of 814 (by decide +kernel) (by decide +kernel)
theorem tw_815 : Cond.selects RX8 yX8_codeLength yX8_codeLength ∈ LT := LT_of 815 (by decide +kernel) (by decide +kernel)
theorem tw_816 : Cond.code yX8_codeLength cX8_codeLength 2 (some .int) ∈ LT := LT_of 816 (by decide +kernel) (by decide +kernel)
theorem kvL_120 : CVd RL 120 7 mX8_codeLength 1 := ⟨⟨TX8, 12, rfl⟩, tw_813, tw_814, tw_815, tw_8, tw_816, rfl, ⟨by decide +kernel, by decide +kernel, by decide +kernel⟩⟩
theorem tw_817 : Cond.methodLink RX8 123 yX8_bitsOf ∈ LT := LT_of 817 (by decide +kernel) (by decide +kernel)
theorem tw_819 : Cond.instanceMethod yX8_bitsOf ∈ LT := LT_of 819 (by decide +kernel) (by decide +kernel)
theorem ts_37 : Cond.selects RX8 yX8_bitsOf yX8_bitsOf ∈ LT := LT_sel 37 (by decide +kernel) (by decide +kernel)
theorem tw_820 : Cond.code yX8_bitsOf cX8_bitsOf 4 (some .int) ∈ LT := LT_of 820 (by decide +kernel) (by decide +kernel)
theorem kvX8_123 : CVd RX8 123 7 mX8_bitsOf 1 := ⟨⟨TX8, 12, rfl⟩, tw_817, tw_819, ts_37, tw_8, tw_820, rfl, ⟨by decide +kernel, by decide +kernel, by decide +kernel⟩⟩
theorem tw_821 : Cond.methodLink RL 123 yX8_codeBit ∈ LT := LT_of 821 (by decide +kernel) (by decide +kernel)
theorem tw_822 : Cond.instanceMethod yX8_codeBit ∈ LT := LT_of 822 (by decide +kernel) (by decide +kernel)
theorem tw_823 : Cond.selects RX8 yX8_codeBit yX8_codeBit ∈ LT := LT_of 823 (by decide +kernel) (by decide +kernel)
theorem tw_824 : Cond.code yX8_codeBit cX8_codeBit 3 (some .int) ∈ LT := LT_of 824 (by decide +kernel) (by decide +kernel)
theorem kvL_123 : CVd RL 123 7 mX8_codeBit 2 := ⟨⟨TX8, 12, rfl⟩, tw_821, tw_822, tw_823, tw_8, tw_824, rfl, ⟨by decide +kernel, by decide +kernel, by decide +kernel⟩⟩
theorem tw_825 : Cond.methodLink RX8 132 yX8_bitOf ∈ LT := LT_of 825 (by decide +kernel) (by decide +kernel)
theorem tw_827 : Cond.instanceMethod yX8_bitOf ∈ LT := LT_of 827 (by decide +kernel) (by decide +kernel)
theorem ts_38 : Cond.selects RX8 yX8_bitOf yX8_bitOf ∈ LT := LT_sel 38 (by decide +kernel) (by decide +kernel)
theorem tw_828 : Cond.code yX8_bitOf cX8_bitOf 5 (some .int) ∈ LT := LT_of 828 (by decide +kernel) (by decide +kernel)
theorem kvX8_132 : CVd RX8 132 7 mX8_bitOf 2 := ⟨⟨TX8, 12, rfl⟩, tw_825, tw_827, ts_38, tw_8, tw_828, rfl, ⟨by decide +kernel, by decide +kernel, by decide +kernel⟩⟩
theorem tw_829 : Cond.methodLink RX8 126 yX8_headerBit ∈ LT := LT_of 829 (by decide +kernel) (by decide +kernel)
theorem tw_831 : Cond.instanceMethod yX8_headerBit ∈ LT := LT_of 831 (by decide +kernel) (by decide +kernel)
theorem ts_39 : Cond.selects RX8 yX8_headerBit yX8_headerBit ∈ LT := LT_sel 39 (by decide +kernel) (by decide +kernel)
theorem tw_832 : Cond.code yX8_headerBit cX8_headerBit 5 (some .int) ∈ LT := LT_of 832 (by decide +kernel) (by decide +kernel)
theorem kvX8_126 : CVd RX8 126 7 mX8_headerBit 3 := ⟨⟨TX8, 12, rfl⟩, tw_829, tw_831, ts_39, tw_8, tw_832, rfl, ⟨by decide +kernel, by decide +kernel, by decide +kernel⟩⟩
theorem tw_833 : Cond.methodLink RX8 129 yX8_bodyBit ∈ LT := LT_of 833 (by decide +kernel) (by decide +kernel)
theorem tw_835 : Cond.instanceMethod yX8_bodyBit ∈ LT := LT_of 835 (by decide +kernel) (by decide +kernel)
theorem ts_40 : Cond.selects RX8 yX8_bodyBit yX8_bodyBit ∈ LT := LT_sel 40 (by decide +kernel) (by decide +kernel)
theorem tw_836 : Cond.code yX8_bodyBit cX8_bodyBit 12 (some .int) ∈ LT := LT_of 836 (by decide +kernel) (by decide +kernel)
theorem kvX8_129 : CVd RX8 129 7 mX8_bodyBit 3 := ⟨⟨TX8, 12, rfl⟩, tw_833, tw_835, ts_40, tw_8, tw_836, rfl, ⟨by decide +kernel, by decide +kernel, by decide +kernel⟩⟩
theorem tw_837 : Cond.methodLink RL 126 yX8_fixedLength ∈ LT := LT_of 837 (by decide +kernel) (by decide +kernel)
theorem tw_838 : Cond.instanceMethod yX8_fixedLength ∈ LT := LT_of 838 (by decide +kernel) (by decide +kernel)
theorem tw_839 : Cond.selects RX8 yX8_fixedLength yX8_fixedLength ∈ LT := LT_of 839 (by decide +kernel) (by decide +kernel)
theorem tw_840 : Cond.code yX8_fixedLength cX8_fixedLength 5 (some .int) ∈ LT := LT_of 840 (by decide +kernel) (by decide +kernel)
theorem kvL_126 : CVd RL 126 7 mX8_fixedLength 2 := ⟨⟨TX8, 12, rfl⟩, tw_837, tw_838, tw_839, tw_8, tw_840, rfl, ⟨by decide +kernel, by decide +kernel, by decide +kernel⟩⟩
theorem tw_841 : Cond.methodLink RL 130 yX8_bitsPerDocument ∈ LT := LT_of 841 (by decide +kernel) (by decide +kernel)
theorem tw_842 : Cond.instanceMethod yX8_bitsPerDocument ∈ LT := LT_of 842 (by decide +kernel) (by decide +kernel)
theorem tw_843 : Cond.selects RX8 yX8_bitsPerDocument yX8_bitsPerDocument ∈ LT := LT_of 843 (by decide +kernel) (by decide +kernel)
theorem tw_844 : Cond.code yX8_bitsPerDocument cX8_bitsPerDocument 2 (some .double) ∈ LT := LT_of 844 (by decide +kernel) (by decide +kernel)
theorem kvL_130 : CVd RL 130 7 mX8_bitsPerDocument 1 := ⟨⟨TX8, 12, rfl⟩, tw_841, tw_842, tw_843, tw_8, tw_844, rfl, ⟨by decide +kernel, by decide +kernel, by decide +kernel⟩⟩
theorem tw_845 : Cond.methodLink RL 133 yX8_nextAtLeast ∈ LT := LT_of 845 (by decide +kernel) (by decide +kernel)
theorem tw_846 : Cond.instanceMethod yX8_nextAtLeast ∈ LT := LT_of 846 (by decide +kernel) (by decide +kernel)
theorem tw_847 : Cond.selects RX8 yX8_nextAtLeast yX8_nextAtLeast ∈ LT := LT_of 847 (by decide +kernel) (by decide +kernel)
theorem tw_848 : Cond.code yX8_nextAtLeast cX8_nextAtLeast 3 (some .int) ∈ LT := LT_of 848 (by decide +kernel) (by decide +kernel)
theorem kvL_133 : CVd RL 133 7 mX8_nextAtLeast 2 := ⟨⟨TX8, 12, rfl⟩, tw_845, tw_846, tw_847, tw_8, tw_848, rfl, ⟨by decide +kernel, by decide +kernel, by decide +kernel⟩⟩
theorem tw_849 : Cond.methodLink RX8 142 yX8_asks ∈ LT := LT_of 849 (by decide +kernel) (by decide +kernel)
theorem tw_851 : Cond.instanceMethod yX8_asks ∈ LT := LT_of 851 (by decide +kernel) (by decide +kernel)
theorem ts_41 : Cond.selects RX8 yX8_asks yX8_asks ∈ LT := LT_sel 41 (by decide +kernel) (by decide +kernel)
theorem tw_852 : Cond.code yX8_asks cX8_asks 4 (some .int) ∈ LT := LT_of 852 (by decide +kernel) (by decide +kernel)
theorem kvX8_142 : CVd RX8 142 7 mX8_asks 2 := ⟨⟨TX8, 12, rfl⟩, tw_849, tw_851, ts_41, tw_8, tw_852, rfl, ⟨by decide +kernel, by decide +kernel, by decide +kernel⟩⟩
theorem tw_853 : Cond.methodLink RX8 139 yX8_opens ∈ LT := LT_of 853 (by decide +kernel) (by decide +kernel)
theorem tw_855 : Cond.instanceMethod yX8_opens ∈ LT := LT_of 855 (by decide +kernel) (by decide +kernel)
theorem ts_42 : Cond.selects RX8 yX8_opens yX8_opens ∈ LT := LT_sel 42 (by decide +kernel) (by decide +kernel)
theorem tw_856 : Cond.code yX8_opens cX8_opens 7 (some .int) ∈ LT := LT_of 856 (by decide +kernel) (by decide +kernel)
theorem kvX8_139 : CVd RX8 139 7 mX8_opens 3 := ⟨⟨TX8, 12, rfl⟩, tw_853, tw_855, ts_42, tw_8, tw_856, rfl, ⟨by decide +kernel, by decide +kernel, by decide +kernel⟩⟩
theorem tw_857 : Cond.methodLink RX8 135 yX8_readsFor ∈ LT := LT_of 857 (by decide +kernel) (by decide +kernel)
theorem tw_859 : Cond.instanceMethod yX8_readsFor ∈ LT := LT_of 859 (by decide +kernel) (by decide +kernel)
theorem ts_43 : Cond.selects RX8 yX8_readsFor yX8_readsFor ∈ LT := LT_sel 43 (by decide +kernel) (by decide +kernel)
theorem tw_860 : Cond.code yX8_readsFor cX8_readsFor 10 (some .int) ∈ LT := LT_of 860 (by decide +kernel) (by decide +kernel)
theorem kvX8_135 : CVd RX8 135 7 mX8_readsFor 4 := ⟨⟨TX8, 12, rfl⟩, tw_857, tw_859, ts_43, tw_8, tw_860, rfl, ⟨by decide +kernel, by decide +kernel, by decide +kernel⟩⟩
theorem tw_861 : Cond.methodLink RL 136 yX8_countIntersection ∈ LT := LT_of 861 (by decide +kernel) (by decide +kernel)
theorem tw_862 : Cond.instanceMethod yX8_countIntersection ∈ LT := LT_of 862 (by decide +kernel) (by decide +kernel)
theorem tw_863 : Cond.selects RX8 yX8_countIntersection yX8_countIntersection ∈ LT := LT_of 863 (by decide +kernel) (by decide +kernel)
theorem tw_864 : Cond.code yX8_countIntersection cX8_countIntersection 2 (some .int) ∈ LT := LT_of 864 (by decide +kernel) (by decide +kernel)
theorem kvL_136 : CVd RL 136 7 mX8_countIntersection 1 := ⟨⟨TX8, 12, rfl⟩, tw_861, tw_862, tw_863, tw_8, tw_864, rfl, ⟨by decide +kernel, by decide +kernel, by decide +kernel⟩⟩
theorem tw_865 : Cond.methodLink RX8 145 yX8_isSet ∈ LT := LT_of 865 (by decide +kernel) (by decide +kernel)
theorem tw_866 : Cond.static yX8_isSet ∈ LT := LT_of 866 (by decide +kernel) (by decide +kernel)
theorem tw_867 : Cond.code yX8_isSet cX8_isSet 1 (some .boolean) ∈ LT := LT_of 867 (by decide +kernel) (by decide +kernel)
theorem ksX8_145 : CSd RX8 145 mX8_isSet 1 := ⟨tw_865, tw_866, tw_8, tw_867, rfl, ⟨by decide +kernel, by decide +kernel, by decide +kernel⟩⟩
theorem tw_868 : Cond.methodLink RX8 148 yX8_meets ∈ LT := LT_of 868 (by decide +kernel) (by decide +kernel)
theorem tw_870 : Cond.instanceMethod yX8_meets ∈ LT := LT_of 870 (by decide +kernel) (by decide +kernel)
theorem ts_44 : Cond.selects RX8 yX8_meets yX8_meets ∈ LT := LT_sel 44 (by decide +kernel) (by decide +kernel)
theorem tw_871 : Cond.code yX8_meets cX8_meets 7 (some .int) ∈ LT := LT_of 871 (by decide +kernel) (by decide +kernel)
theorem kvX8_148 : CVd RX8 148 7 mX8_meets 1 := ⟨⟨TX8, 12, rfl⟩, tw_868, tw_870, ts_44, tw_8, tw_871, rfl, ⟨by decide +kernel, by decide +kernel, by decide +kernel⟩⟩
theorem tw_872 : Cond.methodLink RL 139 yX8_intersect ∈ LT := LT_of 872 (by decide +kernel) (by decide +kernel)
theorem tw_873 : Cond.instanceMethod yX8_intersect ∈ LT := LT_of 873 (by decide +kernel) (by decide +kernel)
theorem tw_874 : Cond.selects RX8 yX8_intersect yX8_intersect ∈ LT := LT_of 874 (by decide +kernel) (by decide +kernel)
theorem tw_875 : Cond.code yX8_intersect cX8_intersect 3 (some .int) ∈ LT := LT_of 875 (by decide +kernel) (by decide +kernel)
theorem kvL_139 : CVd RL 139 7 mX8_intersect 2 := ⟨⟨TX8, 12, rfl⟩, tw_872, tw_873, tw_874, tw_8, tw_875, rfl, ⟨by decide +kernel, by decide +kernel, by decide +kernel⟩⟩
theorem tw_876 : Cond.methodLink RX8 151 yX8_writes ∈ LT := LT_of 876 (by decide +kernel) (by decide +kernel)
theorem tw_878 : Cond.instanceMethod yX8_writes ∈ LT := LT_of 878 (by decide +kernel) (by decide +kernel)
theorem ts_45 : Cond.selects RX8 yX8_writes yX8_writes ∈ LT := LT_sel 45 (by decide +kernel) (by decide +kernel)
theorem tw_879 : Cond.code yX8_writes cX8_writes 4 (some .int) ∈ LT := LT_of 879 (by decide +kernel) (by decide +kernel)
theorem kvX8_151 : CVd RX8 151 7 mX8_writes 2 := ⟨⟨TX8, 12, rfl⟩, tw_876, tw_878, ts_45, tw_8, tw_879, rfl, ⟨by decide +kernel, by decide +kernel, by decide +kernel⟩⟩
theorem tw_880 : Cond.methodLink RL 142 yX8_unite ∈ LT := LT_of 880 (by decide +kernel) (by decide +kernel)
theorem tw_881 : Cond.instanceMethod yX8_unite ∈ LT := LT_of 881 (by decide +kernel) (by decide +kernel)
theorem tw_882 : Cond.selects RX8 yX8_unite yX8_unite ∈ LT := LT_of 882 (by decide +kernel) (by decide +kernel)
theorem tw_883 : Cond.code yX8_unite cX8_unite 6 (some .int) ∈ LT := LT_of 883 (by decide +kernel) (by decide +kernel)
theorem kvL_142 : CVd RL 142 7 mX8_unite 3 := ⟨⟨TX8, 12, rfl⟩, tw_880, tw_881, tw_882, tw_8, tw_883, rfl, ⟨by decide +kernel, by decide +kernel, by decide +kernel⟩⟩
theorem tw_884 : Cond.methodLink RX8 154 yX8_has ∈ LT := LT_of 884 (by decide +kernel) (by decide +kernel)
theorem tw_886 : Cond.instanceMethod yX8_has ∈ LT := LT_of 886 (by decide +kernel) (by decide +kernel)
theorem ts_46 : Cond.selects RX8 yX8_has yX8_has ∈ LT := LT_sel 46 (by decide +kernel) (by decide +kernel)
theorem tw_887 : Cond.code yX8_has cX8_has 5 (some .boolean) ∈ LT := LT_of 887 (by decide +kernel) (by decide +kernel)
theorem kvX8_154 : CVd RX8 154 7 mX8_has 2 := ⟨⟨TX8, 12, rfl⟩, tw_884, tw_886, ts_46, tw_8, tw_887, rfl, ⟨by decide +kernel, by decide +kernel, by decide +kernel⟩⟩
theorem tw_888 : Cond.methodLink RL 145 yX8_subtract ∈ LT := LT_of 888 (by decide +kernel) (by decide +kernel)
theorem tw_889 : Cond.instanceMethod yX8_subtract ∈ LT := LT_of 889 (by decide +kernel) (by decide +kernel)
theorem tw_890 : Cond.selects RX8 yX8_subtract yX8_subtract ∈ LT := LT_of 890 (by decide +kernel) (by decide +kernel)
theorem tw_891 : Cond.code yX8_subtract cX8_subtract 6 (some .int) ∈ LT := LT_of 891 (by decide +kernel) (by decide +kernel)
theorem kvL_145 : CVd RL 145 7 mX8_subtract 3 := ⟨⟨TX8, 12, rfl⟩, tw_888, tw_889, tw_890, tw_8, tw_891, rfl, ⟨by decide +kernel, by decide +kernel, by decide +kernel⟩⟩
theorem tw_892 : Cond.methodLink RL 149 yX8_reads ∈ LT := LT_of 892 (by decide +kernel) (by decide +kernel)
theorem tw_893 : Cond.instanceMethod yX8_reads ∈ LT := LT_of 893 (by decide +kernel) (by decide +kernel)
theorem tw_894 : Cond.selects RX8 yX8_reads yX8_reads ∈ LT := LT_of 894 (by decide +kernel) (by decide +kernel)
theorem tw_895 : Cond.code yX8_reads cX8_reads 1 (some .int) ∈ LT := LT_of 895 (by decide +kernel) (by decide +kernel)
theorem kvL_149 : CVd RL 149 7 mX8_reads 0 := ⟨⟨TX8, 12, rfl⟩, tw_892, tw_893, tw_894, tw_8, tw_895, rfl, ⟨by decide +kernel, by decide +kernel, by decide +kernel⟩⟩
theorem tw_896 : Cond.methodLink RL 153 yX8_hits ∈ LT := LT_of 896 (by decide +kernel) (by decide +kernel)
theorem tw_897 : Cond.instanceMethod yX8_hits ∈ LT := LT_of 897 (by decide +kernel) (by decide +kernel)
theorem tw_898 : Cond.selects RX8 yX8_hits yX8_hits ∈ LT := LT_of 898 (by decide +kernel) (by decide +kernel)
theorem tw_899 : Cond.code yX8_hits cX8_hits 1 (some .int) ∈ LT := LT_of 899 (by decide +kernel) (by decide +kernel)
theorem kvL_153 : CVd RL 153 7 mX8_hits 0 := ⟨⟨TX8, 12, rfl⟩, tw_896, tw_897, tw_898, tw_8, tw_899, rfl, ⟨by decide +kernel, by decide +kernel, by decide +kernel⟩⟩
theorem tw_900 : Cond.methodLink RL 156 yX8_setCapacity ∈ LT := LT_of 900 (by decide +kernel) (by decide +kernel)
theorem tw_901 : Cond.instanceMethod yX8_setCapacity ∈ LT := LT_of 901 (by decide +kernel) (by decide +kernel)
theorem tw_902 : Cond.selects RX8 yX8_setCapacity yX8_setCapacity ∈ LT := LT_of 902 (by decide +kernel) (by decide +kernel)
theorem tw_903 : Cond.code yX8_setCapacity cX8_setCapacity 3 (some .int) ∈ LT := LT_of 903 (by decide +kernel) (by decide +kernel)
theorem kvL_156 : CVd RL 156 7 mX8_setCapacity 1 := ⟨⟨TX8, 12, rfl⟩, tw_900, tw_901, tw_902, tw_8, tw_903, rfl, ⟨by decide +kernel, by decide +kernel, by decide +kernel⟩⟩
theorem tw_904 : Cond.methodLink RL 160 yX8_cached ∈ LT := LT_of 904 (by decide +kernel) (by decide +kernel)
theorem tw_905 : Cond.instanceMethod yX8_cached ∈ LT := LT_of 905 (by decide +kernel) (by decide +kernel)
theorem tw_906 : Cond.selects RX8 yX8_cached yX8_cached ∈ LT := LT_of 906 (by decide +kernel) (by decide +kernel)
theorem tw_907 : Cond.code yX8_cached cX8_cached 1 (some .int) ∈ LT := LT_of 907 (by decide +kernel) (by decide +kernel)
theorem kvL_160 : CVd RL 160 7 mX8_cached 0 := ⟨⟨TX8, 12, rfl⟩, tw_904, tw_905, tw_906, tw_8, tw_907, rfl, ⟨by decide +kernel, by decide +kernel, by decide +kernel⟩⟩
theorem tw_908 : Cond.methodLink RL 163 yX8_cachedAt ∈ LT := LT_of 908 (by decide +kernel) (by decide +kernel)
theorem tw_909 : Cond.instanceMethod yX8_cachedAt ∈ LT := LT_of 909 (by decide +kernel) (by decide +kernel)
theorem tw_910 : Cond.selects RX8 yX8_cachedAt yX8_cachedAt ∈ LT := LT_of 910 (by decide +kernel) (by decide +kernel)
theorem tw_911 : Cond.code yX8_cachedAt cX8_cachedAt 2 (some .int) ∈ LT := LT_of 911 (by decide +kernel) (by decide +kernel)
theorem kvL_163 : CVd RL 163 7 mX8_cachedAt 1 := ⟨⟨TX8, 12, rfl⟩, tw_908, tw_909, tw_910, tw_8, tw_911, rfl, ⟨by decide +kernel, by decide +kernel, by decide +kernel⟩⟩
theorem tw_912 : Cond.methodLink RL 167 yX8_undo ∈ LT := LT_of 912 (by decide +kernel) (by decide +kernel)
theorem tw_913 : Cond.instanceMethod yX8_undo ∈ LT := LT_of 913 (by decide +kernel) (by decide +kernel)
theorem tw_914 : Cond.selects RX8 yX8_undo yX8_undo ∈ LT := LT_of 914 (by decide +kernel) (by decide +kernel)
theorem tw_915 : Cond.code yX8_undo cX8_undo 2 (some .int) ∈ LT := LT_of 915 (by decide +kernel) (by decide +kernel)
theorem kvL_167 : CVd RL 167 7 mX8_undo 0 := ⟨⟨TX8, 12, rfl⟩, tw_912, tw_913, tw_914, tw_8, tw_915, rfl, ⟨by decide +kernel, by decide +kernel, by decide +kernel⟩⟩
theorem tw_916 : Cond.methodLink RL 172 yX8_digest ∈ LT := LT_of 916 (by decide +kernel) (by decide +kernel)
theorem tw_917 : Cond.instanceMethod yX8_digest ∈ LT := LT_of 917 (by decide +kernel) (by decide +kernel)
theorem tw_918 : Cond.selects RX8 yX8_digest yX8_digest ∈ LT := LT_of 918 (by decide +kernel) (by decide +kernel)
theorem tw_919 : Cond.code yX8_digest cX8_digest 6 (some .long) ∈ LT := LT_of 919 (by decide +kernel) (by decide +kernel)
theorem kvL_172 : CVd RL 172 7 mX8_digest 0 := ⟨⟨TX8, 12, rfl⟩, tw_916, tw_917, tw_918, tw_8, tw_919, rfl, ⟨by decide +kernel, by decide +kernel, by decide +kernel⟩⟩
theorem tw_921 : Cond.methodLink RX8 161 yX8_mixed ∈ LT := LT_of 921 (by decide +kernel) (by decide +kernel)
theorem tw_922 : Cond.static yX8_mixed ∈ LT := LT_of 922 (by decide +kernel) (by decide +kernel)
theorem tw_923 : Cond.code yX8_mixed cX8_mixed 4 (some .long) ∈ LT := LT_of 923 (by decide +kernel) (by decide +kernel)
theorem ksX8_161 : CSd RX8 161 mX8_mixed 2 := ⟨tw_921, tw_922, tw_8, tw_923, rfl, ⟨by decide +kernel, by decide +kernel, by decide +kernel⟩⟩
theorem tw_36 : Cond.instanceMethod yX0_init ∈ LT := LT_of 36 (by decide +kernel) (by decide +kernel)
theorem tw_37 : Cond.code yX0_init cX0_init 1 none ∈ LT := LT_of 37 (by decide +kernel) (by decide +kernel)
theorem knX6_19 : CNd RX6 19 mX0_init RX7 0 := ⟨by decide +kernel, tw_36, rfl, tw_3, tw_37, rfl, rfl, ⟨by decide +kernel, by decide +kernel, by decide +kernel⟩⟩
theorem tw_55 : Cond.instanceMethod yX4_init ∈ LT := LT_of 55 (by decide +kernel) (by decide +kernel)
theorem tw_56 : Cond.code yX4_init cX4_init 1 none ∈ LT := LT_of 56 (by decide +kernel) (by decide +kernel)
theorem knX6_31 : CNd RX6 31 mX4_init RX7 0 := ⟨by decide +kernel, tw_55, rfl, tw_4, tw_56, rfl, rfl, ⟨by decide +kernel, by decide +kernel, by decide +kernel⟩⟩
theorem tw_119 : Cond.instanceMethod yX3_init ∈ LT := LT_of 119 (by decide +kernel) (by decide +kernel)
theorem tw_120 : Cond.code yX3_init cX3_init 1 none ∈ LT := LT_of 120 (by decide +kernel) (by decide +kernel)
theorem knX7_25 : CNd RX7 25 mX3_init RX7 0 := ⟨by decide +kernel, tw_119, rfl, tw_6, tw_120, rfl, rfl, ⟨by decide +kernel, by decide +kernel, by decide +kernel⟩⟩
theorem tw_132 : Cond.instanceMethod yX1_init ∈ LT := LT_of 132 (by decide +kernel) (by decide +kernel)
theorem tw_133 : Cond.code yX1_init cX1_init 1 none ∈ LT := LT_of 133 (by decide +kernel) (by decide +kernel)
theorem knX7_32 : CNd RX7 32 mX1_init RX7 0 := ⟨by decide +kernel, tw_132, rfl, tw_7, tw_133, rfl, rfl, ⟨by decide +kernel, by decide +kernel, by decide +kernel⟩⟩
theorem tw_17 : Cond.classLink RL 8 RX7 ∈ LT := LT_of 17 (by decide +kernel) (by decide +kernel)
theorem tw_18 : Cond.instantiable RX7 6 ∈ LT := LT_of 18 (by decide +kernel) (by decide +kernel)
theorem nwL_8 : NWd RL 8 6 6 [.null, .null, .null, .null, .null, .null] := ⟨RX7, TX7, tyX7, rfl, luX7, tyX7_ok, tw_17, tw_18, tw_1, fun B b j hj => by
  match j, hj with
  | 0, _ => rfl
  | 1, _ => rfl
  | 2, _ => rfl
  | 3, _ => rfl
  | 4, _ => rfl
  | 5, _ => rfl
  | j + 6, hj => omega⟩
theorem tw_25 : Cond.classLink RX7 9 RX6 ∈ LT := LT_of 25 (by decide +kernel) (by decide +kernel)
theorem tw_26 : Cond.instantiable RX6 4 ∈ LT := LT_of 26 (by decide +kernel) (by decide +kernel)
theorem nwX7_9 : NWd RX7 9 5 4 [.null, .null, .int (iI 0), .int (iI 0)] := ⟨RX6, TX6, tyX6, rfl, luX6, tyX6_ok, tw_25, tw_26, tw_2, fun B b j hj => by
  match j, hj with
  | 0, _ => rfl
  | 1, _ => rfl
  | 2, _ => rfl
  | 3, _ => rfl
  | j + 4, hj => omega⟩
theorem tw_31 : Cond.classLink RX6 9 RX4 ∈ LT := LT_of 31 (by decide +kernel) (by decide +kernel)
theorem tw_53 : Cond.instantiable RX4 4 ∈ LT := LT_of 53 (by decide +kernel) (by decide +kernel)
theorem nwX6_9 : NWd RX6 9 4 4 [.null, .int (iI 0), .null, .int (iI 0)] := ⟨RX4, TX4, tyX4, rfl, luX4, tyX4_ok, tw_31, tw_53, tw_4, fun B b j hj => by
  match j, hj with
  | 0, _ => rfl
  | 1, _ => rfl
  | 2, _ => rfl
  | 3, _ => rfl
  | j + 4, hj => omega⟩
theorem tw_33 : Cond.classLink RX6 17 RX0 ∈ LT := LT_of 33 (by decide +kernel) (by decide +kernel)
theorem tw_34 : Cond.instantiable RX0 3 ∈ LT := LT_of 34 (by decide +kernel) (by decide +kernel)
theorem nwX6_17 : NWd RX6 17 0 3 [.null, .int (iI 0), .int (iI 0)] := ⟨RX0, TX0, tyX0, rfl, luX0, tyX0_ok, tw_33, tw_34, tw_3, fun B b j hj => by
  match j, hj with
  | 0, _ => rfl
  | 1, _ => rfl
  | 2, _ => rfl
  | j + 3, hj => omega⟩
theorem tw_96 : Cond.classLink RX7 16 RX2 ∈ LT := LT_of 96 (by decide +kernel) (by decide +kernel)
theorem tw_97 : Cond.instantiable RX2 3 ∈ LT := LT_of 97 (by decide +kernel) (by decide +kernel)
theorem nwX7_16 : NWd RX7 16 2 3 [.null, .int (iI 0), .int (iI 0)] := ⟨RX2, TX2, tyX2, rfl, luX2, tyX2_ok, tw_96, tw_97, tw_5, fun B b j hj => by
  match j, hj with
  | 0, _ => rfl
  | 1, _ => rfl
  | 2, _ => rfl
  | j + 3, hj => omega⟩
theorem tw_102 : Cond.classLink RX2 9 RX6 ∈ LT := LT_of 102 (by decide +kernel) (by decide +kernel)
theorem nwX2_9 : NWd RX2 9 5 4 [.null, .null, .int (iI 0), .int (iI 0)] := ⟨RX6, TX6, tyX6, rfl, luX6, tyX6_ok, tw_102, tw_26, tw_2, fun B b j hj => by
  match j, hj with
  | 0, _ => rfl
  | 1, _ => rfl
  | 2, _ => rfl
  | 3, _ => rfl
  | j + 4, hj => omega⟩
theorem tw_116 : Cond.classLink RX7 23 RX3 ∈ LT := LT_of 116 (by decide +kernel) (by decide +kernel)
theorem tw_117 : Cond.instantiable RX3 2 ∈ LT := LT_of 117 (by decide +kernel) (by decide +kernel)
theorem nwX7_23 : NWd RX7 23 3 2 [.null, .null] := ⟨RX3, TX3, tyX3, rfl, luX3, tyX3_ok, tw_116, tw_117, tw_6, fun B b j hj => by
  match j, hj with
  | 0, _ => rfl
  | 1, _ => rfl
  | j + 2, hj => omega⟩
theorem tw_129 : Cond.classLink RX7 30 RX1 ∈ LT := LT_of 129 (by decide +kernel) (by decide +kernel)
theorem tw_130 : Cond.instantiable RX1 2 ∈ LT := LT_of 130 (by decide +kernel) (by decide +kernel)
theorem nwX7_30 : NWd RX7 30 1 2 [.null, .int (iI 0)] := ⟨RX1, TX1, tyX1, rfl, luX1, tyX1_ok, tw_129, tw_130, tw_7, fun B b j hj => by
  match j, hj with
  | 0, _ => rfl
  | 1, _ => rfl
  | j + 2, hj => omega⟩
theorem tw_238 : Cond.classLink RL 13 "java/lang/IndexOutOfBoundsException" ∈ LT := LT_of 238 (by decide +kernel) (by decide +kernel)
theorem tw_239 : Cond.classLink RL 15 "java/lang/IllegalArgumentException" ∈ LT := LT_of 239 (by decide +kernel) (by decide +kernel)
theorem tw_240 : Cond.classLink RL 17 "java/lang/IllegalStateException" ∈ LT := LT_of 240 (by decide +kernel) (by decide +kernel)
theorem tw_259 : Cond.classLink RX7 193 "java/lang/IndexOutOfBoundsException" ∈ LT := LT_of 259 (by decide +kernel) (by decide +kernel)
theorem tw_333 : Cond.classLink RX7 62 "java/lang/IllegalArgumentException" ∈ LT := LT_of 333 (by decide +kernel) (by decide +kernel)
theorem tw_355 : Cond.classLink RX7 73 "java/lang/IllegalStateException" ∈ LT := LT_of 355 (by decide +kernel) (by decide +kernel)
theorem tw_649 : Cond.classLink RL 82 RX8 ∈ LT := LT_of 649 (by decide +kernel) (by decide +kernel)
theorem tw_650 : Cond.instantiable RX8 12 ∈ LT := LT_of 650 (by decide +kernel) (by decide +kernel)
theorem nwL_82 : NWd RL 82 7 12 [.int (iI 0), .null, .null, .int (iI 0), .null, .null, .null, .null, .null, .null, .null, .null] := ⟨RX8, TX8, tyX8, rfl, luX8, tyX8_ok, tw_649, tw_650, tw_8, fun B b j hj => by
  match j, hj with
  | 0, _ => rfl
  | 1, _ => rfl
  | 2, _ => rfl
  | 3, _ => rfl
  | 4, _ => rfl
  | 5, _ => rfl
  | 6, _ => rfl
  | 7, _ => rfl
  | 8, _ => rfl
  | 9, _ => rfl
  | 10, _ => rfl
  | 11, _ => rfl
  | j + 12, hj => omega⟩
theorem tw_179 : Cond.constantLong RX7 175 2791 ∈ LT := LT_of 179 (by decide +kernel) (by decide +kernel)
theorem tw_187 : Cond.constantLong RX7 216 31 ∈ LT := LT_of 187 (by decide +kernel) (by decide +kernel)
theorem tw_763 : Cond.constant RX8 91 1000000 ∈ LT := LT_of 763 (by decide +kernel) (by decide +kernel)
theorem tw_920 : Cond.constantLong RX8 159 2791 ∈ LT := LT_of 920 (by decide +kernel) (by decide +kernel)
theorem tw_924 : Cond.constantLong RX8 157 31 ∈ LT := LT_of 924 (by decide +kernel) (by decide +kernel)
theorem tw_52 : Cond.arrayClass .int ∈ LT := LT_of 52 (by decide +kernel) (by decide +kernel)
theorem ak_int : Cond.arrayClass .int ∈ LT := tw_52
theorem tw_692 : Cond.arrayClass .boolean ∈ LT := LT_of 692 (by decide +kernel) (by decide +kernel)
theorem ak_boolean : Cond.arrayClass .boolean ∈ LT := tw_692
theorem tw_925 : Cond.arrayClass .long ∈ LT := LT_of 925 (by decide +kernel) (by decide +kernel)
theorem ak_long : Cond.arrayClass .long ∈ LT := tw_925
theorem tw_926 : Cond.arrayClass .double ∈ LT := LT_of 926 (by decide +kernel) (by decide +kernel)
theorem ak_double : Cond.arrayClass .double ∈ LT := tw_926
theorem tw_12 : Cond.initialized "java/lang/IndexOutOfBoundsException" ∈ LT := LT_of 12 (by decide +kernel) (by decide +kernel)
theorem th_IO : THd 193 195 197 eIO "no such list or index" := ⟨by decide +kernel, tw_259, tw_12, by decide +kernel, by decide +kernel, fun w hw => List.mem_filter.mpr ⟨wsL_law_x2 w hw, (List.mem_filter.mp hw).2⟩, by decide +kernel, by decide +kernel⟩
theorem tw_13 : Cond.initialized "java/lang/IllegalArgumentException" ∈ LT := LT_of 13 (by decide +kernel) (by decide +kernel)
theorem th_IA1 : THd 62 198 66 eIA "out of range" := ⟨by decide +kernel, tw_333, tw_13, by decide +kernel, by decide +kernel, fun w hw => List.mem_filter.mpr ⟨wsL_law_x0 w hw, (List.mem_filter.mp hw).2⟩, by decide +kernel, by decide +kernel⟩
theorem th_IA2 : THd 62 64 66 eIA "not greater than the last document" := ⟨by decide +kernel, tw_333, tw_13, by decide +kernel, by decide +kernel, fun w hw => List.mem_filter.mpr ⟨wsL_law_x0 w hw, (List.mem_filter.mp hw).2⟩, by decide +kernel, by decide +kernel⟩
theorem tw_14 : Cond.initialized "java/lang/IllegalStateException" ∈ LT := LT_of 14 (by decide +kernel) (by decide +kernel)
theorem th_IS1 : THd 73 75 77 eIS "the list is full" := ⟨by decide +kernel, tw_355, tw_14, by decide +kernel, by decide +kernel, fun w hw => List.mem_filter.mpr ⟨wsL_law_x1 w hw, (List.mem_filter.mp hw).2⟩, by decide +kernel, by decide +kernel⟩
theorem th_IS2 : THd 73 142 77 eIS "the union is too long" := ⟨by decide +kernel, tw_355, tw_14, by decide +kernel, by decide +kernel, fun w hw => List.mem_filter.mpr ⟨wsL_law_x1 w hw, (List.mem_filter.mp hw).2⟩, by decide +kernel, by decide +kernel⟩
theorem th_IS3 : THd 73 170 77 eIS "no saved state" := ⟨by decide +kernel, tw_355, tw_14, by decide +kernel, by decide +kernel, fun w hw => List.mem_filter.mpr ⟨wsL_law_x1 w hw, (List.mem_filter.mp hw).2⟩, by decide +kernel, by decide +kernel⟩
end
section
/-! ===== more rows ===== -/
theorem g_drop {l : Launch} {X : State → Nat → Nat → Prop} {md : MD} {d mc ms : Nat} {post : Post} {k n pc : Nat} {al al2 : List (Option Value)} {st : List Value} {N : NB} {h : EHp} (i : Nat) (ha : al.set i none = al2) (kk : G l X md d mc ms post k n pc al2 st N h) : G l X md d mc ms post k n pc al st N h := by
  subst ha
  intro p e s m args below meth c D tc B b H locs ls Q hC hE hX hH hL hK hQ
  exact kk p e s m args below meth c D tc B b H locs ls Q hC hE hX hH hL.drop hK hQ
end
section
/-! ===== what the codes are: widths, sizes, kinds ===== -/
def lb (n u : Int) : Int := ((u / n).toNat.log2 : Int)
theorem p2_succ {w : Int} (h : 0 ≤ w) : (2 : Int) ^ (w + 1).toNat = 2 * 2 ^ w.toNat := by
  rw [show (w + 1).toNat = w.toNat + 1 by omega, Int.pow_succ]; omega
theorem p2_pos (k : Nat) : (0 : Int) < 2 ^ k := Int.pow_pos (by decide)
theorem p2_le {a b : Nat} (h : a ≤ b) : (2 : Int) ^ a ≤ 2 ^ b := by
  have := Nat.pow_le_pow_right (n := 2) (by decide) h
  exact_mod_cast this
theorem lb_uniq {n u w : Int} (hn : 1 ≤ n) (hu : n ≤ u) (hw : 0 ≤ w) (h1 : n * 2 ^ w.toNat ≤ u) (h2 : u < n * 2 ^ (w + 1).toNat) : w = lb n u := by
  obtain ⟨N, rfl⟩ := Int.eq_ofNat_of_zero_le (show 0 ≤ n by omega)
  obtain ⟨U, rfl⟩ := Int.eq_ofNat_of_zero_le (show 0 ≤ u by omega)
  obtain ⟨v, rfl⟩ := Int.eq_ofNat_of_zero_le hw
  have e1 : ((U : Int) / (N : Int)).toNat = U / N := by
    rw [← Int.natCast_ediv, Int.toNat_natCast]
  unfold lb
  rw [e1]
  have g1 : N * 2 ^ v ≤ U := by
    have : ((N * 2 ^ v : Nat) : Int) ≤ (U : Int) := by push_cast; simpa using h1
    omega
  have g2 : U < N * 2 ^ (v + 1) := by
    have e2 : ((v : Int) + 1).toNat = v + 1 := by omega
    rw [e2] at h2
    have : (U : Int) < ((N * 2 ^ (v + 1) : Nat) : Int) := by push_cast; exact h2
    omega
  have hN : 0 < N := by omega
  have q1 : 2 ^ v ≤ U / N := (Nat.le_div_iff_mul_le hN).mpr (by rw [Nat.mul_comm]; exact g1)
  have q2 : U / N < 2 ^ (v + 1) := (Nat.div_lt_iff_lt_mul hN).mpr (by rw [Nat.mul_comm]; exact g2)
  have q0 : U / N ≠ 0 := by
    have := Nat.pow_pos (n := v) (show 0 < 2 by decide)
    omega
  have a1 := (Nat.le_log2 q0).mpr q1
  have a2 := (Nat.log2_lt q0).mpr q2
  omega
theorem lb_spec {n u : Int} (hn : 1 ≤ n) (hu : n ≤ u) (h5 : u ≤ 512) : 0 ≤ lb n u ∧ lb n u ≤ 9 ∧ n * 2 ^ (lb n u).toNat ≤ u ∧ u < n * 2 ^ (lb n u + 1).toNat := by
  obtain ⟨N, rfl⟩ := Int.eq_ofNat_of_zero_le (show 0 ≤ n by omega)
  obtain ⟨U, rfl⟩ := Int.eq_ofNat_of_zero_le (show 0 ≤ u by omega)
  have hN : 0 < N := by omega
  have e1 : ((U : Int) / (N : Int)).toNat = U / N := by
    rw [← Int.natCast_ediv, Int.toNat_natCast]
  have q0 : U / N ≠ 0 := by
    have : 1 ≤ U / N := (Nat.le_div_iff_mul_le hN).mpr (by omega)
    omega
  have el : lb (N : Int) (U : Int) = ((U / N).log2 : Int) := by unfold lb; rw [e1]
  have a1 := (Nat.le_log2 q0).mp (Nat.le_refl _)
  have a2 := (Nat.log2_lt q0).mp (Nat.lt_succ_self _)
  have g1 : N * 2 ^ (U / N).log2 ≤ U := by rw [Nat.mul_comm]; exact (Nat.le_div_iff_mul_le hN).mp a1
  have g2 : U < N * 2 ^ ((U / N).log2 + 1) := by rw [Nat.mul_comm]; exact (Nat.div_lt_iff_lt_mul hN).mp a2
  have g3 : (U / N).log2 < 10 := (Nat.log2_lt q0).mpr (by
    have : U / N ≤ U := Nat.div_le_self _ _
    omega)
  refine ⟨by rw [el]; omega, by rw [el]; omega, ?_, ?_⟩
  · rw [el]
    have : ((N * 2 ^ (U / N).log2 : Nat) : Int) ≤ (U : Int) := by omega
    push_cast at this
    simpa using this
  · rw [el, show (((U / N).log2 : Int) + 1).toNat = (U / N).log2 + 1 by omega]
    have : (U : Int) < ((N * 2 ^ ((U / N).log2 + 1) : Nat) : Int) := by omega
    push_cast at this
    exact this
def hiL (n u w : Int) : Int := n + (u - 1) / 2 ^ w.toNat + 1
def ef (n u : Int) : Int := hiL n u (lb n u) + n * lb n u
def bs (n u : Int) : Int := if n = u then 26 else 26 + (if ef n u < u then ef n u else u)
def knd (n u : Int) : Int := if n = u then 0 else if bs n u < 26 + u then 2 else 1
theorem p2_512 {w : Int} (h0 : 0 ≤ w) (h9 : w ≤ 9) : (2 : Int) ^ w.toNat ≤ 512 := by
  have := p2_le (show w.toNat ≤ 9 by omega)
  simpa using this
theorem div2_nn {a w : Int} (ha : 0 ≤ a) : 0 ≤ a / 2 ^ w.toNat ∧ a / 2 ^ w.toNat ≤ a := by
  have := p2_pos w.toNat
  refine ⟨Int.ediv_nonneg ha (by omega), Int.ediv_le_self _ ha⟩
theorem ef_rng {n u : Int} (hn : 1 ≤ n) (hn6 : n ≤ 64) (hu : n ≤ u) (h5 : u ≤ 512) : 1 ≤ ef n u ∧ ef n u ≤ 2000 := by
  obtain ⟨a1, a2, a3, a4⟩ := lb_spec hn hu h5
  have := div2_nn (a := u - 1) (w := lb n u) (by omega)
  unfold ef hiL
  have h1 : 0 ≤ n * lb n u := Int.mul_nonneg (by omega) a1
  have h2 : n * lb n u ≤ 64 * 9 := Int.mul_le_mul hn6 a2 a1 (by omega)
  omega
theorem bs_rng {n u : Int} (hn : 1 ≤ n) (hn6 : n ≤ 64) (hu : n ≤ u) (h5 : u ≤ 512) : 26 ≤ bs n u ∧ bs n u ≤ 26 + u := by
  have := ef_rng hn hn6 hu h5
  unfold bs
  split
  · omega
  · split <;> omega
theorem knd_rng {n u : Int} : 0 ≤ knd n u ∧ knd n u ≤ 2 := by
  unfold knd
  split
  · omega
  · split <;> omega
end
section
/-! ===== Shape ===== -/
set_option maxRecDepth 4000 in
theorem t_X5_lowBits (l : Launch) (n u : Int) (hn : 1 ≤ n) (hn6 : n ≤ 64) (hu : n ≤ u) (h5 : u ≤ 512) (h : EHp) : CT l mX5_lowBits 0 0 0 [.int (iI (n)), .int (iI (u))] NN h (rP (.int (iI (lb n u))) h) := by
  refine CT.of (by decide) (Nat.le_of_ble_eq_true rfl) ?_
  refine g_al (al2 := [some (.int (iI (n))), some (.int (iI (u))), none]) rfl ?_
  refine g_iconst (q := 1) dX5_lowBits_0 rfl ?_
  refine g_istore_n (q := 2) (al2 := [some (.int (iI (n))), some (.int (iI (u))), some (.int (iI (0)))]) rfl (by decide) rfl rfl dX5_lowBits_1 rfl ?_
  refine loopG (σ := Int) (P := fun w => G l noX mX5_lowBits 0 0 0 (rP (.int (iI (lb n u))) h) 0 0 2 [some (.int (iI (n))), some (.int (iI (u))), some (.int (iI (w)))] [] NN h) (I := fun w => 0 ≤ w ∧ w ≤ 9 ∧ n * 2 ^ w.toNat ≤ u) (fun w => (9 - w).toNat) ?_ 0 ⟨by omega, by omega, by simpa using hu⟩
  intro w hI ih
  obtain ⟨i1, i2, i3⟩ := hI
  have e9 := p2_succ i1
  have e8 : n * 2 ^ (w + 1).toNat = 2 * (n * 2 ^ w.toNat) := by rw [e9, Int.mul_left_comm]
  have e6 : 0 ≤ n * 2 ^ w.toNat := Int.mul_nonneg (by omega) (Int.le_of_lt (p2_pos _))
  refine g_iload_n (q := 3) rfl rfl dX5_lowBits_2 rfl ?_
  refine g_bipush (q := 5) (by decide) dX5_lowBits_3 rfl ?_
  refine g_icmp_ge (t := 23) (q := 8) ⟨by omega, by omega⟩ ⟨by omega, by omega⟩ dX5_lowBits_5 rfl rfl (fun c5 => ?_) (fun c5 => ?_)
  · have e7 : w = lb n u := lb_uniq hn hu i1 i3 (by
      have : w = 9 := by omega
      subst this
      have : (2 : Int) ^ ((9 : Int) + 1).toNat = 1024 := by decide
      rw [this]; omega)
    rw [e7]
    refine g_iload_n (q := 24) rfl rfl dX5_lowBits_23 rfl ?_
    exact g_ireturn (fun z => NN_f z) (Nat.le_of_ble_eq_true rfl) (Nat.le_of_ble_eq_true rfl) dX5_lowBits_24 rfl rP_in
  · refine g_iload_n (q := 9) rfl rfl dX5_lowBits_8 rfl ?_
    refine g_iload_n (q := 10) rfl rfl dX5_lowBits_9 rfl ?_
    refine g_iconst (q := 11) dX5_lowBits_10 rfl ?_
    refine g_iadd (q := 12) dX5_lowBits_11 rfl ?_
    refine g_ishl (q := 13) (by omega) (by omega) (by omega) (by omega) dX5_lowBits_12 rfl ?_
    refine g_iload_n (q := 14) rfl rfl dX5_lowBits_13 rfl ?_
    refine g_icmp_gt (t := 23) (q := 17) ⟨by omega, by omega⟩ ⟨by omega, by omega⟩ dX5_lowBits_14 rfl rfl (fun c14 => ?_) (fun c14 => ?_)
    · have e7 : w = lb n u := lb_uniq hn hu i1 i3 (by omega)
      rw [e7]
      refine g_iload_n (q := 24) rfl rfl dX5_lowBits_23 rfl ?_
      exact g_ireturn (fun z => NN_f z) (Nat.le_of_ble_eq_true rfl) (Nat.le_of_ble_eq_true rfl) dX5_lowBits_24 rfl rP_in
    · refine g_iinc (q := 20) (al2 := [some (.int (iI (n))), some (.int (iI (u))), some (.int (iI (w + 1)))]) rfl (by decide) rfl rfl dX5_lowBits_17 rfl ?_
      refine g_goto (q := 2) dX5_lowBits_20 rfl ?_
      exact ih (w + 1) ⟨by omega, by omega, by omega⟩ (by omega)
set_option maxRecDepth 4000 in
theorem t_X5_highLength (l : Launch) (n u w : Int) (hn : 1 ≤ n) (hu : 1 ≤ u) (h5 : u ≤ 512) (hw : 0 ≤ w) (hw9 : w ≤ 9) (h : EHp) : CT l mX5_highLength 0 0 0 [.int (iI (n)), .int (iI (u)), .int (iI (w))] NN h (rP (.int (iI (hiL n u w))) h) := by
  refine CT.of (by decide) (Nat.le_of_ble_eq_true rfl) ?_
  refine g_al (al2 := [some (.int (iI (n))), some (.int (iI (u))), some (.int (iI (w)))]) rfl ?_
  refine g_iload_n (q := 1) rfl rfl dX5_highLength_0 rfl ?_
  refine g_iload_n (q := 2) rfl rfl dX5_highLength_1 rfl ?_
  refine g_iconst (q := 3) dX5_highLength_2 rfl ?_
  refine g_isub (q := 4) dX5_highLength_3 rfl ?_
  refine g_iload_n (q := 5) rfl rfl dX5_highLength_4 rfl ?_
  refine g_ishr (q := 6) (by omega) (by omega) (by omega) (by omega) dX5_highLength_5 rfl ?_
  refine g_iadd (q := 7) dX5_highLength_6 rfl ?_
  refine g_iconst (q := 8) dX5_highLength_7 rfl ?_
  refine g_iadd (q := 9) dX5_highLength_8 rfl ?_
  exact g_ireturn (fun z => NN_f z) (Nat.le_of_ble_eq_true rfl) (Nat.le_of_ble_eq_true rfl) dX5_highLength_9 rfl rP_in
set_option maxRecDepth 4000 in
theorem t_X5_bestSize (l : Launch) (n u : Int) (hn : 1 ≤ n) (hn6 : n ≤ 64) (hu : n ≤ u) (h5 : u ≤ 512) (h : EHp) : CT l mX5_bestSize 1 0 0 [.int (iI (n)), .int (iI (u))] NN h (rP (.int (iI (bs n u))) h) := by
  refine CT.of (by decide) (Nat.le_of_ble_eq_true rfl) ?_
  refine g_al (al2 := [some (.int (iI (n))), some (.int (iI (u))), none, none]) rfl ?_
  obtain ⟨a1, a2, a3, a4⟩ := lb_spec hn hu h5
  obtain ⟨b1, b2⟩ := ef_rng hn hn6 hu h5
  refine g_iload_n (q := 1) rfl rfl dX5_bestSize_0 rfl ?_
  refine g_iload_n (q := 2) rfl rfl dX5_bestSize_1 rfl ?_
  refine g_icmp_ne (t := 8) (q := 5) ⟨by omega, by omega⟩ ⟨by omega, by omega⟩ dX5_bestSize_2 rfl rfl (fun c2 => ?_) (fun c2 => ?_)
  · refine g_iload_n (q := 9) rfl rfl dX5_bestSize_8 rfl ?_
    refine g_iload_n (q := 10) rfl rfl dX5_bestSize_9 rfl ?_
    refine g_Sr (q := 13) (d' := 0) (av := [.int (iI (n)), .int (iI (u))]) (st := []) (v := .int (iI (lb n u))) ksX5_11 (t_X5_lowBits l n u hn hn6 hu h5 h) rfl (Nat.le_of_ble_eq_true rfl) ⟨(Nat.le_of_ble_eq_true rfl), (Nat.le_of_ble_eq_true rfl)⟩ ⟨(Nat.le_of_ble_eq_true rfl), (Nat.le_of_ble_eq_true rfl)⟩ rfl rfl dX5_bestSize_10 rfl ?_
    refine g_istore_n (q := 14) (al2 := [some (.int (iI (n))), some (.int (iI (u))), some (.int (iI (lb n u))), none]) rfl (by decide) rfl rfl dX5_bestSize_13 rfl ?_
    refine g_iload_n (q := 15) rfl rfl dX5_bestSize_14 rfl ?_
    refine g_iload_n (q := 16) rfl rfl dX5_bestSize_15 rfl ?_
    refine g_iload_n (q := 17) rfl rfl dX5_bestSize_16 rfl ?_
    refine g_Sr (q := 20) (d' := 0) (av := [.int (iI (n)), .int (iI (u)), .int (iI (lb n u))]) (st := []) (v := .int (iI (hiL n u (lb n u)))) ksX5_15 (t_X5_highLength l n u (lb n u) hn (by omega) h5 a1 a2 h) rfl (Nat.le_of_ble_eq_true rfl) ⟨(Nat.le_of_ble_eq_true rfl), (Nat.le_of_ble_eq_true rfl)⟩ ⟨(Nat.le_of_ble_eq_true rfl), (Nat.le_of_ble_eq_true rfl)⟩ rfl rfl dX5_bestSize_17 rfl ?_
    have e1 : hiL n u (lb n u) + n * lb n u = ef n u := rfl
    refine g_iload_n (q := 21) rfl rfl dX5_bestSize_20 rfl ?_
    refine g_iload_n (q := 22) rfl rfl dX5_bestSize_21 rfl ?_
    refine g_imul (q := 23) dX5_bestSize_22 rfl ?_
    refine g_iadd (q := 24) dX5_bestSize_23 rfl ?_
    refine g_istore_n (q := 25) (al2 := [some (.int (iI (n))), some (.int (iI (u))), some (.int (iI (lb n u))), some (.int (iI ((hiL n u (lb n u)) + (n * (lb n u)))))]) rfl (by decide) rfl rfl dX5_bestSize_24 rfl ?_
    refine g_bipush (q := 27) (by decide) dX5_bestSize_25 rfl ?_
    refine g_iload_n (q := 28) rfl rfl dX5_bestSize_27 rfl ?_
    refine g_iload_n (q := 29) rfl rfl dX5_bestSize_28 rfl ?_
    refine g_icmp_ge (t := 36) (q := 32) ⟨by omega, by omega⟩ ⟨by omega, by omega⟩ dX5_bestSize_29 rfl rfl (fun c29 => ?_) (fun c29 => ?_)
    · refine g_iload_n (q := 37) rfl rfl dX5_bestSize_36 rfl ?_
      refine g_iadd (q := 38) dX5_bestSize_37 rfl ?_
      have e2 : bs n u = 26 + u := by unfold bs; rw [if_neg c2, if_neg (by omega)]
      rw [e2]
      exact g_ireturn (fun z => NN_f z) (Nat.le_of_ble_eq_true rfl) (Nat.le_of_ble_eq_true rfl) dX5_bestSize_38 rfl rP_in
    · refine g_iload_n (q := 33) rfl rfl dX5_bestSize_32 rfl ?_
      refine g_goto (q := 37) dX5_bestSize_33 rfl ?_
      refine g_iadd (q := 38) dX5_bestSize_37 rfl ?_
      have e2 : bs n u = 26 + ef n u := by unfold bs; rw [if_neg c2, if_pos (by omega)]
      rw [e2]
      exact g_ireturn (fun z => NN_f z) (Nat.le_of_ble_eq_true rfl) (Nat.le_of_ble_eq_true rfl) dX5_bestSize_38 rfl rP_in
  · have e2 : bs n u = 26 := by unfold bs; rw [if_pos c2]
    rw [e2]
    refine g_bipush (q := 7) (by decide) dX5_bestSize_5 rfl ?_
    exact g_ireturn (fun z => NN_f z) (Nat.le_of_ble_eq_true rfl) (Nat.le_of_ble_eq_true rfl) dX5_bestSize_7 rfl rP_in
set_option maxRecDepth 4000 in
theorem t_X5_bestKind (l : Launch) (n u : Int) (hn : 1 ≤ n) (hn6 : n ≤ 64) (hu : n ≤ u) (h5 : u ≤ 512) (h : EHp) : CT l mX5_bestKind 0 0 0 [.int (iI (n)), .int (iI (u)), .int (iI (bs n u))] NN h (rP (.int (iI (knd n u))) h) := by
  refine CT.of (by decide) (Nat.le_of_ble_eq_true rfl) ?_
  refine g_al (al2 := [some (.int (iI (n))), some (.int (iI (u))), some (.int (iI (bs n u)))]) rfl ?_
  obtain ⟨b1, b2⟩ := bs_rng hn hn6 hu h5
  refine g_iload_n (q := 1) rfl rfl dX5_bestKind_0 rfl ?_
  refine g_iload_n (q := 2) rfl rfl dX5_bestKind_1 rfl ?_
  refine g_icmp_ne (t := 7) (q := 5) ⟨by omega, by omega⟩ ⟨by omega, by omega⟩ dX5_bestKind_2 rfl rfl (fun c2 => ?_) (fun c2 => ?_)
  · refine g_iload_n (q := 8) rfl rfl dX5_bestKind_7 rfl ?_
    refine g_bipush (q := 10) (by decide) dX5_bestKind_8 rfl ?_
    refine g_iload_n (q := 11) rfl rfl dX5_bestKind_10 rfl ?_
    refine g_iadd (q := 12) dX5_bestKind_11 rfl ?_
    refine g_icmp_ge (t := 19) (q := 15) ⟨by omega, by omega⟩ ⟨by omega, by omega⟩ dX5_bestKind_12 rfl rfl (fun c12 => ?_) (fun c12 => ?_)
    · refine g_iconst (q := 20) dX5_bestKind_19 rfl ?_
      have e2 : knd n u = 1 := by unfold knd; rw [if_neg c2, if_neg (by omega)]
      rw [e2]
      exact g_ireturn (fun z => NN_f z) (Nat.le_of_ble_eq_true rfl) (Nat.le_of_ble_eq_true rfl) dX5_bestKind_20 rfl rP_in
    · refine g_iconst (q := 16) dX5_bestKind_15 rfl ?_
      refine g_goto (q := 20) dX5_bestKind_16 rfl ?_
      have e2 : knd n u = 2 := by unfold knd; rw [if_neg c2, if_pos (by omega)]
      rw [e2]
      exact g_ireturn (fun z => NN_f z) (Nat.le_of_ble_eq_true rfl) (Nat.le_of_ble_eq_true rfl) dX5_bestKind_20 rfl rP_in
  · refine g_iconst (q := 6) dX5_bestKind_5 rfl ?_
    have e2 : knd n u = 0 := by unfold knd; rw [if_pos c2]
    rw [e2]
    exact g_ireturn (fun z => NN_f z) (Nat.le_of_ble_eq_true rfl) (Nat.le_of_ble_eq_true rfl) dX5_bestKind_6 rfl rP_in
end
section
/-! ===== lists of documents, as rows of numbers ===== -/
/-- the object of Postings numbered a: c documents ds, m partitions with their facts fa -/
def PA (h : EHp) (a : Nat) (c m : Int) (ds fa : Int → Int) : Prop := h a = cO 4 [.ref (a + 1), .int (iI c), .ref (a + 2), .int (iI m)] ∧ h (a + 1) = cI 64 ds ∧ h (a + 2) = cI 384 fa ∧ a + 2 < 103
/-- a list: at most 64 ascending documents from 0 to 511 -/
def LOk (c : Int) (ds : Int → Int) : Prop := 0 ≤ c ∧ c ≤ 64 ∧ (∀ i, 0 ≤ i → i < c → 0 ≤ ds i ∧ ds i ≤ 511) ∧ ∀ i j, 0 ≤ i → i < j → j < c → ds i < ds j
theorem LOk.gap {c : Int} {ds : Int → Int} (h : LOk c ds) : ∀ (k : Nat) (i : Int), 0 ≤ i → i + k < c → ds i + k ≤ ds (i + k) := by
  intro k
  induction k with
  | zero => intro i h0 h1; simp
  | succ k ih =>
    intro i h0 h1
    have h2 := ih i h0 (by omega)
    have h3 := h.2.2.2 (i + k) (i + (k + 1 : Nat)) (by omega) (by omega) (by omega)
    omega
theorem LOk.wid {c : Int} {ds : Int → Int} (h : LOk c ds) {s e : Int} (h0 : 0 ≤ s) (h1 : s < e) (h2 : e ≤ c) : e - s ≤ ds (e - 1) - ds s + 1 ∧ ds (e - 1) - ds s + 1 ≤ 512 := by
  have g := h.gap (e - 1 - s).toNat s h0 (by omega)
  have e1 : s + ((e - 1 - s).toNat : Int) = e - 1 := by omega
  rw [e1] at g
  have g1 := h.2.2.1 s h0 (by omega)
  have g2 := h.2.2.1 (e - 1) (by omega) (by omega)
  omega
/-- the document at an index, -1 where there is none -/
def dA (c : Int) (ds : Int → Int) (i : Int) : Int := if 0 ≤ i ∧ i < c then ds i else -1
theorem dA_in {c : Int} {ds : Int → Int} {i : Int} (h0 : 0 ≤ i) (h1 : i < c) : dA c ds i = ds i := if_pos ⟨h0, h1⟩
theorem dA_out {c : Int} {ds : Int → Int} {i : Int} (h : i < 0 ∨ c ≤ i) : dA c ds i = -1 := if_neg (by omega)
theorem dA_rng {c : Int} {ds : Int → Int} (h : LOk c ds) (i : Int) : -1 ≤ dA c ds i ∧ dA c ds i ≤ 511 := by
  unfold dA
  split
  · rename_i g
    have := h.2.2.1 i g.1 g.2
    omega
  · omega
/-- how many documents are less than x -/
def cbF (ds : Int → Int) (x : Int) : Nat → Int → Int
  | 0, b => b
  | n + 1, b => if ds b < x then cbF ds x n (b + 1) else b
def cb (c : Int) (ds : Int → Int) (x : Int) : Int := cbF ds x c.toNat 0
def IsCB (c : Int) (ds : Int → Int) (x b : Int) : Prop := 0 ≤ b ∧ b ≤ c ∧ (∀ i, 0 ≤ i → i < b → ds i < x) ∧ (b < c → x ≤ ds b)
theorem cbF_is (ds : Int → Int) (x : Int) : ∀ (n : Nat) (b : Int), 0 ≤ b → (∀ i, 0 ≤ i → i < b → ds i < x) → IsCB (b + n) ds x (cbF ds x n b) := by
  intro n
  induction n with
  | zero => intro b h0 h1; exact ⟨h0, by simp [cbF], h1, fun z => by simp [cbF] at z⟩
  | succ n ih =>
    intro b h0 h1
    unfold cbF
    split
    · rename_i g
      have := ih (b + 1) (by omega) (fun i i0 i1 => by
        by_cases e : i = b
        · rw [e]; exact g
        · exact h1 i i0 (by omega))
      rw [show b + 1 + (n : Int) = b + ((n + 1 : Nat) : Int) by omega] at this
      exact this
    · rename_i g
      exact ⟨h0, by omega, h1, fun _ => by omega⟩
theorem cb_is {c : Int} (ds : Int → Int) (x : Int) (hc : 0 ≤ c) : IsCB c ds x (cb c ds x) := by
  have := cbF_is ds x c.toNat 0 (by omega) (fun i h0 h1 => by omega)
  rw [show (0 : Int) + (c.toNat : Int) = c by omega] at this
  exact this
theorem IsCB.uniq {c : Int} {ds : Int → Int} {x b b' : Int} (h : IsCB c ds x b) (h' : IsCB c ds x b') : b = b' := by
  obtain ⟨a1, a2, a3, a4⟩ := h
  obtain ⟨b1, b2, b3, b4⟩ := h'
  rcases Int.lt_trichotomy b b' with g | g | g
  · have := b3 b a1 g
    have := a4 (by omega)
    omega
  · exact g
  · have := a3 b' b1 g
    have := b4 (by omega)
    omega
theorem cb_eq {c : Int} {ds : Int → Int} {x b : Int} (h : IsCB c ds x b) : b = cb c ds x := h.uniq (cb_is ds x (by have := h.1; have := h.2.1; omega))
/-- the size of the partition of the documents from s to ahead of e -/
def psz (ds : Int → Int) (s e : Int) : Int := bs (e - s) (ds (e - 1) - ds s + 1)
theorem psz_rng {c : Int} {ds : Int → Int} (h : LOk c ds) {s e : Int} (h0 : 0 ≤ s) (h1 : s < e) (h2 : e ≤ c) : 26 ≤ psz ds s e ∧ psz ds s e ≤ 538 := by
  have g := h.wid h0 h1 h2
  have := bs_rng (n := e - s) (u := ds (e - 1) - ds s + 1) (by omega) (by have := h.2.1; omega) g.1 g.2
  unfold psz
  omega
/-- partitions of n documents each, from s on -/
def flF (c : Int) (ds : Int → Int) (n : Int) : Nat → Int → Int
  | 0, _ => 0
  | k + 1, s => if s < c then psz ds s (if s + n < c then s + n else c) + flF c ds n k (s + n) else 0
def flen (c : Int) (ds : Int → Int) (n : Int) : Int := flF c ds n 64 0
/-- the sum of the first k partitions' sizes -/
def szS (fa : Int → Int) : Nat → Int
  | 0 => 0
  | k + 1 => szS fa k + fa ((k : Int) * 6 + 4)
end
section
/-! ===== Postings: what is read ===== -/
set_option maxRecDepth 4000 in
theorem t_X4_documentAt (l : Launch) (h : EHp) (a : Nat) (c m : Int) (ds fa : Int → Int) (hA : PA h a c m ds fa) (hO : LOk c ds) (i : Int) (hi : IR i) : CT l mX4_documentAt 0 0 0 [.ref (a), .int (iI (i))] NN h (rP (.int (iI (dA c ds i))) h) := by
  obtain ⟨hP, hD, hF, hlt⟩ := hA
  obtain ⟨o1, o2, o3, o4⟩ := id hO
  refine CT.of (by decide) (Nat.le_of_ble_eq_true rfl) ?_
  refine g_al (al2 := [some (.ref (a)), some (.int (iI (i)))]) rfl ?_
  refine g_iload_n (q := 1) rfl rfl dX4_documentAt_0 rfl ?_
  refine g_if_lt (t := 21) (q := 4) hi dX4_documentAt_1 rfl rfl (fun c1 => ?_) (fun c1 => ?_)
  · refine g_iconst (q := 22) dX4_documentAt_21 rfl ?_
    have e1 : dA c ds i = -1 := dA_out (by omega)
    rw [e1]
    exact g_ireturn (fun z => NN_f z) (Nat.le_of_ble_eq_true rfl) (Nat.le_of_ble_eq_true rfl) dX4_documentAt_22 rfl rP_in
  · refine g_iload_n (q := 5) rfl rfl dX4_documentAt_4 rfl ?_
    refine g_aload_n (q := 6) rfl rfl dX4_documentAt_5 rfl ?_
    refine g_get (q := 9) fX4_15r (by show _ < 103; omega) hP rfl dX4_documentAt_6 rfl ?_
    refine g_icmp_ge (t := 21) (q := 12) hi ⟨by omega, by omega⟩ dX4_documentAt_9 rfl rfl (fun c9 => ?_) (fun c9 => ?_)
    · refine g_iconst (q := 22) dX4_documentAt_21 rfl ?_
      have e1 : dA c ds i = -1 := dA_out (by omega)
      rw [e1]
      exact g_ireturn (fun z => NN_f z) (Nat.le_of_ble_eq_true rfl) (Nat.le_of_ble_eq_true rfl) dX4_documentAt_22 rfl rP_in
    · refine g_aload_n (q := 13) rfl rfl dX4_documentAt_12 rfl ?_
      refine g_get (q := 16) fX4_9r (by show _ < 103; omega) hP rfl dX4_documentAt_13 rfl ?_
      refine g_iload_n (q := 17) rfl rfl dX4_documentAt_16 rfl ?_
      refine g_iaload (q := 18) (by show _ < 103; omega) hD (by omega) (by omega) (by decide) dX4_documentAt_17 rfl ?_
      refine g_goto (q := 22) dX4_documentAt_18 rfl ?_
      have e1 : dA c ds i = ds i := dA_in (by omega) (by omega)
      rw [e1]
      exact g_ireturn (fun z => NN_f z) (Nat.le_of_ble_eq_true rfl) (Nat.le_of_ble_eq_true rfl) dX4_documentAt_22 rfl rP_in
set_option maxRecDepth 4000 in
theorem t_X4_lastDocument (l : Launch) (h : EHp) (a : Nat) (c m : Int) (ds fa : Int → Int) (hA : PA h a c m ds fa) (hO : LOk c ds) : CT l mX4_lastDocument 1 0 0 [.ref (a)] NN h (rP (.int (iI (dA c ds (c - 1)))) h) := by
  have hA0 := hA
  obtain ⟨hP, hD, hF, hlt⟩ := hA
  obtain ⟨o1, o2, o3, o4⟩ := id hO
  refine CT.of (by decide) (Nat.le_of_ble_eq_true rfl) ?_
  refine g_al (al2 := [some (.ref (a))]) rfl ?_
  refine g_aload_n (q := 1) rfl rfl dX4_lastDocument_0 rfl ?_
  refine g_aload_n (q := 2) rfl rfl dX4_lastDocument_1 rfl ?_
  refine g_get (q := 5) fX4_15r (by show _ < 103; omega) hP rfl dX4_lastDocument_2 rfl ?_
  refine g_iconst (q := 6) dX4_lastDocument_5 rfl ?_
  refine g_isub (q := 7) dX4_lastDocument_6 rfl ?_
  refine g_Vr (q := 10) (d' := 0) (i := a) (av := [.int (iI (c - 1))]) (st := []) (v := .int (iI (dA c ds (c - 1)))) kvX4_31 (t_X4_documentAt l h a c m ds fa hA0 hO (c - 1) ⟨by omega, by omega⟩) (by show _ < 103; omega) hP rfl (Nat.le_of_ble_eq_true rfl) ⟨(Nat.le_of_ble_eq_true rfl), (Nat.le_of_ble_eq_true rfl)⟩ ⟨(Nat.le_of_ble_eq_true rfl), (Nat.le_of_ble_eq_true rfl)⟩ rfl rfl dX4_lastDocument_7 rfl ?_
  exact g_ireturn (fun z => NN_f z) (Nat.le_of_ble_eq_true rfl) (Nat.le_of_ble_eq_true rfl) dX4_lastDocument_10 rfl rP_in
set_option maxRecDepth 4000 in
theorem t_X4_countBelow (l : Launch) (h : EHp) (a : Nat) (c m : Int) (ds fa : Int → Int) (hA : PA h a c m ds fa) (hO : LOk c ds) (x : Int) (hx : IR x) : CT l mX4_countBelow 0 0 0 [.ref (a), .int (iI (x))] NN h (rP (.int (iI (cb c ds x))) h) := by
  obtain ⟨hP, hD, hF, hlt⟩ := hA
  obtain ⟨o1, o2, o3, o4⟩ := id hO
  refine CT.of (by decide) (Nat.le_of_ble_eq_true rfl) ?_
  refine g_al (al2 := [some (.ref (a)), some (.int (iI (x))), none]) rfl ?_
  refine g_iconst (q := 1) dX4_countBelow_0 rfl ?_
  refine g_istore_n (q := 2) (al2 := [some (.ref (a)), some (.int (iI (x))), some (.int (iI (0)))]) rfl (by decide) rfl rfl dX4_countBelow_1 rfl ?_
  refine loopG (σ := Int) (P := fun b => G l noX mX4_countBelow 0 0 0 (rP (.int (iI (cb c ds x))) h) 0 0 2 [some (.ref (a)), some (.int (iI (x))), some (.int (iI (b)))] [] NN h) (I := fun b => 0 ≤ b ∧ b ≤ c ∧ ∀ i, 0 ≤ i → i < b → ds i < x) (fun b => (c - b).toNat) ?_ 0 ⟨by omega, by omega, fun i i0 i1 => by omega⟩
  intro b hI ih
  obtain ⟨i1, i2, i3⟩ := hI
  refine g_iload_n (q := 3) rfl rfl dX4_countBelow_2 rfl ?_
  refine g_aload_n (q := 4) rfl rfl dX4_countBelow_3 rfl ?_
  refine g_get (q := 7) fX4_15r (by show _ < 103; omega) hP rfl dX4_countBelow_4 rfl ?_
  refine g_icmp_ge (t := 26) (q := 10) ⟨by omega, by omega⟩ ⟨by omega, by omega⟩ dX4_countBelow_7 rfl rfl (fun c7 => ?_) (fun c7 => ?_)
  · have e1 : b = cb c ds x := cb_eq ⟨i1, i2, i3, fun z => by omega⟩
    rw [e1]
    refine g_iload_n (q := 27) rfl rfl dX4_countBelow_26 rfl ?_
    exact g_ireturn (fun z => NN_f z) (Nat.le_of_ble_eq_true rfl) (Nat.le_of_ble_eq_true rfl) dX4_countBelow_27 rfl rP_in
  · refine g_aload_n (q := 11) rfl rfl dX4_countBelow_10 rfl ?_
    refine g_get (q := 14) fX4_9r (by show _ < 103; omega) hP rfl dX4_countBelow_11 rfl ?_
    refine g_iload_n (q := 15) rfl rfl dX4_countBelow_14 rfl ?_
    refine g_iaload (q := 16) (by show _ < 103; omega) hD (by omega) (by omega) (by decide) dX4_countBelow_15 rfl ?_
    have q1 := o3 b (by omega) (by omega)
    refine g_iload_n (q := 17) rfl rfl dX4_countBelow_16 rfl ?_
    refine g_icmp_ge (t := 26) (q := 20) ⟨by omega, by omega⟩ hx dX4_countBelow_17 rfl rfl (fun c17 => ?_) (fun c17 => ?_)
    · have e1 : b = cb c ds x := cb_eq ⟨i1, i2, i3, fun z => by omega⟩
      rw [e1]
      refine g_iload_n (q := 27) rfl rfl dX4_countBelow_26 rfl ?_
      exact g_ireturn (fun z => NN_f z) (Nat.le_of_ble_eq_true rfl) (Nat.le_of_ble_eq_true rfl) dX4_countBelow_27 rfl rP_in
    · refine g_iinc (q := 23) (al2 := [some (.ref (a)), some (.int (iI (x))), some (.int (iI (b + 1)))]) rfl (by decide) rfl rfl dX4_countBelow_20 rfl ?_
      refine g_goto (q := 2) dX4_countBelow_23 rfl ?_
      exact ih (b + 1) ⟨by omega, by omega, fun i i0 i1 => by
        by_cases e : i = b
        · rw [e]; omega
        · exact i3 i i0 (by omega)⟩ (by omega)
set_option maxRecDepth 4000 in
theorem t_X4_widthBetween (l : Launch) (h : EHp) (a : Nat) (c m : Int) (ds fa : Int → Int) (hA : PA h a c m ds fa) (hO : LOk c ds) (s e : Int) (h0 : 0 ≤ s) (h1 : s < e) (h2 : e ≤ c) : CT l mX4_widthBetween 1 0 0 [.ref (a), .int (iI (s)), .int (iI (e))] NN h (rP (.int (iI (ds (e - 1) - ds s + 1))) h) := by
  have hA0 := hA
  obtain ⟨hP, hD, hF, hlt⟩ := hA
  obtain ⟨o1, o2, o3, o4⟩ := id hO
  have q1 := dA_in (ds := ds) (show 0 ≤ e - 1 by omega) (show e - 1 < c by omega)
  have q2 := dA_in (ds := ds) h0 (show s < c by omega)
  refine CT.of (by decide) (Nat.le_of_ble_eq_true rfl) ?_
  refine g_al (al2 := [some (.ref (a)), some (.int (iI (s))), some (.int (iI (e)))]) rfl ?_
  refine g_aload_n (q := 1) rfl rfl dX4_widthBetween_0 rfl ?_
  refine g_iload_n (q := 2) rfl rfl dX4_widthBetween_1 rfl ?_
  refine g_iconst (q := 3) dX4_widthBetween_2 rfl ?_
  refine g_isub (q := 4) dX4_widthBetween_3 rfl ?_
  refine g_Vr (q := 7) (d' := 0) (i := a) (av := [.int (iI (e - 1))]) (st := []) (v := .int (iI (ds (e - 1)))) kvX4_31 (by have := t_X4_documentAt l h a c m ds fa hA0 hO (e - 1) ⟨by omega, by omega⟩; rw [q1] at this; exact this) (by show _ < 103; omega) hP rfl (Nat.le_of_ble_eq_true rfl) ⟨(Nat.le_of_ble_eq_true rfl), (Nat.le_of_ble_eq_true rfl)⟩ ⟨(Nat.le_of_ble_eq_true rfl), (Nat.le_of_ble_eq_true rfl)⟩ rfl rfl dX4_widthBetween_4 rfl ?_
  refine g_aload_n (q := 8) rfl rfl dX4_widthBetween_7 rfl ?_
  refine g_iload_n (q := 9) rfl rfl dX4_widthBetween_8 rfl ?_
  refine g_Vr (q := 12) (d' := 0) (i := a) (av := [.int (iI (s))]) (st := [.int (iI (ds (e - 1)))]) (v := .int (iI (ds s))) kvX4_31 (by have := t_X4_documentAt l h a c m ds fa hA0 hO s ⟨by omega, by omega⟩; rw [q2] at this; exact this) (by show _ < 103; omega) hP rfl (Nat.le_of_ble_eq_true rfl) ⟨(Nat.le_of_ble_eq_true rfl), (Nat.le_of_ble_eq_true rfl)⟩ ⟨(Nat.le_of_ble_eq_true rfl), (Nat.le_of_ble_eq_true rfl)⟩ rfl rfl dX4_widthBetween_9 rfl ?_
  refine g_isub (q := 13) dX4_widthBetween_12 rfl ?_
  refine g_iconst (q := 14) dX4_widthBetween_13 rfl ?_
  refine g_iadd (q := 15) dX4_widthBetween_14 rfl ?_
  exact g_ireturn (fun z => NN_f z) (Nat.le_of_ble_eq_true rfl) (Nat.le_of_ble_eq_true rfl) dX4_widthBetween_15 rfl rP_in
set_option maxRecDepth 4000 in
theorem t_X4_factOf (l : Launch) (h : EHp) (a : Nat) (c m : Int) (ds fa : Int → Int) (hA : PA h a c m ds fa) (j t : Int) (h0 : 0 ≤ j) (h1 : j < 64) (h2 : 0 ≤ t) (h3 : t < 6) : CT l mX4_factOf 0 0 0 [.ref (a), .int (iI (j)), .int (iI (t))] NN h (rP (.int (iI (fa (j * 6 + t)))) h) := by
  obtain ⟨hP, hD, hF, hlt⟩ := hA
  refine CT.of (by decide) (Nat.le_of_ble_eq_true rfl) ?_
  refine g_al (al2 := [some (.ref (a)), some (.int (iI (j))), some (.int (iI (t)))]) rfl ?_
  refine g_aload_n (q := 1) rfl rfl dX4_factOf_0 rfl ?_
  refine g_get (q := 4) fX4_19r (by show _ < 103; omega) hP rfl dX4_factOf_1 rfl ?_
  refine g_iload_n (q := 5) rfl rfl dX4_factOf_4 rfl ?_
  refine g_bipush (q := 7) (by decide) dX4_factOf_5 rfl ?_
  refine g_imul (q := 8) dX4_factOf_7 rfl ?_
  refine g_iload_n (q := 9) rfl rfl dX4_factOf_8 rfl ?_
  refine g_iadd (q := 10) dX4_factOf_9 rfl ?_
  refine g_iaload (q := 11) (by show _ < 103; omega) hF (by omega) (by omega) (by decide) dX4_factOf_10 rfl ?_
  exact g_ireturn (fun z => NN_f z) (Nat.le_of_ble_eq_true rfl) (Nat.le_of_ble_eq_true rfl) dX4_factOf_11 rfl rP_in
set_option maxRecDepth 4000 in
theorem t_X4_widthOf (l : Launch) (h : EHp) (a : Nat) (c m : Int) (ds fa : Int → Int) (hA : PA h a c m ds fa) (j : Int) (h0 : 0 ≤ j) (h1 : j < 64) : CT l mX4_widthOf 1 0 0 [.ref (a), .int (iI (j))] NN h (rP (.int (iI (fa (j * 6 + 3) - fa (j * 6 + 2) + 1))) h) := by
  have hA0 := hA
  obtain ⟨hP, hD, hF, hlt⟩ := hA
  refine CT.of (by decide) (Nat.le_of_ble_eq_true rfl) ?_
  refine g_al (al2 := [some (.ref (a)), some (.int (iI (j)))]) rfl ?_
  refine g_aload_n (q := 1) rfl rfl dX4_widthOf_0 rfl ?_
  refine g_iload_n (q := 2) rfl rfl dX4_widthOf_1 rfl ?_
  refine g_iconst (q := 3) dX4_widthOf_2 rfl ?_
  refine g_Vr (q := 6) (d' := 0) (i := a) (av := [.int (iI (j)), .int (iI (3))]) (st := []) (v := .int (iI (fa (j * 6 + 3)))) kvX4_44 (t_X4_factOf l h a c m ds fa hA0 j 3 h0 h1 (by decide) (by decide)) (by show _ < 103; omega) hP rfl (Nat.le_of_ble_eq_true rfl) ⟨(Nat.le_of_ble_eq_true rfl), (Nat.le_of_ble_eq_true rfl)⟩ ⟨(Nat.le_of_ble_eq_true rfl), (Nat.le_of_ble_eq_true rfl)⟩ rfl rfl dX4_widthOf_3 rfl ?_
  refine g_aload_n (q := 7) rfl rfl dX4_widthOf_6 rfl ?_
  refine g_iload_n (q := 8) rfl rfl dX4_widthOf_7 rfl ?_
  refine g_iconst (q := 9) dX4_widthOf_8 rfl ?_
  refine g_Vr (q := 12) (d' := 0) (i := a) (av := [.int (iI (j)), .int (iI (2))]) (st := [.int (iI (fa (j * 6 + 3)))]) (v := .int (iI (fa (j * 6 + 2)))) kvX4_44 (t_X4_factOf l h a c m ds fa hA0 j 2 h0 h1 (by decide) (by decide)) (by show _ < 103; omega) hP rfl (Nat.le_of_ble_eq_true rfl) ⟨(Nat.le_of_ble_eq_true rfl), (Nat.le_of_ble_eq_true rfl)⟩ ⟨(Nat.le_of_ble_eq_true rfl), (Nat.le_of_ble_eq_true rfl)⟩ rfl rfl dX4_widthOf_9 rfl ?_
  refine g_isub (q := 13) dX4_widthOf_12 rfl ?_
  refine g_iconst (q := 14) dX4_widthOf_13 rfl ?_
  refine g_iadd (q := 15) dX4_widthOf_14 rfl ?_
  exact g_ireturn (fun z => NN_f z) (Nat.le_of_ble_eq_true rfl) (Nat.le_of_ble_eq_true rfl) dX4_widthOf_15 rfl rP_in
set_option maxRecDepth 4000 in
theorem t_X4_codeSize (l : Launch) (h : EHp) (a : Nat) (c : Int) (m : Nat) (ds fa : Int → Int) (hA : PA h a c m ds fa) (hm : m ≤ 64) : CT l mX4_codeSize 1 0 0 [.ref (a)] NN h (rP (.int (iI (szS fa m))) h) := by
  have hA0 := hA
  obtain ⟨hP, hD, hF, hlt⟩ := hA
  refine CT.of (by decide) (Nat.le_of_ble_eq_true rfl) ?_
  refine g_al (al2 := [some (.ref (a)), none, none]) rfl ?_
  refine g_iconst (q := 1) dX4_codeSize_0 rfl ?_
  refine g_istore_n (q := 2) (al2 := [some (.ref (a)), some (.int (iI (0))), none]) rfl (by decide) rfl rfl dX4_codeSize_1 rfl ?_
  refine g_iconst (q := 3) dX4_codeSize_2 rfl ?_
  refine g_istore_n (q := 4) (al2 := [some (.ref (a)), some (.int (iI (0))), some (.int (iI (0)))]) rfl (by decide) rfl rfl dX4_codeSize_3 rfl ?_
  refine loopG (σ := Nat) (P := fun b => G l noX mX4_codeSize 1 0 0 (rP (.int (iI (szS fa m))) h) 0 0 4 [some (.ref (a)), some (.int (iI (szS fa b))), some (.int (iI ((b : Nat))))] [] NN h) (I := fun b => b ≤ m) (fun b => m - b) ?_ 0 (Nat.zero_le _)
  intro b hI ih
  refine g_iload_n (q := 5) rfl rfl dX4_codeSize_4 rfl ?_
  refine g_aload_n (q := 6) rfl rfl dX4_codeSize_5 rfl ?_
  refine g_get (q := 9) fX4_22r (by show _ < 103; omega) hP rfl dX4_codeSize_6 rfl ?_
  refine g_icmp_ge (t := 27) (q := 12) ⟨by omega, by omega⟩ ⟨by omega, by omega⟩ dX4_codeSize_9 rfl rfl (fun c9 => ?_) (fun c9 => ?_)
  · have e1 : b = m := by omega
    subst e1
    refine g_iload_n (q := 28) rfl rfl dX4_codeSize_27 rfl ?_
    exact g_ireturn (fun z => NN_f z) (Nat.le_of_ble_eq_true rfl) (Nat.le_of_ble_eq_true rfl) dX4_codeSize_28 rfl rP_in
  · refine g_iload_n (q := 13) rfl rfl dX4_codeSize_12 rfl ?_
    refine g_aload_n (q := 14) rfl rfl dX4_codeSize_13 rfl ?_
    refine g_iload_n (q := 15) rfl rfl dX4_codeSize_14 rfl ?_
    refine g_iconst (q := 16) dX4_codeSize_15 rfl ?_
    refine g_Vr (q := 19) (d' := 0) (i := a) (av := [.int (iI ((b : Nat))), .int (iI (4))]) (st := [.int (iI (szS fa b))]) (v := .int (iI (fa ((b : Int) * 6 + 4)))) kvX4_44 (t_X4_factOf l h a c m ds fa hA0 (b : Int) 4 (by omega) (by omega) (by decide) (by decide)) (by show _ < 103; omega) hP rfl (Nat.le_of_ble_eq_true rfl) ⟨(Nat.le_of_ble_eq_true rfl), (Nat.le_of_ble_eq_true rfl)⟩ ⟨(Nat.le_of_ble_eq_true rfl), (Nat.le_of_ble_eq_true rfl)⟩ rfl rfl dX4_codeSize_16 rfl ?_
    refine g_iadd (q := 20) dX4_codeSize_19 rfl ?_
    refine g_istore_n (q := 21) (al2 := [some (.ref (a)), some (.int (iI ((szS fa b) + (fa ((b : Int) * 6 + 4))))), some (.int (iI ((b : Nat))))]) rfl (by decide) rfl rfl dX4_codeSize_20 rfl ?_
    refine g_iinc (q := 24) (al2 := [some (.ref (a)), some (.int (iI ((szS fa b) + (fa ((b : Int) * 6 + 4))))), some (.int (iI (((b : Nat)) + 1)))]) rfl (by decide) rfl rfl dX4_codeSize_21 rfl ?_
    refine g_goto (q := 4) dX4_codeSize_24 rfl ?_
    exact ih (b + 1) (show b + 1 ≤ m by omega) (by omega)
set_option maxRecDepth 4000 in
theorem t_X4_sizeInParts (l : Launch) (h : EHp) (a : Nat) (c m : Int) (ds fa : Int → Int) (hA : PA h a c m ds fa) (hO : LOk c ds) (n : Int) (h0 : 1 ≤ n) (h1 : n ≤ 64) : CT l mX4_sizeInParts 2 0 0 [.ref (a), .int (iI (n))] NN h (rP (.int (iI (flen c ds n))) h) := by
  have hA0 := hA
  obtain ⟨hP, hD, hF, hlt⟩ := hA
  obtain ⟨o1, o2, o3, o4⟩ := id hO
  refine CT.of (by decide) (Nat.le_of_ble_eq_true rfl) ?_
  refine g_al (al2 := [some (.ref (a)), some (.int (iI (n))), none, none, none, none]) rfl ?_
  refine g_iconst (q := 1) dX4_sizeInParts_0 rfl ?_
  refine g_istore_n (q := 2) (al2 := [some (.ref (a)), some (.int (iI (n))), some (.int (iI (0))), none, none, none]) rfl (by decide) rfl rfl dX4_sizeInParts_1 rfl ?_
  refine g_iconst (q := 3) dX4_sizeInParts_2 rfl ?_
  refine g_istore_n (q := 4) (al2 := [some (.ref (a)), some (.int (iI (n))), some (.int (iI (0))), some (.int (iI (0))), none, none]) rfl (by decide) rfl rfl dX4_sizeInParts_3 rfl ?_
  refine loopG (σ := Nat × Int) (P := fun zz => match zz with | (b, sm) => G l noX mX4_sizeInParts 2 0 0 (rP (.int (iI (flen c ds n))) h) 0 0 4 [some (.ref (a)), some (.int (iI (n))), some (.int (iI (sm))), some (.int (iI ((b : Nat)))), none, none] [] NN h) (I := fun zz => match zz with | (b, sm) => b ≤ 64 ∧ ((b : Int) * n < c ∨ flF c ds n (64 - b) (b * n) = 0 ∨ True) ∧ sm + flF c ds n (64 - b) (b * n) = flen c ds n) (fun zz => match zz with | (b, sm) => 64 - b) ?_ (0, 0) ⟨by decide, Or.inr (Or.inr trivial), by simp [flen]⟩
  rintro ⟨b, sm⟩ hI ih
  obtain ⟨i1, -, i3⟩ := hI
  have p0 : (0 : Int) ≤ b * n := Int.mul_nonneg (by omega) (by omega)
  have p1 : (b : Int) * n ≤ 64 * 64 := Int.mul_le_mul (by omega) h1 (by omega) (by omega)
  refine g_iload_n (q := 5) rfl rfl dX4_sizeInParts_4 rfl ?_
  refine g_bipush (q := 7) (by decide) dX4_sizeInParts_5 rfl ?_
  refine g_icmp_ge (t := 74) (q := 10) ⟨by omega, by omega⟩ ⟨by omega, by omega⟩ dX4_sizeInParts_7 rfl rfl (fun c7 => ?_) (fun c7 => ?_)
  · have e1 : b = 64 := by omega
    subst e1
    have e2 : sm = flen c ds n := by simpa [flF] using i3
    rw [e2]
    refine g_iload_n (q := 75) rfl rfl dX4_sizeInParts_74 rfl ?_
    exact g_ireturn (fun z => NN_f z) (Nat.le_of_ble_eq_true rfl) (Nat.le_of_ble_eq_true rfl) dX4_sizeInParts_75 rfl rP_in
  · refine g_iload_n (q := 11) rfl rfl dX4_sizeInParts_10 rfl ?_
    refine g_iload_n (q := 12) rfl rfl dX4_sizeInParts_11 rfl ?_
    refine g_imul (q := 13) dX4_sizeInParts_12 rfl ?_
    refine g_aload_n (q := 14) rfl rfl dX4_sizeInParts_13 rfl ?_
    refine g_get (q := 17) fX4_15r (by show _ < 103; omega) hP rfl dX4_sizeInParts_14 rfl ?_
    refine g_icmp_ge (t := 74) (q := 20) ⟨by omega, by omega⟩ ⟨by omega, by omega⟩ dX4_sizeInParts_17 rfl rfl (fun c17 => ?_) (fun c17 => ?_)
    · have e2 : sm = flen c ds n := by
        rw [show 64 - b = (63 - b) + 1 by omega] at i3
        unfold flF at i3
        rw [if_neg (by omega)] at i3
        omega
      rw [e2]
      refine g_iload_n (q := 75) rfl rfl dX4_sizeInParts_74 rfl ?_
      exact g_ireturn (fun z => NN_f z) (Nat.le_of_ble_eq_true rfl) (Nat.le_of_ble_eq_true rfl) dX4_sizeInParts_75 rfl rP_in
    · refine g_iload_n (q := 21) rfl rfl dX4_sizeInParts_20 rfl ?_
      refine g_iload_n (q := 22) rfl rfl dX4_sizeInParts_21 rfl ?_
      refine g_imul (q := 23) dX4_sizeInParts_22 rfl ?_
      refine g_istore (q := 25) (al2 := [some (.ref (a)), some (.int (iI (n))), some (.int (iI (sm))), some (.int (iI ((b : Nat)))), some (.int (iI (((b : Nat)) * n))), none]) (by decide) rfl rfl dX4_sizeInParts_23 rfl ?_
      refine g_iload (q := 27) rfl dX4_sizeInParts_25 rfl ?_
      refine g_iload_n (q := 28) rfl rfl dX4_sizeInParts_27 rfl ?_
      refine g_iadd (q := 29) dX4_sizeInParts_28 rfl ?_
      refine g_aload_n (q := 30) rfl rfl dX4_sizeInParts_29 rfl ?_
      refine g_get (q := 33) fX4_15r (by show _ < 103; omega) hP rfl dX4_sizeInParts_30 rfl ?_
      refine g_icmp_ge (t := 43) (q := 36) ⟨by omega, by omega⟩ ⟨by omega, by omega⟩ dX4_sizeInParts_33 rfl rfl (fun c33 => ?_) (fun c33 => ?_)
      · refine g_aload_n (q := 44) rfl rfl dX4_sizeInParts_43 rfl ?_
        refine g_get (q := 47) fX4_15r (by show _ < 103; omega) hP rfl dX4_sizeInParts_44 rfl ?_
        refine g_istore (q := 49) (al2 := [some (.ref (a)), some (.int (iI (n))), some (.int (iI (sm))), some (.int (iI ((b : Nat)))), some (.int (iI (((b : Nat)) * n))), some (.int (iI (c)))]) (by decide) rfl rfl dX4_sizeInParts_47 rfl ?_
        refine g_iload_n (q := 50) rfl rfl dX4_sizeInParts_49 rfl ?_
        refine g_iload (q := 52) rfl dX4_sizeInParts_50 rfl ?_
        refine g_iload (q := 54) rfl dX4_sizeInParts_52 rfl ?_
        refine g_isub (q := 55) dX4_sizeInParts_54 rfl ?_
        refine g_aload_n (q := 56) rfl rfl dX4_sizeInParts_55 rfl ?_
        refine g_iload (q := 58) rfl dX4_sizeInParts_56 rfl ?_
        refine g_iload (q := 60) rfl dX4_sizeInParts_58 rfl ?_
        have g0 : (b : Int) * n < c := by omega
        have g1 : c ≤ c := by omega
        have g2 := hO.wid p0 g0 g1
        refine g_Vr (q := 63) (d' := 1) (i := a) (av := [.int (iI (((b : Nat)) * n)), .int (iI (c))]) (st := [.int (iI (c - (((b : Nat)) * n))), .int (iI (sm))]) (v := .int (iI (ds (c - 1) - ds ((b : Int) * n) + 1))) kvX4_35 (t_X4_widthBetween l h a c m ds fa hA0 hO ((b : Int) * n) (c) p0 g0 g1) (by show _ < 103; omega) hP rfl (Nat.le_of_ble_eq_true rfl) ⟨(Nat.le_of_ble_eq_true rfl), (Nat.le_of_ble_eq_true rfl)⟩ ⟨(Nat.le_of_ble_eq_true rfl), (Nat.le_of_ble_eq_true rfl)⟩ rfl rfl dX4_sizeInParts_60 rfl ?_
        refine g_Sr (q := 66) (d' := 1) (av := [.int (iI (c - (((b : Nat)) * n))), .int (iI (ds (c - 1) - ds ((b : Int) * n) + 1))]) (st := [.int (iI (sm))]) (v := .int (iI (psz ds ((b : Int) * n) (c)))) ksX4_39 (t_X5_bestSize l ((c) - (b : Int) * n) (ds (c - 1) - ds ((b : Int) * n) + 1) (by omega) (by omega) g2.1 g2.2 h) rfl (Nat.le_of_ble_eq_true rfl) ⟨(Nat.le_of_ble_eq_true rfl), (Nat.le_of_ble_eq_true rfl)⟩ ⟨(Nat.le_of_ble_eq_true rfl), (Nat.le_of_ble_eq_true rfl)⟩ rfl rfl dX4_sizeInParts_63 rfl ?_
        refine g_iadd (q := 67) dX4_sizeInParts_66 rfl ?_
        refine g_istore_n (q := 68) (al2 := [some (.ref (a)), some (.int (iI (n))), some (.int (iI (sm + (psz ds ((b : Int) * n) (c))))), some (.int (iI ((b : Nat)))), some (.int (iI (((b : Nat)) * n))), some (.int (iI (c)))]) rfl (by decide) rfl rfl dX4_sizeInParts_67 rfl ?_
        refine g_iinc (q := 71) (al2 := [some (.ref (a)), some (.int (iI (n))), some (.int (iI (sm + (psz ds ((b : Int) * n) (c))))), some (.int (iI (((b : Nat)) + 1))), some (.int (iI (((b : Nat)) * n))), some (.int (iI (c)))]) rfl (by decide) rfl rfl dX4_sizeInParts_68 rfl ?_
        refine g_goto (q := 4) dX4_sizeInParts_71 rfl ?_
        refine g_drop (al2 := [some (.ref (a)), some (.int (iI (n))), some (.int (iI (sm + (psz ds ((b : Int) * n) (c))))), some (.int (iI (((b : Nat)) + 1))), none, some (.int (iI (c)))]) 4 rfl ?_
        refine g_drop (al2 := [some (.ref (a)), some (.int (iI (n))), some (.int (iI (sm + (psz ds ((b : Int) * n) (c))))), some (.int (iI (((b : Nat)) + 1))), none, none]) 5 rfl ?_
        exact ih (b + 1, sm + psz ds ((b : Int) * n) (c)) ⟨show b + 1 ≤ 64 by omega, Or.inr (Or.inr trivial), by
          rw [show 64 - b = (64 - (b + 1)) + 1 by omega] at i3
          unfold flF at i3
          rw [if_pos (by omega), if_neg (by omega)] at i3
          rw [show (((b + 1 : Nat) : Int)) * n = (b : Int) * n + n by rw [Int.natCast_add, Int.add_mul]; simp]
          omega⟩ (show 64 - (b + 1) < 64 - b by omega)
      · refine g_iload (q := 38) rfl dX4_sizeInParts_36 rfl ?_
        refine g_iload_n (q := 39) rfl rfl dX4_sizeInParts_38 rfl ?_
        refine g_iadd (q := 40) dX4_sizeInParts_39 rfl ?_
        refine g_goto (q := 47) dX4_sizeInParts_40 rfl ?_
        refine g_istore (q := 49) (al2 := [some (.ref (a)), some (.int (iI (n))), some (.int (iI (sm))), some (.int (iI ((b : Nat)))), some (.int (iI (((b : Nat)) * n))), some (.int (iI ((((b : Nat)) * n) + n)))]) (by decide) rfl rfl dX4_sizeInParts_47 rfl ?_
        refine g_iload_n (q := 50) rfl rfl dX4_sizeInParts_49 rfl ?_
        refine g_iload (q := 52) rfl dX4_sizeInParts_50 rfl ?_
        refine g_iload (q := 54) rfl dX4_sizeInParts_52 rfl ?_
        refine g_isub (q := 55) dX4_sizeInParts_54 rfl ?_
        refine g_aload_n (q := 56) rfl rfl dX4_sizeInParts_55 rfl ?_
        refine g_iload (q := 58) rfl dX4_sizeInParts_56 rfl ?_
        refine g_iload (q := 60) rfl dX4_sizeInParts_58 rfl ?_
        have g0 : (b : Int) * n < (b : Int) * n + n := by omega
        have g1 : (b : Int) * n + n ≤ c := by omega
        have g2 := hO.wid p0 g0 g1
        refine g_Vr (q := 63) (d' := 1) (i := a) (av := [.int (iI (((b : Nat)) * n)), .int (iI ((((b : Nat)) * n) + n))]) (st := [.int (iI (((((b : Nat)) * n) + n) - (((b : Nat)) * n))), .int (iI (sm))]) (v := .int (iI (ds ((b : Int) * n + n - 1) - ds ((b : Int) * n) + 1))) kvX4_35 (t_X4_widthBetween l h a c m ds fa hA0 hO ((b : Int) * n) ((b : Int) * n + n) p0 g0 g1) (by show _ < 103; omega) hP rfl (Nat.le_of_ble_eq_true rfl) ⟨(Nat.le_of_ble_eq_true rfl), (Nat.le_of_ble_eq_true rfl)⟩ ⟨(Nat.le_of_ble_eq_true rfl), (Nat.le_of_ble_eq_true rfl)⟩ rfl rfl dX4_sizeInParts_60 rfl ?_
        refine g_Sr (q := 66) (d' := 1) (av := [.int (iI (((((b : Nat)) * n) + n) - (((b : Nat)) * n))), .int (iI (ds ((b : Int) * n + n - 1) - ds ((b : Int) * n) + 1))]) (st := [.int (iI (sm))]) (v := .int (iI (psz ds ((b : Int) * n) ((b : Int) * n + n)))) ksX4_39 (t_X5_bestSize l (((b : Int) * n + n) - (b : Int) * n) (ds ((b : Int) * n + n - 1) - ds ((b : Int) * n) + 1) (by omega) (by omega) g2.1 g2.2 h) rfl (Nat.le_of_ble_eq_true rfl) ⟨(Nat.le_of_ble_eq_true rfl), (Nat.le_of_ble_eq_true rfl)⟩ ⟨(Nat.le_of_ble_eq_true rfl), (Nat.le_of_ble_eq_true rfl)⟩ rfl rfl dX4_sizeInParts_63 rfl ?_
        refine g_iadd (q := 67) dX4_sizeInParts_66 rfl ?_
        refine g_istore_n (q := 68) (al2 := [some (.ref (a)), some (.int (iI (n))), some (.int (iI (sm + (psz ds ((b : Int) * n) ((b : Int) * n + n))))), some (.int (iI ((b : Nat)))), some (.int (iI (((b : Nat)) * n))), some (.int (iI ((((b : Nat)) * n) + n)))]) rfl (by decide) rfl rfl dX4_sizeInParts_67 rfl ?_
        refine g_iinc (q := 71) (al2 := [some (.ref (a)), some (.int (iI (n))), some (.int (iI (sm + (psz ds ((b : Int) * n) ((b : Int) * n + n))))), some (.int (iI (((b : Nat)) + 1))), some (.int (iI (((b : Nat)) * n))), some (.int (iI ((((b : Nat)) * n) + n)))]) rfl (by decide) rfl rfl dX4_sizeInParts_68 rfl ?_
        refine g_goto (q := 4) dX4_sizeInParts_71 rfl ?_
        refine g_drop (al2 := [some (.ref (a)), some (.int (iI (n))), some (.int (iI (sm + (psz ds ((b : Int) * n) ((b : Int) * n + n))))), some (.int (iI (((b : Nat)) + 1))), none, some (.int (iI ((((b : Nat)) * n) + n)))]) 4 rfl ?_
        refine g_drop (al2 := [some (.ref (a)), some (.int (iI (n))), some (.int (iI (sm + (psz ds ((b : Int) * n) ((b : Int) * n + n))))), some (.int (iI (((b : Nat)) + 1))), none, none]) 5 rfl ?_
        exact ih (b + 1, sm + psz ds ((b : Int) * n) ((b : Int) * n + n)) ⟨show b + 1 ≤ 64 by omega, Or.inr (Or.inr trivial), by
          rw [show 64 - b = (64 - (b + 1)) + 1 by omega] at i3
          unfold flF at i3
          rw [if_pos (by omega), if_pos (by omega)] at i3
          rw [show (((b + 1 : Nat) : Int)) * n = (b : Int) * n + n by rw [Int.natCast_add, Int.add_mul]; simp]
          omega⟩ (show 64 - (b + 1) < 64 - b by omega)
end
section
/-! ===== what is written into a list ===== -/
/-- nothing but the cells a to a + 2 has changed -/
def Fr3 (h h' : EHp) (a : Nat) : Prop := ∀ j, (j < a ∨ a + 2 < j) → h' j = h j
/-- the facts of the partition of the documents from s to ahead of e -/
def fct (ds : Int → Int) (s e : Int) : Int → Int
  | 0 => knd (e - s) (ds (e - 1) - ds s + 1)
  | 1 => e - s
  | 2 => ds s
  | 3 => ds (e - 1)
  | 4 => psz ds s e
  | _ => if knd (e - s) (ds (e - 1) - ds s + 1) = 2 then lb (e - s) (ds (e - 1) - ds s + 1) else 0
/-- the reads inside a partition of the kind kd, its first document f, its low bits w -/
def rdI (c : Int) (ds : Int → Int) (kd f w x ans : Int) : Int :=
  if kd = 1 then (dA c ds ans - f) / 8 - (x - f) / 8 + 1 else if kd = 2 then 1 + ans - cb c ds (f + (x - f) / 2 ^ w.toNat * 2 ^ w.toNat) + 1 else 0
theorem PA.moved {h h' : EHp} {a b : Nat} {c m : Int} {ds fa : Int → Int} (hA : PA h b c m ds fa) (hF : Fr3 h h' a) (hd : b + 2 < a ∨ a + 2 < b) : PA h' b c m ds fa := by
  obtain ⟨h1, h2, h3, h4⟩ := hA
  exact ⟨by rw [hF b (by omega)]; exact h1, by rw [hF (b + 1) (by omega)]; exact h2, by rw [hF (b + 2) (by omega)]; exact h3, h4⟩
end
section
/-! ===== Postings: what is written, and the reads of a query ===== -/
set_option maxRecDepth 4000 in
theorem t_X4_copyFrom (l : Launch) (h : EHp) (a b : Nat) (c m c2 m2 : Int) (ds fa ds2 fa2 : Int → Int) (hA : PA h a c m ds fa) (hB : PA h b c2 m2 ds2 fa2) (hab : a + 2 < b ∨ b + 2 < a) (hc0 : 0 ≤ c2) (hc : c2 ≤ 64) (hm0 : 0 ≤ m2) (hm : m2 ≤ 64) : CT l mX4_copyFrom 1 0 0 [.ref (a), .ref (b)] NN h (vP (fun h' => PA h' a c2 m2 (cpy ds2 ds 0 0 c2) (cpy fa2 fa 0 0 (m2 * 6)) ∧ Fr3 h h' a)) := by
  obtain ⟨hP, hD, hF, hlt⟩ := hA
  obtain ⟨hP2, hD2, hF2, hlt2⟩ := hB
  refine CT.of (by decide) (Nat.le_of_ble_eq_true rfl) ?_
  refine g_al (al2 := [some (.ref (a)), some (.ref (b))]) rfl ?_
  refine g_aload_n (q := 1) rfl rfl dX4_copyFrom_0 rfl ?_
  refine g_aload_n (q := 2) rfl rfl dX4_copyFrom_1 rfl ?_
  refine g_get (q := 5) fX4_15r (by show _ < 103; omega) hP2 rfl dX4_copyFrom_2 rfl ?_
  refine g_put (q := 8) fX4_15 (by show _ < 103; omega) hP (Nat.le_of_ble_eq_true rfl) (fun _ _ => rfl) (fun _ _ => rfl) dX4_copyFrom_5 rfl ?_
  refine hp_in (fun h1 eh1 => ?_)
  have f2 : h1 a = cO 4 [.ref (a + 1), .int (iI (c2)), .ref (a + 2), .int (iI (m))] := by rw [eh1]; exact ueh_s
  have f3 : h1 (a + 1) = cI 64 ds := by rw [eh1, ueh_n (by omega)]; exact hD
  have f4 : h1 (a + 2) = cI 384 fa := by rw [eh1, ueh_n (by omega)]; exact hF
  have f5 : h1 b = cO 4 [.ref (b + 1), .int (iI (c2)), .ref (b + 2), .int (iI (m2))] := by rw [eh1, ueh_n (by omega)]; exact hP2
  have f6 : h1 (b + 1) = cI 64 ds2 := by rw [eh1, ueh_n (by omega)]; exact hD2
  have f7 : h1 (b + 2) = cI 384 fa2 := by rw [eh1, ueh_n (by omega)]; exact hF2
  refine g_aload_n (q := 9) rfl rfl dX4_copyFrom_8 rfl ?_
  refine g_get (q := 12) fX4_9r (by show _ < 103; omega) f5 rfl dX4_copyFrom_9 rfl ?_
  refine g_iconst (q := 13) dX4_copyFrom_12 rfl ?_
  refine g_aload_n (q := 14) rfl rfl dX4_copyFrom_13 rfl ?_
  refine g_get (q := 17) fX4_9r (by show _ < 103; omega) f2 rfl dX4_copyFrom_14 rfl ?_
  refine g_iconst (q := 18) dX4_copyFrom_17 rfl ?_
  refine g_aload_n (q := 19) rfl rfl dX4_copyFrom_18 rfl ?_
  refine g_get (q := 22) fX4_15r (by show _ < 103; omega) f2 rfl dX4_copyFrom_19 rfl ?_
  refine g_copy (q := 25) acX4_25 (by show _ < 103; omega) f6 (by show _ < 103; omega) f3 (by omega) (by omega) (by omega) (by omega) (by omega) (by decide) (by decide) (Nat.le_of_ble_eq_true rfl) (Nat.le_of_ble_eq_true rfl) dX4_copyFrom_22 rfl ?_
  refine hp_in (fun h8 eh8 => ?_)
  have f9 : h8 a = cO 4 [.ref (a + 1), .int (iI (c2)), .ref (a + 2), .int (iI (m))] := by rw [eh8, ueh_n (by omega)]; exact f2
  have f10 : h8 (a + 1) = cI 64 (cpy ds2 ds 0 0 c2) := by rw [eh8]; exact ueh_s
  have f11 : h8 (a + 2) = cI 384 fa := by rw [eh8, ueh_n (by omega)]; exact f4
  have f12 : h8 b = cO 4 [.ref (b + 1), .int (iI (c2)), .ref (b + 2), .int (iI (m2))] := by rw [eh8, ueh_n (by omega)]; exact f5
  have f13 : h8 (b + 1) = cI 64 ds2 := by rw [eh8, ueh_n (by omega)]; exact f6
  have f14 : h8 (b + 2) = cI 384 fa2 := by rw [eh8, ueh_n (by omega)]; exact f7
  refine g_aload_n (q := 26) rfl rfl dX4_copyFrom_25 rfl ?_
  refine g_aload_n (q := 27) rfl rfl dX4_copyFrom_26 rfl ?_
  refine g_get (q := 30) fX4_22r (by show _ < 103; omega) f12 rfl dX4_copyFrom_27 rfl ?_
  refine g_put (q := 33) fX4_22 (by show _ < 103; omega) f9 (Nat.le_of_ble_eq_true rfl) (fun _ _ => rfl) (fun _ _ => rfl) dX4_copyFrom_30 rfl ?_
  refine hp_in (fun h15 eh15 => ?_)
  have f16 : h15 a = cO 4 [.ref (a + 1), .int (iI (c2)), .ref (a + 2), .int (iI (m2))] := by rw [eh15]; exact ueh_s
  have f17 : h15 (a + 1) = cI 64 (cpy ds2 ds 0 0 c2) := by rw [eh15, ueh_n (by omega)]; exact f10
  have f18 : h15 (a + 2) = cI 384 fa := by rw [eh15, ueh_n (by omega)]; exact f11
  have f19 : h15 b = cO 4 [.ref (b + 1), .int (iI (c2)), .ref (b + 2), .int (iI (m2))] := by rw [eh15, ueh_n (by omega)]; exact f12
  have f20 : h15 (b + 1) = cI 64 ds2 := by rw [eh15, ueh_n (by omega)]; exact f13
  have f21 : h15 (b + 2) = cI 384 fa2 := by rw [eh15, ueh_n (by omega)]; exact f14
  refine g_aload_n (q := 34) rfl rfl dX4_copyFrom_33 rfl ?_
  refine g_get (q := 37) fX4_19r (by show _ < 103; omega) f19 rfl dX4_copyFrom_34 rfl ?_
  refine g_iconst (q := 38) dX4_copyFrom_37 rfl ?_
  refine g_aload_n (q := 39) rfl rfl dX4_copyFrom_38 rfl ?_
  refine g_get (q := 42) fX4_19r (by show _ < 103; omega) f16 rfl dX4_copyFrom_39 rfl ?_
  refine g_iconst (q := 43) dX4_copyFrom_42 rfl ?_
  refine g_aload_n (q := 44) rfl rfl dX4_copyFrom_43 rfl ?_
  refine g_get (q := 47) fX4_22r (by show _ < 103; omega) f16 rfl dX4_copyFrom_44 rfl ?_
  refine g_bipush (q := 49) (by decide) dX4_copyFrom_47 rfl ?_
  refine g_imul (q := 50) dX4_copyFrom_49 rfl ?_
  refine g_copy (q := 53) acX4_25 (by show _ < 103; omega) f21 (by show _ < 103; omega) f18 (by omega) (by omega) (by omega) (by omega) (by omega) (by decide) (by decide) (Nat.le_of_ble_eq_true rfl) (Nat.le_of_ble_eq_true rfl) dX4_copyFrom_50 rfl ?_
  refine hp_in (fun h22 eh22 => ?_)
  have f23 : h22 a = cO 4 [.ref (a + 1), .int (iI (c2)), .ref (a + 2), .int (iI (m2))] := by rw [eh22, ueh_n (by omega)]; exact f16
  have f24 : h22 (a + 1) = cI 64 (cpy ds2 ds 0 0 c2) := by rw [eh22, ueh_n (by omega)]; exact f17
  have f25 : h22 (a + 2) = cI 384 (cpy fa2 fa 0 0 (m2 * 6)) := by rw [eh22]; exact ueh_s
  have f26 : h22 b = cO 4 [.ref (b + 1), .int (iI (c2)), .ref (b + 2), .int (iI (m2))] := by rw [eh22, ueh_n (by omega)]; exact f19
  have f27 : h22 (b + 1) = cI 64 ds2 := by rw [eh22, ueh_n (by omega)]; exact f20
  have f28 : h22 (b + 2) = cI 384 fa2 := by rw [eh22, ueh_n (by omega)]; exact f21
  exact g_vreturn (fun z => NN_f z) (Nat.le_of_ble_eq_true rfl) (Nat.le_of_ble_eq_true rfl) dX4_copyFrom_53 rfl (vP_in ⟨⟨f23, f24, f25, hlt⟩, fun j hj => by rw [eh22, ueh_n (by omega), eh15, ueh_n (by omega), eh8, ueh_n (by omega), eh1, ueh_n (by omega)]⟩)
set_option maxRecDepth 4000 in
theorem t_X4_replace (l : Launch) (h : EHp) (a r nr : Nat) (c m len : Int) (ds fa rs : Int → Int) (hA : PA h a c m ds fa) (hR : h r = cI nr rs) (hr : r < 103) (hra : r < a ∨ a + 2 < r) (hnr : nr < 2147483648) (h0 : 0 ≤ len) (h1 : len ≤ 64) (h2 : len ≤ nr) : CT l mX4_replace 1 0 0 [.ref (a), .ref (r), .int (iI (len))] NN h (vP (fun h' => PA h' a len m (cpy rs ds 0 0 len) fa ∧ Fr3 h h' a)) := by
  obtain ⟨hP, hD, hF, hlt⟩ := hA
  refine CT.of (by decide) (Nat.le_of_ble_eq_true rfl) ?_
  refine g_al (al2 := [some (.ref (a)), some (.ref (r)), some (.int (iI (len)))]) rfl ?_
  refine g_aload_n (q := 1) rfl rfl dX4_replace_0 rfl ?_
  refine g_iload_n (q := 2) rfl rfl dX4_replace_1 rfl ?_
  refine g_put (q := 5) fX4_15 (by show _ < 103; omega) hP (Nat.le_of_ble_eq_true rfl) (fun _ _ => rfl) (fun _ _ => rfl) dX4_replace_2 rfl ?_
  refine hp_in (fun h1 eh1 => ?_)
  have f2 : h1 a = cO 4 [.ref (a + 1), .int (iI (len)), .ref (a + 2), .int (iI (m))] := by rw [eh1]; exact ueh_s
  have f3 : h1 (a + 1) = cI 64 ds := by rw [eh1, ueh_n (by omega)]; exact hD
  have f4 : h1 (a + 2) = cI 384 fa := by rw [eh1, ueh_n (by omega)]; exact hF
  have f5 : h1 r = cI nr rs := by rw [eh1, ueh_n (by omega)]; exact hR
  refine g_aload_n (q := 6) rfl rfl dX4_replace_5 rfl ?_
  refine g_iconst (q := 7) dX4_replace_6 rfl ?_
  refine g_aload_n (q := 8) rfl rfl dX4_replace_7 rfl ?_
  refine g_get (q := 11) fX4_9r (by show _ < 103; omega) f2 rfl dX4_replace_8 rfl ?_
  refine g_iconst (q := 12) dX4_replace_11 rfl ?_
  refine g_iload_n (q := 13) rfl rfl dX4_replace_12 rfl ?_
  refine g_copy (q := 16) acX4_25 (by show _ < 103; omega) f5 (by show _ < 103; omega) f3 (by omega) (by omega) (by omega) (by omega) (by omega) hnr (by decide) (Nat.le_of_ble_eq_true rfl) (Nat.le_of_ble_eq_true rfl) dX4_replace_13 rfl ?_
  refine hp_in (fun h6 eh6 => ?_)
  have f7 : h6 a = cO 4 [.ref (a + 1), .int (iI (len)), .ref (a + 2), .int (iI (m))] := by rw [eh6, ueh_n (by omega)]; exact f2
  have f8 : h6 (a + 1) = cI 64 (cpy rs ds 0 0 len) := by rw [eh6]; exact ueh_s
  have f9 : h6 (a + 2) = cI 384 fa := by rw [eh6, ueh_n (by omega)]; exact f4
  have f10 : h6 r = cI nr rs := by rw [eh6, ueh_n (by omega)]; exact f5
  exact g_vreturn (fun z => NN_f z) (Nat.le_of_ble_eq_true rfl) (Nat.le_of_ble_eq_true rfl) dX4_replace_16 rfl (vP_in ⟨⟨f7, f8, f9, hlt⟩, fun j hj => by rw [eh6, ueh_n (by omega), eh1, ueh_n (by omega)]⟩)
set_option maxRecDepth 4000 in
theorem t_X4_push (l : Launch) (h : EHp) (a : Nat) (c m x : Int) (ds fa : Int → Int) (hA : PA h a c m ds fa) (h0 : 0 ≤ c) (h1 : c < 64) : CT l mX4_push 0 0 0 [.ref (a), .int (iI (x))] NN h (vP (fun h' => PA h' a (c + 1) m (ui ds c x) fa ∧ Fr3 h h' a)) := by
  obtain ⟨hP, hD, hF, hlt⟩ := hA
  refine CT.of (by decide) (Nat.le_of_ble_eq_true rfl) ?_
  refine g_al (al2 := [some (.ref (a)), some (.int (iI (x)))]) rfl ?_
  refine g_aload_n (q := 1) rfl rfl dX4_push_0 rfl ?_
  refine g_get (q := 4) fX4_15r (by show _ < 103; omega) hP rfl dX4_push_1 rfl ?_
  refine g_bipush (q := 6) (by decide) dX4_push_4 rfl ?_
  refine g_icmp_ge (t := 29) (q := 9) ⟨by omega, by omega⟩ ⟨by omega, by omega⟩ dX4_push_6 rfl rfl (fun c6 => ?_) (fun c6 => ?_)
  · omega
  · refine g_aload_n (q := 10) rfl rfl dX4_push_9 rfl ?_
    refine g_get (q := 13) fX4_9r (by show _ < 103; omega) hP rfl dX4_push_10 rfl ?_
    refine g_aload_n (q := 14) rfl rfl dX4_push_13 rfl ?_
    refine g_get (q := 17) fX4_15r (by show _ < 103; omega) hP rfl dX4_push_14 rfl ?_
    refine g_iload_n (q := 18) rfl rfl dX4_push_17 rfl ?_
    refine g_iastore (q := 19) (by show _ < 103; omega) hD (by omega) (by omega) (by decide) dX4_push_18 rfl ?_
    refine hp_in (fun h1 eh1 => ?_)
    have f2 : h1 a = cO 4 [.ref (a + 1), .int (iI (c)), .ref (a + 2), .int (iI (m))] := by rw [eh1, ueh_n (by omega)]; exact hP
    have f3 : h1 (a + 1) = cI 64 (ui ds c x) := by rw [eh1]; exact ueh_s
    have f4 : h1 (a + 2) = cI 384 fa := by rw [eh1, ueh_n (by omega)]; exact hF
    refine g_aload_n (q := 20) rfl rfl dX4_push_19 rfl ?_
    refine g_dup (q := 21) rfl dX4_push_20 rfl ?_
    refine g_get (q := 24) fX4_15r (by show _ < 103; omega) f2 rfl dX4_push_21 rfl ?_
    refine g_iconst (q := 25) dX4_push_24 rfl ?_
    refine g_iadd (q := 26) dX4_push_25 rfl ?_
    refine g_put (q := 29) fX4_15 (by show _ < 103; omega) f2 (Nat.le_of_ble_eq_true rfl) (fun _ _ => rfl) (fun _ _ => rfl) dX4_push_26 rfl ?_
    refine hp_in (fun h5 eh5 => ?_)
    have f6 : h5 a = cO 4 [.ref (a + 1), .int (iI (c + 1)), .ref (a + 2), .int (iI (m))] := by rw [eh5]; exact ueh_s
    have f7 : h5 (a + 1) = cI 64 (ui ds c x) := by rw [eh5, ueh_n (by omega)]; exact f3
    have f8 : h5 (a + 2) = cI 384 fa := by rw [eh5, ueh_n (by omega)]; exact f4
    exact g_vreturn (fun z => NN_f z) (Nat.le_of_ble_eq_true rfl) (Nat.le_of_ble_eq_true rfl) dX4_push_29 rfl (vP_in ⟨⟨f6, f7, f8, hlt⟩, fun j hj => by rw [eh5, ueh_n (by omega), eh1, ueh_n (by omega)]⟩)
set_option maxRecDepth 4000 in
theorem t_X4_addPart (l : Launch) (h : EHp) (a : Nat) (c m : Int) (ds fa : Int → Int) (hA : PA h a c m ds fa) (hO : LOk c ds) (s e : Int) (h0 : 0 ≤ s) (h1 : s < e) (h2 : e ≤ c) (hm0 : 0 ≤ m) (hm : m < 64) : CT l mX4_addPart 2 0 0 [.ref (a), .int (iI (s)), .int (iI (e))] NN h (vP (fun h' => ∃ fa', PA h' a c (m + 1) ds fa' ∧ (∀ j, j < m * 6 → fa' j = fa j) ∧ (∀ t, 0 ≤ t → t < 6 → fa' (m * 6 + t) = fct ds s e t) ∧ Fr3 h h' a)) := by
  have hA0 := hA
  obtain ⟨hP, hD, hF, hlt⟩ := hA
  obtain ⟨o1, o2, o3, o4⟩ := id hO
  obtain ⟨g1, g2⟩ := hO.wid h0 h1 h2
  obtain ⟨b1, b2⟩ := bs_rng (n := e - s) (u := ds (e - 1) - ds s + 1) (by omega) (by omega) g1 g2
  have kr := knd_rng (n := e - s) (u := ds (e - 1) - ds s + 1)
  have q1 := dA_in (ds := ds) (show 0 ≤ e - 1 by omega) (show e - 1 < c by omega)
  have q2 := dA_in (ds := ds) h0 (show s < c by omega)
  refine CT.of (by decide) (Nat.le_of_ble_eq_true rfl) ?_
  refine g_al (al2 := [some (.ref (a)), some (.int (iI (s))), some (.int (iI (e))), none, none, none, none, none]) rfl ?_
  refine g_iload_n (q := 1) rfl rfl dX4_addPart_0 rfl ?_
  refine g_iload_n (q := 2) rfl rfl dX4_addPart_1 rfl ?_
  refine g_isub (q := 3) dX4_addPart_2 rfl ?_
  refine g_istore_n (q := 4) (al2 := [some (.ref (a)), some (.int (iI (s))), some (.int (iI (e))), some (.int (iI (e - s))), none, none, none, none]) rfl (by decide) rfl rfl dX4_addPart_3 rfl ?_
  refine g_aload_n (q := 5) rfl rfl dX4_addPart_4 rfl ?_
  refine g_iload_n (q := 6) rfl rfl dX4_addPart_5 rfl ?_
  refine g_iload_n (q := 7) rfl rfl dX4_addPart_6 rfl ?_
  refine g_Vr (q := 10) (d' := 1) (i := a) (av := [.int (iI (s)), .int (iI (e))]) (st := []) (v := .int (iI (ds (e - 1) - ds s + 1))) kvX4_35 (t_X4_widthBetween l h a c m ds fa hA0 hO s e h0 h1 h2) (by show _ < 103; omega) hP rfl (Nat.le_of_ble_eq_true rfl) ⟨(Nat.le_of_ble_eq_true rfl), (Nat.le_of_ble_eq_true rfl)⟩ ⟨(Nat.le_of_ble_eq_true rfl), (Nat.le_of_ble_eq_true rfl)⟩ rfl rfl dX4_addPart_7 rfl ?_
  refine g_istore (q := 12) (al2 := [some (.ref (a)), some (.int (iI (s))), some (.int (iI (e))), some (.int (iI (e - s))), some (.int (iI (ds (e - 1) - ds s + 1))), none, none, none]) (by decide) rfl rfl dX4_addPart_10 rfl ?_
  refine g_iload_n (q := 13) rfl rfl dX4_addPart_12 rfl ?_
  refine g_iload (q := 15) rfl dX4_addPart_13 rfl ?_
  refine g_Sr (q := 18) (d' := 1) (av := [.int (iI (e - s)), .int (iI (ds (e - 1) - ds s + 1))]) (st := []) (v := .int (iI (bs (e - s) (ds (e - 1) - ds s + 1)))) ksX4_39 (t_X5_bestSize l (e - s) (ds (e - 1) - ds s + 1) (by omega) (by omega) g1 g2 h) rfl (Nat.le_of_ble_eq_true rfl) ⟨(Nat.le_of_ble_eq_true rfl), (Nat.le_of_ble_eq_true rfl)⟩ ⟨(Nat.le_of_ble_eq_true rfl), (Nat.le_of_ble_eq_true rfl)⟩ rfl rfl dX4_addPart_15 rfl ?_
  refine g_istore (q := 20) (al2 := [some (.ref (a)), some (.int (iI (s))), some (.int (iI (e))), some (.int (iI (e - s))), some (.int (iI (ds (e - 1) - ds s + 1))), some (.int (iI (bs (e - s) (ds (e - 1) - ds s + 1)))), none, none]) (by decide) rfl rfl dX4_addPart_18 rfl ?_
  refine g_iload_n (q := 21) rfl rfl dX4_addPart_20 rfl ?_
  refine g_iload (q := 23) rfl dX4_addPart_21 rfl ?_
  refine g_iload (q := 25) rfl dX4_addPart_23 rfl ?_
  refine g_Sr (q := 28) (d' := 0) (av := [.int (iI (e - s)), .int (iI (ds (e - 1) - ds s + 1)), .int (iI (bs (e - s) (ds (e - 1) - ds s + 1)))]) (st := []) (v := .int (iI (knd (e - s) (ds (e - 1) - ds s + 1)))) ksX4_47 (t_X5_bestKind l (e - s) (ds (e - 1) - ds s + 1) (by omega) (by omega) g1 g2 h) rfl (Nat.le_of_ble_eq_true rfl) ⟨(Nat.le_of_ble_eq_true rfl), (Nat.le_of_ble_eq_true rfl)⟩ ⟨(Nat.le_of_ble_eq_true rfl), (Nat.le_of_ble_eq_true rfl)⟩ rfl rfl dX4_addPart_25 rfl ?_
  refine g_istore (q := 30) (al2 := [some (.ref (a)), some (.int (iI (s))), some (.int (iI (e))), some (.int (iI (e - s))), some (.int (iI (ds (e - 1) - ds s + 1))), some (.int (iI (bs (e - s) (ds (e - 1) - ds s + 1)))), some (.int (iI (knd (e - s) (ds (e - 1) - ds s + 1)))), none]) (by decide) rfl rfl dX4_addPart_28 rfl ?_
  refine g_aload_n (q := 31) rfl rfl dX4_addPart_30 rfl ?_
  refine g_get (q := 34) fX4_22r (by show _ < 103; omega) hP rfl dX4_addPart_31 rfl ?_
  refine g_bipush (q := 36) (by decide) dX4_addPart_34 rfl ?_
  refine g_imul (q := 37) dX4_addPart_36 rfl ?_
  refine g_istore (q := 39) (al2 := [some (.ref (a)), some (.int (iI (s))), some (.int (iI (e))), some (.int (iI (e - s))), some (.int (iI (ds (e - 1) - ds s + 1))), some (.int (iI (bs (e - s) (ds (e - 1) - ds s + 1)))), some (.int (iI (knd (e - s) (ds (e - 1) - ds s + 1)))), some (.int (iI (m * 6)))]) (by decide) rfl rfl dX4_addPart_37 rfl ?_
  refine g_aload_n (q := 40) rfl rfl dX4_addPart_39 rfl ?_
  refine g_get (q := 43) fX4_19r (by show _ < 103; omega) hP rfl dX4_addPart_40 rfl ?_
  refine g_iload (q := 45) rfl dX4_addPart_43 rfl ?_
  refine g_iconst (q := 46) dX4_addPart_45 rfl ?_
  refine g_iadd (q := 47) dX4_addPart_46 rfl ?_
  refine g_iload (q := 49) rfl dX4_addPart_47 rfl ?_
  refine g_iastore (q := 50) (by show _ < 103; omega) hF (by omega) (by omega) (by decide) dX4_addPart_49 rfl ?_
  refine hp_in (fun h1 eh1 => ?_)
  have f2 : h1 a = cO 4 [.ref (a + 1), .int (iI (c)), .ref (a + 2), .int (iI (m))] := by rw [eh1, ueh_n (by omega)]; exact hP
  have f3 : h1 (a + 1) = cI 64 ds := by rw [eh1, ueh_n (by omega)]; exact hD
  have f4 : h1 (a + 2) = cI 384 (ui fa ((m * 6) + 0) (knd (e - s) (ds (e - 1) - ds s + 1))) := by rw [eh1]; exact ueh_s
  refine g_aload_n (q := 51) rfl rfl dX4_addPart_50 rfl ?_
  refine g_get (q := 54) fX4_19r (by show _ < 103; omega) f2 rfl dX4_addPart_51 rfl ?_
  refine g_iload (q := 56) rfl dX4_addPart_54 rfl ?_
  refine g_iconst (q := 57) dX4_addPart_56 rfl ?_
  refine g_iadd (q := 58) dX4_addPart_57 rfl ?_
  refine g_iload_n (q := 59) rfl rfl dX4_addPart_58 rfl ?_
  refine g_iastore (q := 60) (by show _ < 103; omega) f4 (by omega) (by omega) (by decide) dX4_addPart_59 rfl ?_
  refine hp_in (fun h5 eh5 => ?_)
  have f6 : h5 a = cO 4 [.ref (a + 1), .int (iI (c)), .ref (a + 2), .int (iI (m))] := by rw [eh5, ueh_n (by omega)]; exact f2
  have f7 : h5 (a + 1) = cI 64 ds := by rw [eh5, ueh_n (by omega)]; exact f3
  have f8 : h5 (a + 2) = cI 384 (ui (ui fa ((m * 6) + 0) (knd (e - s) (ds (e - 1) - ds s + 1))) ((m * 6) + 1) (e - s)) := by rw [eh5]; exact ueh_s
  refine g_aload_n (q := 61) rfl rfl dX4_addPart_60 rfl ?_
  refine g_get (q := 64) fX4_19r (by show _ < 103; omega) f6 rfl dX4_addPart_61 rfl ?_
  refine g_iload (q := 66) rfl dX4_addPart_64 rfl ?_
  refine g_iconst (q := 67) dX4_addPart_66 rfl ?_
  refine g_iadd (q := 68) dX4_addPart_67 rfl ?_
  refine g_aload_n (q := 69) rfl rfl dX4_addPart_68 rfl ?_
  refine g_iload_n (q := 70) rfl rfl dX4_addPart_69 rfl ?_
  refine g_Vr (q := 73) (d' := 0) (i := a) (av := [.int (iI (s))]) (st := [.int (iI ((m * 6) + 2)), .ref (a + 2)]) (v := .int (iI (ds s))) kvX4_31 (by have := t_X4_documentAt l h5 a c m ds _ ⟨f6, f7, f8, hlt⟩ hO s ⟨by omega, by omega⟩; rw [q2] at this; exact this) (by show _ < 103; omega) f6 rfl (Nat.le_of_ble_eq_true rfl) ⟨(Nat.le_of_ble_eq_true rfl), (Nat.le_of_ble_eq_true rfl)⟩ ⟨(Nat.le_of_ble_eq_true rfl), (Nat.le_of_ble_eq_true rfl)⟩ rfl rfl dX4_addPart_70 rfl ?_
  refine g_iastore (q := 74) (by show _ < 103; omega) f8 (by omega) (by omega) (by decide) dX4_addPart_73 rfl ?_
  refine hp_in (fun h9 eh9 => ?_)
  have f10 : h9 a = cO 4 [.ref (a + 1), .int (iI (c)), .ref (a + 2), .int (iI (m))] := by rw [eh9, ueh_n (by omega)]; exact f6
  have f11 : h9 (a + 1) = cI 64 ds := by rw [eh9, ueh_n (by omega)]; exact f7
  have f12 : h9 (a + 2) = cI 384 (ui (ui (ui fa ((m * 6) + 0) (knd (e - s) (ds (e - 1) - ds s + 1))) ((m * 6) + 1) (e - s)) ((m * 6) + 2) (ds s)) := by rw [eh9]; exact ueh_s
  refine g_aload_n (q := 75) rfl rfl dX4_addPart_74 rfl ?_
  refine g_get (q := 78) fX4_19r (by show _ < 103; omega) f10 rfl dX4_addPart_75 rfl ?_
  refine g_iload (q := 80) rfl dX4_addPart_78 rfl ?_
  refine g_iconst (q := 81) dX4_addPart_80 rfl ?_
  refine g_iadd (q := 82) dX4_addPart_81 rfl ?_
  refine g_aload_n (q := 83) rfl rfl dX4_addPart_82 rfl ?_
  refine g_iload_n (q := 84) rfl rfl dX4_addPart_83 rfl ?_
  refine g_iconst (q := 85) dX4_addPart_84 rfl ?_
  refine g_isub (q := 86) dX4_addPart_85 rfl ?_
  refine g_Vr (q := 89) (d' := 0) (i := a) (av := [.int (iI (e - 1))]) (st := [.int (iI ((m * 6) + 3)), .ref (a + 2)]) (v := .int (iI (ds (e - 1)))) kvX4_31 (by have := t_X4_documentAt l h9 a c m ds _ ⟨f10, f11, f12, hlt⟩ hO (e - 1) ⟨by omega, by omega⟩; rw [q1] at this; exact this) (by show _ < 103; omega) f10 rfl (Nat.le_of_ble_eq_true rfl) ⟨(Nat.le_of_ble_eq_true rfl), (Nat.le_of_ble_eq_true rfl)⟩ ⟨(Nat.le_of_ble_eq_true rfl), (Nat.le_of_ble_eq_true rfl)⟩ rfl rfl dX4_addPart_86 rfl ?_
  refine g_iastore (q := 90) (by show _ < 103; omega) f12 (by omega) (by omega) (by decide) dX4_addPart_89 rfl ?_
  refine hp_in (fun h13 eh13 => ?_)
  have f14 : h13 a = cO 4 [.ref (a + 1), .int (iI (c)), .ref (a + 2), .int (iI (m))] := by rw [eh13, ueh_n (by omega)]; exact f10
  have f15 : h13 (a + 1) = cI 64 ds := by rw [eh13, ueh_n (by omega)]; exact f11
  have f16 : h13 (a + 2) = cI 384 (ui (ui (ui (ui fa ((m * 6) + 0) (knd (e - s) (ds (e - 1) - ds s + 1))) ((m * 6) + 1) (e - s)) ((m * 6) + 2) (ds s)) ((m * 6) + 3) (ds (e - 1))) := by rw [eh13]; exact ueh_s
  refine g_aload_n (q := 91) rfl rfl dX4_addPart_90 rfl ?_
  refine g_get (q := 94) fX4_19r (by show _ < 103; omega) f14 rfl dX4_addPart_91 rfl ?_
  refine g_iload (q := 96) rfl dX4_addPart_94 rfl ?_
  refine g_iconst (q := 97) dX4_addPart_96 rfl ?_
  refine g_iadd (q := 98) dX4_addPart_97 rfl ?_
  refine g_iload (q := 100) rfl dX4_addPart_98 rfl ?_
  refine g_iastore (q := 101) (by show _ < 103; omega) f16 (by omega) (by omega) (by decide) dX4_addPart_100 rfl ?_
  refine hp_in (fun h17 eh17 => ?_)
  have f18 : h17 a = cO 4 [.ref (a + 1), .int (iI (c)), .ref (a + 2), .int (iI (m))] := by rw [eh17, ueh_n (by omega)]; exact f14
  have f19 : h17 (a + 1) = cI 64 ds := by rw [eh17, ueh_n (by omega)]; exact f15
  have f20 : h17 (a + 2) = cI 384 (ui (ui (ui (ui (ui fa ((m * 6) + 0) (knd (e - s) (ds (e - 1) - ds s + 1))) ((m * 6) + 1) (e - s)) ((m * 6) + 2) (ds s)) ((m * 6) + 3) (ds (e - 1))) ((m * 6) + 4) (bs (e - s) (ds (e - 1) - ds s + 1))) := by rw [eh17]; exact ueh_s
  refine g_aload_n (q := 102) rfl rfl dX4_addPart_101 rfl ?_
  refine g_get (q := 105) fX4_19r (by show _ < 103; omega) f18 rfl dX4_addPart_102 rfl ?_
  refine g_iload (q := 107) rfl dX4_addPart_105 rfl ?_
  refine g_iconst (q := 108) dX4_addPart_107 rfl ?_
  refine g_iadd (q := 109) dX4_addPart_108 rfl ?_
  refine g_iload (q := 111) rfl dX4_addPart_109 rfl ?_
  refine g_iconst (q := 112) dX4_addPart_111 rfl ?_
  refine g_icmp_ne (t := 124) (q := 115) ⟨by omega, by omega⟩ ⟨by omega, by omega⟩ dX4_addPart_112 rfl rfl (fun c112 => ?_) (fun c112 => ?_)
  · refine g_iconst (q := 125) dX4_addPart_124 rfl ?_
    refine g_iastore (q := 126) (by show _ < 103; omega) f20 (by omega) (by omega) (by decide) dX4_addPart_125 rfl ?_
    refine hp_in (fun h21 eh21 => ?_)
    have f22 : h21 a = cO 4 [.ref (a + 1), .int (iI (c)), .ref (a + 2), .int (iI (m))] := by rw [eh21, ueh_n (by omega)]; exact f18
    have f23 : h21 (a + 1) = cI 64 ds := by rw [eh21, ueh_n (by omega)]; exact f19
    have f24 : h21 (a + 2) = cI 384 (ui (ui (ui (ui (ui (ui fa ((m * 6) + 0) (knd (e - s) (ds (e - 1) - ds s + 1))) ((m * 6) + 1) (e - s)) ((m * 6) + 2) (ds s)) ((m * 6) + 3) (ds (e - 1))) ((m * 6) + 4) (bs (e - s) (ds (e - 1) - ds s + 1))) ((m * 6) + 5) 0) := by rw [eh21]; exact ueh_s
    refine g_aload_n (q := 127) rfl rfl dX4_addPart_126 rfl ?_
    refine g_dup (q := 128) rfl dX4_addPart_127 rfl ?_
    refine g_get (q := 131) fX4_22r (by show _ < 103; omega) f22 rfl dX4_addPart_128 rfl ?_
    refine g_iconst (q := 132) dX4_addPart_131 rfl ?_
    refine g_iadd (q := 133) dX4_addPart_132 rfl ?_
    refine g_put (q := 136) fX4_22 (by show _ < 103; omega) f22 (Nat.le_of_ble_eq_true rfl) (fun _ _ => rfl) (fun _ _ => rfl) dX4_addPart_133 rfl ?_
    refine hp_in (fun h25 eh25 => ?_)
    have f26 : h25 a = cO 4 [.ref (a + 1), .int (iI (c)), .ref (a + 2), .int (iI (m + 1))] := by rw [eh25]; exact ueh_s
    have f27 : h25 (a + 1) = cI 64 ds := by rw [eh25, ueh_n (by omega)]; exact f23
    have f28 : h25 (a + 2) = cI 384 (ui (ui (ui (ui (ui (ui fa ((m * 6) + 0) (knd (e - s) (ds (e - 1) - ds s + 1))) ((m * 6) + 1) (e - s)) ((m * 6) + 2) (ds s)) ((m * 6) + 3) (ds (e - 1))) ((m * 6) + 4) (bs (e - s) (ds (e - 1) - ds s + 1))) ((m * 6) + 5) 0) := by rw [eh25, ueh_n (by omega)]; exact f24
    exact g_vreturn (fun z => NN_f z) (Nat.le_of_ble_eq_true rfl) (Nat.le_of_ble_eq_true rfl) dX4_addPart_136 rfl (vP_in ⟨_, ⟨f26, f27, f28, hlt⟩, fun j hj => by
          iterate 6 rw [ui_n (by omega)], fun t t0 t6 => by
          rcases (show t = 0 ∨ t = 1 ∨ t = 2 ∨ t = 3 ∨ t = 4 ∨ t = 5 by omega) with rfl | rfl | rfl | rfl | rfl | rfl
          · iterate 5 rw [ui_n (by omega)]
            exact ui_s
          · iterate 4 rw [ui_n (by omega)]
            exact ui_s
          · iterate 3 rw [ui_n (by omega)]
            exact ui_s
          · iterate 2 rw [ui_n (by omega)]
            exact ui_s
          · rw [ui_n (by omega)]
            exact ui_s
          · rw [ui_s]
            show _ = if knd (e - s) (ds (e - 1) - ds s + 1) = 2 then lb (e - s) (ds (e - 1) - ds s + 1) else 0
            rw [if_neg c112], fun j hj => by rw [eh25, ueh_n (by omega), eh21, ueh_n (by omega), eh17, ueh_n (by omega), eh13, ueh_n (by omega), eh9, ueh_n (by omega), eh5, ueh_n (by omega), eh1, ueh_n (by omega)]⟩)
  · refine g_iload_n (q := 116) rfl rfl dX4_addPart_115 rfl ?_
    refine g_iload (q := 118) rfl dX4_addPart_116 rfl ?_
    refine g_Sr (q := 121) (d' := 0) (av := [.int (iI (e - s)), .int (iI (ds (e - 1) - ds s + 1))]) (st := [.int (iI ((m * 6) + 5)), .ref (a + 2)]) (v := .int (iI (lb (e - s) (ds (e - 1) - ds s + 1)))) ksX4_51 (t_X5_lowBits l (e - s) (ds (e - 1) - ds s + 1) (by omega) (by omega) g1 g2 h17) rfl (Nat.le_of_ble_eq_true rfl) ⟨(Nat.le_of_ble_eq_true rfl), (Nat.le_of_ble_eq_true rfl)⟩ ⟨(Nat.le_of_ble_eq_true rfl), (Nat.le_of_ble_eq_true rfl)⟩ rfl rfl dX4_addPart_118 rfl ?_
    refine g_goto (q := 125) dX4_addPart_121 rfl ?_
    refine g_iastore (q := 126) (by show _ < 103; omega) f20 (by omega) (by omega) (by decide) dX4_addPart_125 rfl ?_
    refine hp_in (fun h29 eh29 => ?_)
    have f30 : h29 a = cO 4 [.ref (a + 1), .int (iI (c)), .ref (a + 2), .int (iI (m))] := by rw [eh29, ueh_n (by omega)]; exact f18
    have f31 : h29 (a + 1) = cI 64 ds := by rw [eh29, ueh_n (by omega)]; exact f19
    have f32 : h29 (a + 2) = cI 384 (ui (ui (ui (ui (ui (ui fa ((m * 6) + 0) (knd (e - s) (ds (e - 1) - ds s + 1))) ((m * 6) + 1) (e - s)) ((m * 6) + 2) (ds s)) ((m * 6) + 3) (ds (e - 1))) ((m * 6) + 4) (bs (e - s) (ds (e - 1) - ds s + 1))) ((m * 6) + 5) (lb (e - s) (ds (e - 1) - ds s + 1))) := by rw [eh29]; exact ueh_s
    refine g_aload_n (q := 127) rfl rfl dX4_addPart_126 rfl ?_
    refine g_dup (q := 128) rfl dX4_addPart_127 rfl ?_
    refine g_get (q := 131) fX4_22r (by show _ < 103; omega) f30 rfl dX4_addPart_128 rfl ?_
    refine g_iconst (q := 132) dX4_addPart_131 rfl ?_
    refine g_iadd (q := 133) dX4_addPart_132 rfl ?_
    refine g_put (q := 136) fX4_22 (by show _ < 103; omega) f30 (Nat.le_of_ble_eq_true rfl) (fun _ _ => rfl) (fun _ _ => rfl) dX4_addPart_133 rfl ?_
    refine hp_in (fun h33 eh33 => ?_)
    have f34 : h33 a = cO 4 [.ref (a + 1), .int (iI (c)), .ref (a + 2), .int (iI (m + 1))] := by rw [eh33]; exact ueh_s
    have f35 : h33 (a + 1) = cI 64 ds := by rw [eh33, ueh_n (by omega)]; exact f31
    have f36 : h33 (a + 2) = cI 384 (ui (ui (ui (ui (ui (ui fa ((m * 6) + 0) (knd (e - s) (ds (e - 1) - ds s + 1))) ((m * 6) + 1) (e - s)) ((m * 6) + 2) (ds s)) ((m * 6) + 3) (ds (e - 1))) ((m * 6) + 4) (bs (e - s) (ds (e - 1) - ds s + 1))) ((m * 6) + 5) (lb (e - s) (ds (e - 1) - ds s + 1))) := by rw [eh33, ueh_n (by omega)]; exact f32
    exact g_vreturn (fun z => NN_f z) (Nat.le_of_ble_eq_true rfl) (Nat.le_of_ble_eq_true rfl) dX4_addPart_136 rfl (vP_in ⟨_, ⟨f34, f35, f36, hlt⟩, fun j hj => by
          iterate 6 rw [ui_n (by omega)], fun t t0 t6 => by
          rcases (show t = 0 ∨ t = 1 ∨ t = 2 ∨ t = 3 ∨ t = 4 ∨ t = 5 by omega) with rfl | rfl | rfl | rfl | rfl | rfl
          · iterate 5 rw [ui_n (by omega)]
            exact ui_s
          · iterate 4 rw [ui_n (by omega)]
            exact ui_s
          · iterate 3 rw [ui_n (by omega)]
            exact ui_s
          · iterate 2 rw [ui_n (by omega)]
            exact ui_s
          · rw [ui_n (by omega)]
            exact ui_s
          · rw [ui_s]
            show _ = if knd (e - s) (ds (e - 1) - ds s + 1) = 2 then lb (e - s) (ds (e - 1) - ds s + 1) else 0
            rw [if_pos c112], fun j hj => by rw [eh33, ueh_n (by omega), eh29, ueh_n (by omega), eh17, ueh_n (by omega), eh13, ueh_n (by omega), eh9, ueh_n (by omega), eh5, ueh_n (by omega), eh1, ueh_n (by omega)]⟩)
set_option maxRecDepth 4000 in
theorem t_X4_readsInside (l : Launch) (h : EHp) (a : Nat) (c m : Int) (ds fa : Int → Int) (hA : PA h a c m ds fa) (hO : LOk c ds) (j x ans : Int) (h0 : 0 ≤ j) (h1 : j < 64) (f1 : 0 ≤ fa (j * 6 + 2)) (f2 : fa (j * 6 + 2) ≤ x) (f3 : x ≤ 511) (k0 : 0 ≤ fa (j * 6 + 0)) (k1 : fa (j * 6 + 0) ≤ 2) (w0 : 0 ≤ fa (j * 6 + 5)) (w9 : fa (j * 6 + 5) ≤ 9) (a0 : 0 ≤ ans) (a1 : ans ≤ 64) (a2 : fa (j * 6 + 2) ≤ dA c ds ans) : CT l mX4_readsInside 1 0 0 [.ref (a), .int (iI (j)), .int (iI (x)), .int (iI (ans))] NN h (rP (.int (iI (rdI c ds (fa (j * 6 + 0)) (fa (j * 6 + 2)) (fa (j * 6 + 5)) x ans))) h) := by
  have hA0 := hA
  obtain ⟨hP, hD, hF, hlt⟩ := hA
  have dr := dA_rng hO ans
  refine CT.of (by decide) (Nat.le_of_ble_eq_true rfl) ?_
  refine g_al (al2 := [some (.ref (a)), some (.int (iI (j))), some (.int (iI (x))), some (.int (iI (ans))), none, none, none, none]) rfl ?_
  refine g_aload_n (q := 1) rfl rfl dX4_readsInside_0 rfl ?_
  refine g_iload_n (q := 2) rfl rfl dX4_readsInside_1 rfl ?_
  refine g_iconst (q := 3) dX4_readsInside_2 rfl ?_
  refine g_Vr (q := 6) (d' := 0) (i := a) (av := [.int (iI (j)), .int (iI (2))]) (st := []) (v := .int (iI (fa (j * 6 + 2)))) kvX4_44 (t_X4_factOf l h a c m ds fa hA0 j 2 h0 h1 (by decide) (by decide)) (by show _ < 103; omega) hP rfl (Nat.le_of_ble_eq_true rfl) ⟨(Nat.le_of_ble_eq_true rfl), (Nat.le_of_ble_eq_true rfl)⟩ ⟨(Nat.le_of_ble_eq_true rfl), (Nat.le_of_ble_eq_true rfl)⟩ rfl rfl dX4_readsInside_3 rfl ?_
  refine g_istore (q := 8) (al2 := [some (.ref (a)), some (.int (iI (j))), some (.int (iI (x))), some (.int (iI (ans))), some (.int (iI (fa (j * 6 + 2)))), none, none, none]) (by decide) rfl rfl dX4_readsInside_6 rfl ?_
  refine g_aload_n (q := 9) rfl rfl dX4_readsInside_8 rfl ?_
  refine g_iload_n (q := 10) rfl rfl dX4_readsInside_9 rfl ?_
  refine g_iconst (q := 11) dX4_readsInside_10 rfl ?_
  refine g_Vr (q := 14) (d' := 0) (i := a) (av := [.int (iI (j)), .int (iI (0))]) (st := []) (v := .int (iI (fa (j * 6 + 0)))) kvX4_44 (t_X4_factOf l h a c m ds fa hA0 j 0 h0 h1 (by decide) (by decide)) (by show _ < 103; omega) hP rfl (Nat.le_of_ble_eq_true rfl) ⟨(Nat.le_of_ble_eq_true rfl), (Nat.le_of_ble_eq_true rfl)⟩ ⟨(Nat.le_of_ble_eq_true rfl), (Nat.le_of_ble_eq_true rfl)⟩ rfl rfl dX4_readsInside_11 rfl ?_
  refine g_istore (q := 16) (al2 := [some (.ref (a)), some (.int (iI (j))), some (.int (iI (x))), some (.int (iI (ans))), some (.int (iI (fa (j * 6 + 2)))), some (.int (iI (fa (j * 6 + 0)))), none, none]) (by decide) rfl rfl dX4_readsInside_14 rfl ?_
  refine g_iload (q := 18) rfl dX4_readsInside_16 rfl ?_
  refine g_iconst (q := 19) dX4_readsInside_18 rfl ?_
  refine g_icmp_ne (t := 44) (q := 22) ⟨by omega, by omega⟩ ⟨by omega, by omega⟩ dX4_readsInside_19 rfl rfl (fun c19 => ?_) (fun c19 => ?_)
  · refine g_iload (q := 46) rfl dX4_readsInside_44 rfl ?_
    refine g_iconst (q := 47) dX4_readsInside_46 rfl ?_
    refine g_icmp_ne (t := 86) (q := 50) ⟨by omega, by omega⟩ ⟨by omega, by omega⟩ dX4_readsInside_47 rfl rfl (fun c47 => ?_) (fun c47 => ?_)
    · refine g_iconst (q := 87) dX4_readsInside_86 rfl ?_
      have e1 : rdI c ds (fa (j * 6 + 0)) (fa (j * 6 + 2)) (fa (j * 6 + 5)) x ans = 0 := by unfold rdI; rw [if_neg c19, if_neg c47]
      rw [e1]
      exact g_ireturn (fun z => NN_f z) (Nat.le_of_ble_eq_true rfl) (Nat.le_of_ble_eq_true rfl) dX4_readsInside_87 rfl rP_in
    · refine g_aload_n (q := 51) rfl rfl dX4_readsInside_50 rfl ?_
      refine g_iload_n (q := 52) rfl rfl dX4_readsInside_51 rfl ?_
      refine g_iconst (q := 53) dX4_readsInside_52 rfl ?_
      refine g_Vr (q := 56) (d' := 0) (i := a) (av := [.int (iI (j)), .int (iI (5))]) (st := []) (v := .int (iI (fa (j * 6 + 5)))) kvX4_44 (t_X4_factOf l h a c m ds fa hA0 j 5 h0 h1 (by decide) (by decide)) (by show _ < 103; omega) hP rfl (Nat.le_of_ble_eq_true rfl) ⟨(Nat.le_of_ble_eq_true rfl), (Nat.le_of_ble_eq_true rfl)⟩ ⟨(Nat.le_of_ble_eq_true rfl), (Nat.le_of_ble_eq_true rfl)⟩ rfl rfl dX4_readsInside_53 rfl ?_
      obtain ⟨d1, d2⟩ := div2_nn (a := x - fa (j * 6 + 2)) (w := fa (j * 6 + 5)) (by omega)
      have p5 := p2_512 w0 w9
      have pp := p2_pos (fa (j * 6 + 5)).toNat
      have d3 : (x - fa (j * 6 + 2)) / 2 ^ (fa (j * 6 + 5)).toNat * 2 ^ (fa (j * 6 + 5)).toNat ≤ x - fa (j * 6 + 2) := Int.ediv_mul_le _ (by omega)
      have d4 : 0 ≤ (x - fa (j * 6 + 2)) / 2 ^ (fa (j * 6 + 5)).toNat * 2 ^ (fa (j * 6 + 5)).toNat := Int.mul_nonneg d1 (by omega)
      refine g_istore (q := 58) (al2 := [some (.ref (a)), some (.int (iI (j))), some (.int (iI (x))), some (.int (iI (ans))), some (.int (iI (fa (j * 6 + 2)))), some (.int (iI (fa (j * 6 + 0)))), some (.int (iI (fa (j * 6 + 5)))), none]) (by decide) rfl rfl dX4_readsInside_56 rfl ?_
      refine g_iload (q := 60) rfl dX4_readsInside_58 rfl ?_
      refine g_iload_n (q := 61) rfl rfl dX4_readsInside_60 rfl ?_
      refine g_iload (q := 63) rfl dX4_readsInside_61 rfl ?_
      refine g_isub (q := 64) dX4_readsInside_63 rfl ?_
      refine g_iload (q := 66) rfl dX4_readsInside_64 rfl ?_
      refine g_ishr (q := 67) (by omega) (by omega) (by omega) (by omega) dX4_readsInside_66 rfl ?_
      refine g_iload (q := 69) rfl dX4_readsInside_67 rfl ?_
      refine g_ishl (q := 70) (by omega) (by omega) (by omega) (by omega) dX4_readsInside_69 rfl ?_
      refine g_iadd (q := 71) dX4_readsInside_70 rfl ?_
      refine g_istore (q := 73) (al2 := [some (.ref (a)), some (.int (iI (j))), some (.int (iI (x))), some (.int (iI (ans))), some (.int (iI (fa (j * 6 + 2)))), some (.int (iI (fa (j * 6 + 0)))), some (.int (iI (fa (j * 6 + 5)))), some (.int (iI ((fa (j * 6 + 2)) + (((x - (fa (j * 6 + 2))) / 2 ^ (fa (j * 6 + 5) : Int).toNat) * 2 ^ (fa (j * 6 + 5) : Int).toNat))))]) (by decide) rfl rfl dX4_readsInside_71 rfl ?_
      refine g_iconst (q := 74) dX4_readsInside_73 rfl ?_
      refine g_iload_n (q := 75) rfl rfl dX4_readsInside_74 rfl ?_
      refine g_iadd (q := 76) dX4_readsInside_75 rfl ?_
      refine g_aload_n (q := 77) rfl rfl dX4_readsInside_76 rfl ?_
      refine g_iload (q := 79) rfl dX4_readsInside_77 rfl ?_
      refine g_Vr (q := 82) (d' := 0) (i := a) (av := [.int (iI ((fa (j * 6 + 2)) + (((x - (fa (j * 6 + 2))) / 2 ^ (fa (j * 6 + 5) : Int).toNat) * 2 ^ (fa (j * 6 + 5) : Int).toNat)))]) (st := [.int (iI (1 + ans))]) (v := .int (iI (cb c ds (fa (j * 6 + 2) + (x - fa (j * 6 + 2)) / 2 ^ (fa (j * 6 + 5)).toNat * 2 ^ (fa (j * 6 + 5)).toNat)))) kvX4_54 (t_X4_countBelow l h a c m ds fa hA0 hO (fa (j * 6 + 2) + (x - fa (j * 6 + 2)) / 2 ^ (fa (j * 6 + 5)).toNat * 2 ^ (fa (j * 6 + 5)).toNat) ⟨by omega, by omega⟩) (by show _ < 103; omega) hP rfl (Nat.le_of_ble_eq_true rfl) ⟨(Nat.le_of_ble_eq_true rfl), (Nat.le_of_ble_eq_true rfl)⟩ ⟨(Nat.le_of_ble_eq_true rfl), (Nat.le_of_ble_eq_true rfl)⟩ rfl rfl dX4_readsInside_79 rfl ?_
      refine g_isub (q := 83) dX4_readsInside_82 rfl ?_
      refine g_iconst (q := 84) dX4_readsInside_83 rfl ?_
      refine g_iadd (q := 85) dX4_readsInside_84 rfl ?_
      have e1 : rdI c ds (fa (j * 6 + 0)) (fa (j * 6 + 2)) (fa (j * 6 + 5)) x ans = 1 + ans - cb c ds (fa (j * 6 + 2) + (x - fa (j * 6 + 2)) / 2 ^ (fa (j * 6 + 5)).toNat * 2 ^ (fa (j * 6 + 5)).toNat) + 1 := by unfold rdI; rw [if_neg c19, if_pos c47]
      rw [e1]
      exact g_ireturn (fun z => NN_f z) (Nat.le_of_ble_eq_true rfl) (Nat.le_of_ble_eq_true rfl) dX4_readsInside_85 rfl rP_in
  · refine g_aload_n (q := 23) rfl rfl dX4_readsInside_22 rfl ?_
    refine g_iload_n (q := 24) rfl rfl dX4_readsInside_23 rfl ?_
    refine g_Vr (q := 27) (d' := 0) (i := a) (av := [.int (iI (ans))]) (st := []) (v := .int (iI (dA c ds ans))) kvX4_31 (t_X4_documentAt l h a c m ds fa hA0 hO ans ⟨by omega, by omega⟩) (by show _ < 103; omega) hP rfl (Nat.le_of_ble_eq_true rfl) ⟨(Nat.le_of_ble_eq_true rfl), (Nat.le_of_ble_eq_true rfl)⟩ ⟨(Nat.le_of_ble_eq_true rfl), (Nat.le_of_ble_eq_true rfl)⟩ rfl rfl dX4_readsInside_24 rfl ?_
    refine g_iload (q := 29) rfl dX4_readsInside_27 rfl ?_
    refine g_isub (q := 30) dX4_readsInside_29 rfl ?_
    refine g_bipush (q := 32) (by decide) dX4_readsInside_30 rfl ?_
    refine g_idiv (q := 33) (by omega) (by omega) (by omega) (by omega) dX4_readsInside_32 rfl ?_
    refine g_iload_n (q := 34) rfl rfl dX4_readsInside_33 rfl ?_
    refine g_iload (q := 36) rfl dX4_readsInside_34 rfl ?_
    refine g_isub (q := 37) dX4_readsInside_36 rfl ?_
    refine g_bipush (q := 39) (by decide) dX4_readsInside_37 rfl ?_
    refine g_idiv (q := 40) (by omega) (by omega) (by omega) (by omega) dX4_readsInside_39 rfl ?_
    refine g_isub (q := 41) dX4_readsInside_40 rfl ?_
    refine g_iconst (q := 42) dX4_readsInside_41 rfl ?_
    refine g_iadd (q := 43) dX4_readsInside_42 rfl ?_
    have e1 : rdI c ds (fa (j * 6 + 0)) (fa (j * 6 + 2)) (fa (j * 6 + 5)) x ans = (dA c ds ans - fa (j * 6 + 2)) / 8 - (x - fa (j * 6 + 2)) / 8 + 1 := by unfold rdI; rw [if_pos c19]
    rw [e1]
    exact g_ireturn (fun z => NN_f z) (Nat.le_of_ble_eq_true rfl) (Nat.le_of_ble_eq_true rfl) dX4_readsInside_43 rfl rP_in
end
section
theorem zz_end : True := trivial
end
