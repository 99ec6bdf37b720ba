section
-- ===== PART A: goes FIRST, ahead of the names: the tables' words, and 'selects' of the private methods out of them =====
/-- a private method of a class that the tables say can be made, by its rows of tables_1 -/
def lw_okq (q : MethodName × Nat) : Prop := (q.1.cls ≠ "java/lang/invoke/MethodHandle" ∧ q.1.cls ≠ "java/lang/invoke/VarHandle") ∧ Cond.instantiable q.1.cls q.2 ∈ tables_1 ∧ Cond.privateMethod q.1 ∈ tables_1 ∧ Cond.instanceMethod q.1 ∈ tables_1
theorem lw_p0 : lw_okq (⟨"MonotonePostings", "mixList", "(JLMonotonePostings$Postings;)J"⟩, 6) := ⟨⟨by decide +kernel, by decide +kernel⟩, List.mem_of_getElem? (i := 18) (by decide +kernel), List.mem_of_getElem? (i := 181) (by decide +kernel), List.mem_of_getElem? (i := 182) (by decide +kernel)⟩
theorem lw_p1 : lw_okq (⟨"MonotonePostings$CodeRow", "putHeader", "(LMonotonePostings$Postings;I)V"⟩, 2) := ⟨⟨by decide +kernel, by decide +kernel⟩, List.mem_of_getElem? (i := 130) (by decide +kernel), List.mem_of_getElem? (i := 200) (by decide +kernel), List.mem_of_getElem? (i := 201) (by decide +kernel)⟩
theorem lw_p2 : lw_okq (⟨"MonotonePostings$CodeRow", "put", "(II)V"⟩, 2) := ⟨⟨by decide +kernel, by decide +kernel⟩, List.mem_of_getElem? (i := 130) (by decide +kernel), List.mem_of_getElem? (i := 204) (by decide +kernel), List.mem_of_getElem? (i := 205) (by decide +kernel)⟩
theorem lw_p3 : lw_okq (⟨"MonotonePostings$CodeRow", "putBitmap", "(LMonotonePostings$Postings;II)V"⟩, 2) := ⟨⟨by decide +kernel, by decide +kernel⟩, List.mem_of_getElem? (i := 130) (by decide +kernel), List.mem_of_getElem? (i := 213) (by decide +kernel), List.mem_of_getElem? (i := 214) (by decide +kernel)⟩
theorem lw_p4 : lw_okq (⟨"MonotonePostings$CodeRow", "setBit", "(I)V"⟩, 2) := ⟨⟨by decide +kernel, by decide +kernel⟩, List.mem_of_getElem? (i := 130) (by decide +kernel), List.mem_of_getElem? (i := 221) (by decide +kernel), List.mem_of_getElem? (i := 222) (by decide +kernel)⟩
theorem lw_p5 : lw_okq (⟨"MonotonePostings$CodeRow", "putHighParts", "(LMonotonePostings$Postings;II)V"⟩, 2) := ⟨⟨by decide +kernel, by decide +kernel⟩, List.mem_of_getElem? (i := 130) (by decide +kernel), List.mem_of_getElem? (i := 225) (by decide +kernel), List.mem_of_getElem? (i := 226) (by decide +kernel)⟩
theorem lw_p6 : lw_okq (⟨"MonotonePostings$CodeRow", "putLowParts", "(LMonotonePostings$Postings;II)V"⟩, 2) := ⟨⟨by decide +kernel, by decide +kernel⟩, List.mem_of_getElem? (i := 130) (by decide +kernel), List.mem_of_getElem? (i := 232) (by decide +kernel), List.mem_of_getElem? (i := 233) (by decide +kernel)⟩
theorem lw_p7 : lw_okq (⟨"MonotonePostings", "listAt", "(I)LMonotonePostings$Postings;"⟩, 6) := ⟨⟨by decide +kernel, by decide +kernel⟩, List.mem_of_getElem? (i := 18) (by decide +kernel), List.mem_of_getElem? (i := 250) (by decide +kernel), List.mem_of_getElem? (i := 251) (by decide +kernel)⟩
theorem lw_p8 : lw_okq (⟨"java/lang/Throwable", "fillInStackTrace", "(I)Ljava/lang/Throwable;"⟩, 6) := ⟨⟨by decide +kernel, by decide +kernel⟩, List.mem_of_getElem? (i := 298) (by decide +kernel), List.mem_of_getElem? (i := 296) (by decide +kernel), List.mem_of_getElem? (i := 297) (by decide +kernel)⟩
theorem lw_p9 : lw_okq (⟨"MonotonePostings", "recode", "(I)V"⟩, 6) := ⟨⟨by decide +kernel, by decide +kernel⟩, List.mem_of_getElem? (i := 18) (by decide +kernel), List.mem_of_getElem? (i := 396) (by decide +kernel), List.mem_of_getElem? (i := 397) (by decide +kernel)⟩
theorem lw_p10 : lw_okq (⟨"MonotonePostings$Partitioner", "chooseEnd", "(LMonotonePostings$Postings;I)V"⟩, 2) := ⟨⟨by decide +kernel, by decide +kernel⟩, List.mem_of_getElem? (i := 117) (by decide +kernel), List.mem_of_getElem? (i := 404) (by decide +kernel), List.mem_of_getElem? (i := 405) (by decide +kernel)⟩
theorem lw_p11 : lw_okq (⟨"MonotonePostings$Cache", "dropBetween", "(II)I"⟩, 3) := ⟨⟨by decide +kernel, by decide +kernel⟩, List.mem_of_getElem? (i := 34) (by decide +kernel), List.mem_of_getElem? (i := 433) (by decide +kernel), List.mem_of_getElem? (i := 434) (by decide +kernel)⟩
theorem lw_p12 : lw_okq (⟨"MonotonePostings", "writeResult", "(II)I"⟩, 6) := ⟨⟨by decide +kernel, by decide +kernel⟩, List.mem_of_getElem? (i := 18) (by decide +kernel), List.mem_of_getElem? (i := 448) (by decide +kernel), List.mem_of_getElem? (i := 449) (by decide +kernel)⟩
theorem lw_p13 : lw_okq (⟨"MonotonePostings$State", "queryInside", "(III)I"⟩, 4) := ⟨⟨by decide +kernel, by decide +kernel⟩, List.mem_of_getElem? (i := 26) (by decide +kernel), List.mem_of_getElem? (i := 549) (by decide +kernel), List.mem_of_getElem? (i := 550) (by decide +kernel)⟩
theorem lw_p14 : lw_okq (⟨"MonotonePostings$Cache", "shrinkTo", "(I)V"⟩, 3) := ⟨⟨by decide +kernel, by decide +kernel⟩, List.mem_of_getElem? (i := 34) (by decide +kernel), List.mem_of_getElem? (i := 558) (by decide +kernel), List.mem_of_getElem? (i := 559) (by decide +kernel)⟩
theorem lw_p15 : lw_okq (⟨"MonotonePostings", "findIntersection", "(I)I"⟩, 6) := ⟨⟨by decide +kernel, by decide +kernel⟩, List.mem_of_getElem? (i := 18) (by decide +kernel), List.mem_of_getElem? (i := 578) (by decide +kernel), List.mem_of_getElem? (i := 579) (by decide +kernel)⟩
def lw_privs_1 : List (MethodName × Nat) := [(⟨"MonotonePostings", "mixList", "(JLMonotonePostings$Postings;)J"⟩, 6), (⟨"MonotonePostings$CodeRow", "putHeader", "(LMonotonePostings$Postings;I)V"⟩, 2), (⟨"MonotonePostings$CodeRow", "put", "(II)V"⟩, 2), (⟨"MonotonePostings$CodeRow", "putBitmap", "(LMonotonePostings$Postings;II)V"⟩, 2), (⟨"MonotonePostings$CodeRow", "setBit", "(I)V"⟩, 2), (⟨"MonotonePostings$CodeRow", "putHighParts", "(LMonotonePostings$Postings;II)V"⟩, 2), (⟨"MonotonePostings$CodeRow", "putLowParts", "(LMonotonePostings$Postings;II)V"⟩, 2), (⟨"MonotonePostings", "listAt", "(I)LMonotonePostings$Postings;"⟩, 6), (⟨"java/lang/Throwable", "fillInStackTrace", "(I)Ljava/lang/Throwable;"⟩, 6), (⟨"MonotonePostings", "recode", "(I)V"⟩, 6), (⟨"MonotonePostings$Partitioner", "chooseEnd", "(LMonotonePostings$Postings;I)V"⟩, 2), (⟨"MonotonePostings$Cache", "dropBetween", "(II)I"⟩, 3), (⟨"MonotonePostings", "writeResult", "(II)I"⟩, 6), (⟨"MonotonePostings$State", "queryInside", "(III)I"⟩, 4), (⟨"MonotonePostings$Cache", "shrinkTo", "(I)V"⟩, 3), (⟨"MonotonePostings", "findIntersection", "(I)I"⟩, 6)]
theorem lw_r1 : ∀ q ∈ lw_privs_1, lw_okq q := List.forall_mem_cons.mpr ⟨lw_p0, List.forall_mem_cons.mpr ⟨lw_p1, List.forall_mem_cons.mpr ⟨lw_p2, List.forall_mem_cons.mpr ⟨lw_p3, List.forall_mem_cons.mpr ⟨lw_p4, List.forall_mem_cons.mpr ⟨lw_p5, List.forall_mem_cons.mpr ⟨lw_p6, List.forall_mem_cons.mpr ⟨lw_p7, List.forall_mem_cons.mpr ⟨lw_p8, List.forall_mem_cons.mpr ⟨lw_p9, List.forall_mem_cons.mpr ⟨lw_p10, List.forall_mem_cons.mpr ⟨lw_p11, List.forall_mem_cons.mpr ⟨lw_p12, List.forall_mem_cons.mpr ⟨lw_p13, List.forall_mem_cons.mpr ⟨lw_p14, List.forall_mem_cons.mpr ⟨lw_p15, fun _ h => absurd h List.not_mem_nil⟩⟩⟩⟩⟩⟩⟩⟩⟩⟩⟩⟩⟩⟩⟩⟩
theorem lw_p16 : lw_okq (⟨"MonotonePostings", "orderLists", "(I)I"⟩, 6) := ⟨⟨by decide +kernel, by decide +kernel⟩, List.mem_of_getElem? (i := 18) (by decide +kernel), List.mem_of_getElem? (i := 582) (by decide +kernel), List.mem_of_getElem? (i := 583) (by decide +kernel)⟩
theorem lw_p17 : lw_okq (⟨"MonotonePostings", "askOthers", "(II)I"⟩, 6) := ⟨⟨by decide +kernel, by decide +kernel⟩, List.mem_of_getElem? (i := 18) (by decide +kernel), List.mem_of_getElem? (i := 586) (by decide +kernel), List.mem_of_getElem? (i := 587) (by decide +kernel)⟩
theorem lw_p18 : lw_okq (⟨"MonotonePostings", "mergeIntoResult", "(LMonotonePostings$Postings;LMonotonePostings$Postings;)I"⟩, 6) := ⟨⟨by decide +kernel, by decide +kernel⟩, List.mem_of_getElem? (i := 18) (by decide +kernel), List.mem_of_getElem? (i := 604) (by decide +kernel), List.mem_of_getElem? (i := 605) (by decide +kernel)⟩
theorem lw_p19 : lw_okq (⟨"MonotonePostings", "differenceIntoResult", "(LMonotonePostings$Postings;LMonotonePostings$Postings;)I"⟩, 6) := ⟨⟨by decide +kernel, by decide +kernel⟩, List.mem_of_getElem? (i := 18) (by decide +kernel), List.mem_of_getElem? (i := 616) (by decide +kernel), List.mem_of_getElem? (i := 617) (by decide +kernel)⟩
theorem lw_p20 : lw_okq (⟨"MonotonePostingsModel", "fails", "(I)I"⟩, 12) := ⟨⟨by decide +kernel, by decide +kernel⟩, List.mem_of_getElem? (i := 650) (by decide +kernel), List.mem_of_getElem? (i := 708) (by decide +kernel), List.mem_of_getElem? (i := 709) (by decide +kernel)⟩
theorem lw_p21 : lw_okq (⟨"MonotonePostingsModel", "isBehind", "(II)Z"⟩, 12) := ⟨⟨by decide +kernel, by decide +kernel⟩, List.mem_of_getElem? (i := 650) (by decide +kernel), List.mem_of_getElem? (i := 712) (by decide +kernel), List.mem_of_getElem? (i := 713) (by decide +kernel)⟩
theorem lw_p22 : lw_okq (⟨"MonotonePostingsModel", "doc", "(II)I"⟩, 12) := ⟨⟨by decide +kernel, by decide +kernel⟩, List.mem_of_getElem? (i := 650) (by decide +kernel), List.mem_of_getElem? (i := 716) (by decide +kernel), List.mem_of_getElem? (i := 717) (by decide +kernel)⟩
theorem lw_p23 : lw_okq (⟨"MonotonePostingsModel", "save", "()V"⟩, 12) := ⟨⟨by decide +kernel, by decide +kernel⟩, List.mem_of_getElem? (i := 650) (by decide +kernel), List.mem_of_getElem? (i := 720) (by decide +kernel), List.mem_of_getElem? (i := 721) (by decide +kernel)⟩
theorem lw_p24 : lw_okq (⟨"MonotonePostingsModel", "changes", "(I)V"⟩, 12) := ⟨⟨by decide +kernel, by decide +kernel⟩, List.mem_of_getElem? (i := 650) (by decide +kernel), List.mem_of_getElem? (i := 724) (by decide +kernel), List.mem_of_getElem? (i := 725) (by decide +kernel)⟩
theorem lw_p25 : lw_okq (⟨"MonotonePostingsModel", "drop", "(I)V"⟩, 12) := ⟨⟨by decide +kernel, by decide +kernel⟩, List.mem_of_getElem? (i := 650) (by decide +kernel), List.mem_of_getElem? (i := 728) (by decide +kernel), List.mem_of_getElem? (i := 729) (by decide +kernel)⟩
theorem lw_p26 : lw_okq (⟨"MonotonePostingsModel", "add", "(II)V"⟩, 12) := ⟨⟨by decide +kernel, by decide +kernel⟩, List.mem_of_getElem? (i := 650) (by decide +kernel), List.mem_of_getElem? (i := 732) (by decide +kernel), List.mem_of_getElem? (i := 733) (by decide +kernel)⟩
theorem lw_p27 : lw_okq (⟨"MonotonePostingsModel", "lay", "(I)V"⟩, 12) := ⟨⟨by decide +kernel, by decide +kernel⟩, List.mem_of_getElem? (i := 650) (by decide +kernel), List.mem_of_getElem? (i := 760) (by decide +kernel), List.mem_of_getElem? (i := 761) (by decide +kernel)⟩
theorem lw_p28 : lw_okq (⟨"MonotonePostingsModel", "sizeOf", "(III)I"⟩, 12) := ⟨⟨by decide +kernel, by decide +kernel⟩, List.mem_of_getElem? (i := 650) (by decide +kernel), List.mem_of_getElem? (i := 765) (by decide +kernel), List.mem_of_getElem? (i := 766) (by decide +kernel)⟩
theorem lw_p29 : lw_okq (⟨"MonotonePostingsModel", "property", "(III)I"⟩, 12) := ⟨⟨by decide +kernel, by decide +kernel⟩, List.mem_of_getElem? (i := 650) (by decide +kernel), List.mem_of_getElem? (i := 782) (by decide +kernel), List.mem_of_getElem? (i := 783) (by decide +kernel)⟩
theorem lw_p30 : lw_okq (⟨"MonotonePostingsModel", "kindIn", "(II)I"⟩, 12) := ⟨⟨by decide +kernel, by decide +kernel⟩, List.mem_of_getElem? (i := 650) (by decide +kernel), List.mem_of_getElem? (i := 786) (by decide +kernel), List.mem_of_getElem? (i := 787) (by decide +kernel)⟩
theorem lw_p31 : lw_okq (⟨"MonotonePostingsModel", "documentsIn", "(II)I"⟩, 12) := ⟨⟨by decide +kernel, by decide +kernel⟩, List.mem_of_getElem? (i := 650) (by decide +kernel), List.mem_of_getElem? (i := 790) (by decide +kernel), List.mem_of_getElem? (i := 791) (by decide +kernel)⟩
def lw_privs_2 : List (MethodName × Nat) := [(⟨"MonotonePostings", "orderLists", "(I)I"⟩, 6), (⟨"MonotonePostings", "askOthers", "(II)I"⟩, 6), (⟨"MonotonePostings", "mergeIntoResult", "(LMonotonePostings$Postings;LMonotonePostings$Postings;)I"⟩, 6), (⟨"MonotonePostings", "differenceIntoResult", "(LMonotonePostings$Postings;LMonotonePostings$Postings;)I"⟩, 6), (⟨"MonotonePostingsModel", "fails", "(I)I"⟩, 12), (⟨"MonotonePostingsModel", "isBehind", "(II)Z"⟩, 12), (⟨"MonotonePostingsModel", "doc", "(II)I"⟩, 12), (⟨"MonotonePostingsModel", "save", "()V"⟩, 12), (⟨"MonotonePostingsModel", "changes", "(I)V"⟩, 12), (⟨"MonotonePostingsModel", "drop", "(I)V"⟩, 12), (⟨"MonotonePostingsModel", "add", "(II)V"⟩, 12), (⟨"MonotonePostingsModel", "lay", "(I)V"⟩, 12), (⟨"MonotonePostingsModel", "sizeOf", "(III)I"⟩, 12), (⟨"MonotonePostingsModel", "property", "(III)I"⟩, 12), (⟨"MonotonePostingsModel", "kindIn", "(II)I"⟩, 12), (⟨"MonotonePostingsModel", "documentsIn", "(II)I"⟩, 12)]
theorem lw_r2 : ∀ q ∈ lw_privs_2, lw_okq q := List.forall_mem_cons.mpr ⟨lw_p16, List.forall_mem_cons.mpr ⟨lw_p17, List.forall_mem_cons.mpr ⟨lw_p18, List.forall_mem_cons.mpr ⟨lw_p19, List.forall_mem_cons.mpr ⟨lw_p20, List.forall_mem_cons.mpr ⟨lw_p21, List.forall_mem_cons.mpr ⟨lw_p22, List.forall_mem_cons.mpr ⟨lw_p23, List.forall_mem_cons.mpr ⟨lw_p24, List.forall_mem_cons.mpr ⟨lw_p25, List.forall_mem_cons.mpr ⟨lw_p26, List.forall_mem_cons.mpr ⟨lw_p27, List.forall_mem_cons.mpr ⟨lw_p28, List.forall_mem_cons.mpr ⟨lw_p29, List.forall_mem_cons.mpr ⟨lw_p30, List.forall_mem_cons.mpr ⟨lw_p31, fun _ h => absurd h List.not_mem_nil⟩⟩⟩⟩⟩⟩⟩⟩⟩⟩⟩⟩⟩⟩⟩⟩
theorem lw_p32 : lw_okq (⟨"MonotonePostingsModel", "beginOf", "(II)I"⟩, 12) := ⟨⟨by decide +kernel, by decide +kernel⟩, List.mem_of_getElem? (i := 650) (by decide +kernel), List.mem_of_getElem? (i := 794) (by decide +kernel), List.mem_of_getElem? (i := 795) (by decide +kernel)⟩
theorem lw_p33 : lw_okq (⟨"MonotonePostingsModel", "widthOf", "(II)I"⟩, 12) := ⟨⟨by decide +kernel, by decide +kernel⟩, List.mem_of_getElem? (i := 650) (by decide +kernel), List.mem_of_getElem? (i := 798) (by decide +kernel), List.mem_of_getElem? (i := 799) (by decide +kernel)⟩
theorem lw_p34 : lw_okq (⟨"MonotonePostingsModel", "lastIn", "(II)I"⟩, 12) := ⟨⟨by decide +kernel, by decide +kernel⟩, List.mem_of_getElem? (i := 650) (by decide +kernel), List.mem_of_getElem? (i := 802) (by decide +kernel), List.mem_of_getElem? (i := 803) (by decide +kernel)⟩
theorem lw_p35 : lw_okq (⟨"MonotonePostingsModel", "firstIn", "(II)I"⟩, 12) := ⟨⟨by decide +kernel, by decide +kernel⟩, List.mem_of_getElem? (i := 650) (by decide +kernel), List.mem_of_getElem? (i := 806) (by decide +kernel), List.mem_of_getElem? (i := 807) (by decide +kernel)⟩
theorem lw_p36 : lw_okq (⟨"MonotonePostingsModel", "lowIn", "(II)I"⟩, 12) := ⟨⟨by decide +kernel, by decide +kernel⟩, List.mem_of_getElem? (i := 650) (by decide +kernel), List.mem_of_getElem? (i := 810) (by decide +kernel), List.mem_of_getElem? (i := 811) (by decide +kernel)⟩
theorem lw_p37 : lw_okq (⟨"MonotonePostingsModel", "bitsOf", "(I)I"⟩, 12) := ⟨⟨by decide +kernel, by decide +kernel⟩, List.mem_of_getElem? (i := 650) (by decide +kernel), List.mem_of_getElem? (i := 818) (by decide +kernel), List.mem_of_getElem? (i := 819) (by decide +kernel)⟩
theorem lw_p38 : lw_okq (⟨"MonotonePostingsModel", "bitOf", "(II)I"⟩, 12) := ⟨⟨by decide +kernel, by decide +kernel⟩, List.mem_of_getElem? (i := 650) (by decide +kernel), List.mem_of_getElem? (i := 826) (by decide +kernel), List.mem_of_getElem? (i := 827) (by decide +kernel)⟩
theorem lw_p39 : lw_okq (⟨"MonotonePostingsModel", "headerBit", "(III)I"⟩, 12) := ⟨⟨by decide +kernel, by decide +kernel⟩, List.mem_of_getElem? (i := 650) (by decide +kernel), List.mem_of_getElem? (i := 830) (by decide +kernel), List.mem_of_getElem? (i := 831) (by decide +kernel)⟩
theorem lw_p40 : lw_okq (⟨"MonotonePostingsModel", "bodyBit", "(III)I"⟩, 12) := ⟨⟨by decide +kernel, by decide +kernel⟩, List.mem_of_getElem? (i := 650) (by decide +kernel), List.mem_of_getElem? (i := 834) (by decide +kernel), List.mem_of_getElem? (i := 835) (by decide +kernel)⟩
theorem lw_p41 : lw_okq (⟨"MonotonePostingsModel", "asks", "(II)I"⟩, 12) := ⟨⟨by decide +kernel, by decide +kernel⟩, List.mem_of_getElem? (i := 650) (by decide +kernel), List.mem_of_getElem? (i := 850) (by decide +kernel), List.mem_of_getElem? (i := 851) (by decide +kernel)⟩
theorem lw_p42 : lw_okq (⟨"MonotonePostingsModel", "opens", "(III)I"⟩, 12) := ⟨⟨by decide +kernel, by decide +kernel⟩, List.mem_of_getElem? (i := 650) (by decide +kernel), List.mem_of_getElem? (i := 854) (by decide +kernel), List.mem_of_getElem? (i := 855) (by decide +kernel)⟩
theorem lw_p43 : lw_okq (⟨"MonotonePostingsModel", "readsFor", "(IIII)I"⟩, 12) := ⟨⟨by decide +kernel, by decide +kernel⟩, List.mem_of_getElem? (i := 650) (by decide +kernel), List.mem_of_getElem? (i := 858) (by decide +kernel), List.mem_of_getElem? (i := 859) (by decide +kernel)⟩
theorem lw_p44 : lw_okq (⟨"MonotonePostingsModel", "meets", "(I)I"⟩, 12) := ⟨⟨by decide +kernel, by decide +kernel⟩, List.mem_of_getElem? (i := 650) (by decide +kernel), List.mem_of_getElem? (i := 869) (by decide +kernel), List.mem_of_getElem? (i := 870) (by decide +kernel)⟩
theorem lw_p45 : lw_okq (⟨"MonotonePostingsModel", "writes", "(II)I"⟩, 12) := ⟨⟨by decide +kernel, by decide +kernel⟩, List.mem_of_getElem? (i := 650) (by decide +kernel), List.mem_of_getElem? (i := 877) (by decide +kernel), List.mem_of_getElem? (i := 878) (by decide +kernel)⟩
theorem lw_p46 : lw_okq (⟨"MonotonePostingsModel", "has", "(II)Z"⟩, 12) := ⟨⟨by decide +kernel, by decide +kernel⟩, List.mem_of_getElem? (i := 650) (by decide +kernel), List.mem_of_getElem? (i := 885) (by decide +kernel), List.mem_of_getElem? (i := 886) (by decide +kernel)⟩
def lw_privs_3 : List (MethodName × Nat) := [(⟨"MonotonePostingsModel", "beginOf", "(II)I"⟩, 12), (⟨"MonotonePostingsModel", "widthOf", "(II)I"⟩, 12), (⟨"MonotonePostingsModel", "lastIn", "(II)I"⟩, 12), (⟨"MonotonePostingsModel", "firstIn", "(II)I"⟩, 12), (⟨"MonotonePostingsModel", "lowIn", "(II)I"⟩, 12), (⟨"MonotonePostingsModel", "bitsOf", "(I)I"⟩, 12), (⟨"MonotonePostingsModel", "bitOf", "(II)I"⟩, 12), (⟨"MonotonePostingsModel", "headerBit", "(III)I"⟩, 12), (⟨"MonotonePostingsModel", "bodyBit", "(III)I"⟩, 12), (⟨"MonotonePostingsModel", "asks", "(II)I"⟩, 12), (⟨"MonotonePostingsModel", "opens", "(III)I"⟩, 12), (⟨"MonotonePostingsModel", "readsFor", "(IIII)I"⟩, 12), (⟨"MonotonePostingsModel", "meets", "(I)I"⟩, 12), (⟨"MonotonePostingsModel", "writes", "(II)I"⟩, 12), (⟨"MonotonePostingsModel", "has", "(II)Z"⟩, 12)]
theorem lw_r3 : ∀ q ∈ lw_privs_3, lw_okq q := List.forall_mem_cons.mpr ⟨lw_p32, List.forall_mem_cons.mpr ⟨lw_p33, List.forall_mem_cons.mpr ⟨lw_p34, List.forall_mem_cons.mpr ⟨lw_p35, List.forall_mem_cons.mpr ⟨lw_p36, List.forall_mem_cons.mpr ⟨lw_p37, List.forall_mem_cons.mpr ⟨lw_p38, List.forall_mem_cons.mpr ⟨lw_p39, List.forall_mem_cons.mpr ⟨lw_p40, List.forall_mem_cons.mpr ⟨lw_p41, List.forall_mem_cons.mpr ⟨lw_p42, List.forall_mem_cons.mpr ⟨lw_p43, List.forall_mem_cons.mpr ⟨lw_p44, List.forall_mem_cons.mpr ⟨lw_p45, List.forall_mem_cons.mpr ⟨lw_p46, fun _ h => absurd h List.not_mem_nil⟩⟩⟩⟩⟩⟩⟩⟩⟩⟩⟩⟩⟩⟩⟩
def lw_privs : List (MethodName × Nat) := lw_privs_1 ++ (lw_privs_2 ++ (lw_privs_3))
def lw_tbl : List Cond := k2_sels lw_privs ++ tables_1
theorem lw_privs_ok : ∀ q ∈ lw_privs, lw_okq q := by
  show ∀ q ∈ lw_privs_1 ++ (lw_privs_2 ++ (lw_privs_3)), lw_okq q
  exact List.forall_mem_append.mpr ⟨lw_r1, List.forall_mem_append.mpr ⟨lw_r2, lw_r3⟩⟩
/-- the streams that the claim lets the run draw from -/
abbrev lw_cs : List Choice := [Jvm.Choice.named "NaN.bits"]
theorem lw_bits : nanBits ∈ lw_cs := by first | decide | exact List.mem_cons_self | simp [lw_cs, nanBits]
/-! ===== BEGIN words of one list among another's, by their places ===== -/
theorem goodIn_r {big : List Cond} (ws : List Cond) (ps : List Nat) (hp : ws = ps.filterMap (fun i => big[i]?)) (h : ws.all goodWord = true) : GoodIn big ws := by
  intro w hw
  have h1 := List.all_eq_true.mp h w hw
  rw [hp] at hw
  obtain ⟨i, -, hi⟩ := List.mem_filterMap.mp hw
  have hm : w ∈ big := by first | exact List.mem_of_getElem? hi | exact List.getElem?_mem hi
  exact ⟨hm, good_of_word h1⟩
theorem goodIn_app {big a b : List Cond} (ha : GoodIn big a) (hb : GoodIn big b) : GoodIn big (a ++ b) := fun w h => (List.mem_append.mp h).elim (ha w) (hb w)
theorem goodIn_ca {big a b : List Cond} {c : Cond} (ha : GoodIn big (c :: a)) (hb : GoodIn big b) : GoodIn big (c :: (a ++ b)) := fun w h => (List.mem_cons.mp h).elim (fun e => ha w (List.mem_cons.mpr (Or.inl e))) (fun h => (List.mem_append.mp h).elim (fun h => ha w (List.mem_cons.mpr (Or.inr h))) (hb w))
theorem goodIn_sub {big ws : List Cond} (hm : ∀ w ∈ ws, w ∈ big) (h : ws.all goodWord = true) : GoodIn big ws := fun w hw => ⟨hm w hw, good_of_word (List.all_eq_true.mp h w hw)⟩
/-! ===== END ===== -/

/-! ===== BEGIN exceptions that leave a method, and their catching by the caller (launches without stack traces) ===== -/
section VXA
/-! The laws vx_back, vx_callV, vx_callS, vx_callSW, vx_throw0, vx_throwS follow proofs of the library, with one case more: JvmDerived/Free/Laws.lean (Back.of_free), Shelf42/LK1.lean (callV, callS), Shelf/KitTraced.lean (throwNew0V, throwNewS). -/
/-- where a method has thrown q: the class by its name, the cell, what was written, the world -/
def vx_T (XC : String → State → State → Prop) (st : State) (q : Addr) (t : State) (mc ms : Nat) (free : Addr → Prop) : Prop :=
  ∃ (E : String) (ce : Cell) (L : List Loc), XC E st t ∧ t.heap[q]? = some ce ∧ ce.vm = .none ∧ st.vm.findClass E = some ce.cls ∧ st.WarmedH t.vm ∧ st.sameButNew ({ t with vm := st.vm } : State) L mc ms ∧ ∀ z ∈ L, free z.base
def vx_Q (Qc : Array Value → State → Outcome → State → Prop) (XC : String → State → State → Prop) (mc ms : Nat) (free : Addr → Prop) : Array Value → State → Outcome → State → Prop := fun a st o t =>
  (Qc a st o t ∧ ∃ L, FrameEnd st o t L mc ms ∧ ∀ q ∈ L, free q.base) ∨ ∃ q, o = .threw q ∧ vx_T XC st q t mc ms free
/-- a callee that returns or throws -/
def vx_Met (l : Launch) (y : MethodName) (ws : List Cond) (rm : Room) (Pc : Array Value → State → Prop) (Qc : Array Value → State → Outcome → State → Prop) (XC : String → State → State → Prop) (mc ms : Nat) (free : Addr → Prop) : Prop :=
  MetFree l y (headSpec ws rm) Pc (fun _ _ _ _ _ => True) (vx_Q Qc XC mc ms free)
def vx_Post (XC : String → State → State → Prop) (mc ms : Nat) (free : Addr → Prop) : Pt → Array Value → Addr → Pt → Prop := fun A a q B =>
  ∃ (g : JFrame) (mk : MethodId) (t : State) (L : List Loc) (E : String) (ce : Cell), B.U.heap = t.heap ∧ B.U.vm = t.vm ∧ XC E (A.U.calling g mk a) t ∧ t.heap[q]? = some ce ∧ ce.vm = .none ∧ A.U.vm.findClass E = some ce.cls ∧ B.locs = A.locs ++ L ∧ (∀ z ∈ L, free z.base) ∧ B.cells = A.cells + mc ∧ B.slots = A.slots + ms
def vx_Back (l : Launch) (R : Room) (p : Program) (e : Env) (below : List Frame) (s : State) (sargs : Array Value) (y : MethodName) (len W9 : Nat)
    (Pre : Pt → Array Value → Prop) (Post : Pt → Array Value → Option Value → Pt → Prop) (PostX : Pt → Array Value → Addr → Pt → Prop) : Prop :=
  ∀ (m : MethodId) (meth : Method) (c : Code) (A : Pt) (g : JFrame) (ig : Instr) (mk : MethodId) (a : Array Value),
    Stand p l e R s m sargs below meth c A.U A.locs A.cells A.slots → g.method = m → g.locals.size = c.maxLocals → decode c.code g.pc = .ok (ig, len) →
    2 * g.monitorRoom + (g.stack.map fun v => v.category).sum ≤ W9 → A.U.methodNamed? y = some mk → Pre A a →
    (∃ (v : Option Value) (B : Pt), Stand p l e R s m sargs below meth c B.U B.locs B.cells B.slots ∧ Post A a v B ∧
      Steps p.tables e below (doInvoke e (A.U.setTop g) [] mk a).1 (B.U.setTop { g with pc := g.pc + len, stack := v.toList ++ g.stack })) ∨
    (∃ (q : Addr) (B : Pt), Stand p l e R s m sargs below meth c B.U B.locs B.cells B.slots ∧ PostX A a q B ∧
      Steps p.tables e below (doInvoke e (A.U.setTop g) [] mk a).1 ((B.U.setTop g).pushFrame (.throwing q)))
section Payer
variable {l : Launch} {R : Room} {p : Program} {e : Env} {below : List Frame} {s : State} {sargs : Array Value} {y : MethodName} {len W9 : Nat}
theorem vx_back {ws : List Cond} {rm : Room} {Pc : Array Value → State → Prop} {Qc : Array Value → State → Outcome → State → Prop} {XC : String → State → State → Prop} {mc ms : Nat} {free : Addr → Prop} {bytes : ByteArray} {maxL : Nat} {ret : Option FieldType}
    (hM : vx_Met l y ws rm Pc Qc XC mc ms free) (hblind : FrameBlind Pc) (hrc : rm.cells = mc) (hrs : rm.slots = ms)
    (hframes : rm.frames + 1 ≤ R.frames) (hlocals : W9 + (maxL + 11) + rm.locals ≤ R.locals)
    (hws : ∀ w ∈ ws, ∀ a' U, s.WarmedH U.vm → w.before a' U = true) (hcode : Cond.code y bytes maxL ret ∈ ws) (hinit : ∀ a' U, s.WarmedH U.vm → (Cond.initialized y.cls).before a' U = true) :
    vx_Back l R p e below s sargs y len W9 (PreOf R mc ms Pc) (PostOf Qc mc ms free) (vx_Post XC mc ms free) := by
  intro m meth c A g ig mk a X hg hsize hdg hW hn hp
  have h1 : (headSpec ws rm).pre.before a A.U = true := atoms_intro fun w hw => hws w hw _ _ X.warmed
  have h2 : (Cond.code y bytes maxL ret).before a A.U = true := hws _ hcode _ _ X.warmed
  have h3 : (Cond.initialized y.cls).before a A.U = true := hinit _ _ X.warmed
  have h4 : A.cells + (headSpec ws rm).room.cells ≤ R.cells := by rw [show (headSpec ws rm).room.cells = mc from hrc]; exact hp.1
  have h5 : A.slots + (headSpec ws rm).room.slots ≤ R.slots := by rw [show (headSpec ws rm).room.slots = ms from hrs]; exact hp.2.1
  have hPc : Pc a (A.U.calling g mk a) := hblind _ _ _ _ hp.2.2
  obtain ⟨U, Ls, c0, s0⟩ := A
  dsimp only [Pt.U, Pt.locs, Pt.cells, Pt.slots] at h1 h2 h3 h4 h5 X hn hPc ⊢
  obtain ⟨methY, cY, hmY, hcY, -, hlY, -, -, -, -⟩ := Cond.code_spec hn h2
  obtain ⟨kY, hkY, -⟩ := className_of_methodNamed hn
  have hinitY : kY.init = .initialized := Cond.initialized_spec (findClass_of_methodNamed hn) hkY h3
  have h : At U g.method c below := by rw [hg]; exact X.here
  have hlocals9 : W9 + (maxL + 11) + (headSpec ws rm).room.locals ≤ R.locals := hlocals
  have happ : (headSpec ws rm).appliesLoose y e.platform (U.calling g mk a) = true :=
    Spec.appliesLoose_calling (g := g) h hdg hn hkY hinitY
      (X.room_calling (g := g) (R' := (headSpec ws rm).room) hsize hmY hcY hframes (by rw [hlY]; omega) h4 h5) h1
  obtain ⟨mid, hmid⟩ := h.above
  have hfr : (U.setTop g).frames = (.java g :: mid) ++ below := by rw [State.frames_setTop' g h.top, hmid]; rfl
  obtain ⟨o, s₂, hsteps, -, hend, hq⟩ := Steps.callFree hM p X.admits X.cas X.clock (acts := []) hfr happ hPc trivial
  have hq' : vx_Q Qc XC mc ms free a (U.calling g mk a) o s₂ := hq
  rw [State.frames_setTop' g h.top] at hend
  obtain ⟨g₀, hg0⟩ := Option.isSome_iff_exists.mp h.top
  obtain ⟨r, hr⟩ := State.topJava?_eq_some.mp hg0
  have hr' : (({ U with heap := s₂.heap, slotsUsed := s₂.slotsUsed } : State).setVm s₂.vm).frames = .java g₀ :: r := hr
  rcases hq' with ⟨hqc, L, hfe, hL⟩ | ⟨q, rfl, E, ce, L, hx, hce, hcv, hcl, hW₂, hsm, hL⟩
  · obtain ⟨⟨v, rfl⟩, hW₂, e2, q2, q3, q4, q5, q6⟩ := id hfe
    have e3 : s₂ = ({ (U.calling g mk a).setFrames s₂.frames with heap := s₂.heap, slotsUsed := s₂.slotsUsed } : State).setVm s₂.vm := by
      have : s₂ = ({ s₂ with vm := (U.calling g mk a).vm } : State).setVm s₂.vm := rfl
      rw [e2] at this
      exact this
    obtain ⟨c₂, i₂, len₂, hc₂, hd₂, hf₂⟩ := hend
    have hW' : U.WarmedH s₂.vm := hW₂
    have hcc : c₂ = c := by
      have h1 : s₂.code? g.method = U.code? g.method := by
        rw [State.code?_eq, State.code?_eq, hW'.alike.method?]
      exact Option.some.inj (hc₂.symm.trans (h1.trans h.code))
    subst hcc
    have hlen : len₂ = len := by rw [hdg] at hd₂; cases hd₂; rfl
    subst hlen
    have hs₂ : s₂ = (({ U with heap := s₂.heap, slotsUsed := s₂.slotsUsed } : State).setVm s₂.vm).setTop { g with pc := g.pc + len₂, stack := v.toList ++ g.stack } := by
      refine e3.trans ?_
      rw [hf₂, State.calling_eq h.top, State.setFrames_setFrames, State.setTop_of_frames _ hr', hr]
      rfl
    have hsame : U.sameButNew ({ U with heap := s₂.heap, slotsUsed := s₂.slotsUsed } : State) L mc ms := by
      refine ⟨?_, q2, q3, q4, q5, q6⟩
      obtain ⟨t, ht, -⟩ := State.frames_cons hr
      show ({ U with heap := s₂.heap, slotsUsed := s₂.slotsUsed } : State) = { U.setFrames U.frames with heap := s₂.heap, slotsUsed := s₂.slotsUsed }
      rw [State.setFrames_self ht]
    subst hg
    refine Or.inl ⟨v, ⟨(({ U with heap := s₂.heap, slotsUsed := s₂.slotsUsed } : State).setVm s₂.vm), Ls ++ L, c0 + mc, s0 + ms⟩,
      ⟨X.admits, X.cas, X.clock, X.frames, X.room, X.hears, X.method, X.code, (X.here.setHeapUsed s₂.heap s₂.slotsUsed).setVm hW'.alike, X.tail, State.WarmedH.trans X.warmed hW', X.limits, X.bytes, X.same.trans (hsame.setVm s.vm)⟩,
      ⟨g, mk, s₂, L, rfl, rfl, hqc, rfl, hL, rfl, rfl⟩, ?_⟩
    show Steps p.tables e below _ ((({ U with heap := s₂.heap, slotsUsed := s₂.slotsUsed } : State).setVm s₂.vm).setTop { g with pc := g.pc + len₂, stack := v.toList ++ g.stack })
    rw [← hs₂]
    exact hsteps
  · obtain ⟨e2, q2, q3, q4, q5, q6⟩ := id hsm
    have e3 : s₂ = ({ (U.calling g mk a).setFrames s₂.frames with heap := s₂.heap, slotsUsed := s₂.slotsUsed } : State).setVm s₂.vm := by
      have : s₂ = ({ s₂ with vm := (U.calling g mk a).vm } : State).setVm s₂.vm := rfl
      rw [e2] at this
      exact this
    have hf₂ : s₂.frames = .throwing q :: .java g :: U.frames.tail := hend
    have hW' : U.WarmedH s₂.vm := hW₂
    have hs₂ : s₂ = ((({ U with heap := s₂.heap, slotsUsed := s₂.slotsUsed } : State).setVm s₂.vm).setTop g).pushFrame (.throwing q) := by
      refine e3.trans ?_
      rw [hf₂, State.calling_eq h.top, State.setFrames_setFrames, State.pushFrame, State.frames_setTop _ hr', State.setTop_of_frames _ hr', State.setFrames_setFrames, hr]
      rfl
    have hsame : U.sameButNew ({ U with heap := s₂.heap, slotsUsed := s₂.slotsUsed } : State) L mc ms := by
      refine ⟨?_, q2, q3, q4, q5, q6⟩
      obtain ⟨t, ht, -⟩ := State.frames_cons hr
      show ({ U with heap := s₂.heap, slotsUsed := s₂.slotsUsed } : State) = { U.setFrames U.frames with heap := s₂.heap, slotsUsed := s₂.slotsUsed }
      rw [State.setFrames_self ht]
    subst hg
    refine Or.inr ⟨q, ⟨(({ U with heap := s₂.heap, slotsUsed := s₂.slotsUsed } : State).setVm s₂.vm), Ls ++ L, c0 + mc, s0 + ms⟩,
      ⟨X.admits, X.cas, X.clock, X.frames, X.room, X.hears, X.method, X.code, (X.here.setHeapUsed s₂.heap s₂.slotsUsed).setVm hW'.alike, X.tail, State.WarmedH.trans X.warmed hW', X.limits, X.bytes, X.same.trans (hsame.setVm s.vm)⟩,
      ⟨g, mk, s₂, L, E, ce, rfl, rfl, hx, hce, hcv, hcl, rfl, hL, rfl, rfl⟩, ?_⟩
    show Steps p.tables e below _ (((({ U with heap := s₂.heap, slotsUsed := s₂.slotsUsed } : State).setVm s₂.vm).setTop g).pushFrame (.throwing q))
    rw [← hs₂]
    exact hsteps
end Payer
section Calls
variable {p : Program} {l : Launch} {e : Env} {R : Room} {s : State} {m : MethodId} {args : Array Value} {below : List Frame} {meth : Method} {c : Code} {T : State} {locs : List Loc} {cells slots : Nat}
theorem vx_callV (X : Stand p l e R s m args below meth c T locs cells slots) (hexec : p.tables.exec = Jvm.exec) {own C : String} {index : Nat} {y : MethodName} {bytes : ByteArray} {maxL : Nat} {ret : Option FieldType}
    (hown : s.vm.findClass own = some m.cls) (hlink : (Cond.methodLink own index y).before args s = true) (hinst : (Cond.instanceMethod y).before args s = true) (hsel : (Cond.selects C y y).before args s = true)
    (hcode : (Cond.code y bytes maxL ret).before args s = true) (hy : y.cls ≠ "java/lang/invoke/MethodHandle" ∧ y.cls ≠ "java/lang/invoke/VarHandle")
    {W9 : Nat} {Pre : Pt → Array Value → Prop} {Post : Pt → Array Value → Option Value → Pt → Prop} {PostX : Pt → Array Value → Addr → Pt → Prop} (hK : vx_Back l R p e below s args y 3 W9 Pre Post PostX)
    {b : Addr} {cellB : Cell} (hcell : T.heap[b]? = some cellB) (hobj : cellB.vm.isStatics = false) (hcls : s.vm.findClass C = some cellB.cls)
    {g : JFrame} (hg : g.method = m) (hsize : g.locals.size = c.maxLocals) {argsL rest : List Value} (hlen : ∀ sig, parseMethodDescriptor y.desc = some sig → argsL.length = sig.parameters.length)
    (hstack : g.stack = argsL.reverse ++ .ref b :: rest) (hW : 2 * g.monitorRoom + (rest.map fun v => v.category).sum ≤ W9) (hdg : decode c.code g.pc = .ok (.invokevirtual index, 3))
    (hpre : ∀ vm₁, s.WarmedH vm₁ → Pre ⟨T.setVm vm₁, locs, cells, slots⟩ (Value.ref b :: argsL).toArray) :
    (∃ (v : Option Value) (vm₁ : Vm) (B : Pt), s.WarmedH vm₁ ∧ Stand p l e R s m args below meth c B.U B.locs B.cells B.slots ∧ Post ⟨T.setVm vm₁, locs, cells, slots⟩ (Value.ref b :: argsL).toArray v B ∧
      ∀ target, Steps p.tables e below (B.U.setTop { g with pc := g.pc + 3, stack := v.toList ++ rest }) target → Steps p.tables e below (T.setTop g) target) ∨
    (∃ (q : Addr) (vm₁ : Vm) (B : Pt), s.WarmedH vm₁ ∧ Stand p l e R s m args below meth c B.U B.locs B.cells B.slots ∧ PostX ⟨T.setVm vm₁, locs, cells, slots⟩ (Value.ref b :: argsL).toArray q B ∧
      Steps p.tables e below (T.setTop g) ((B.U.setTop { g with stack := rest }).pushFrame (.throwing q))) := by
  obtain ⟨mk, methM, hnamed, hmethM, hstM, habM⟩ := Cond.instanceMethod_spec hinst
  obtain ⟨methM', cM, hmethM', -, -, -, -, -, -, hsigM⟩ := Cond.code_spec hnamed hcode
  cases hmethM.symm.trans hmethM'
  obtain ⟨c2, r2, m2, q1, q2, q3, q4, kP, hkP, hkPi⟩ := Cond.selects_spec hsel
  cases hcls.symm.trans q1
  cases (State.methodFound?_of_named hnamed hy).symm.trans q2
  cases hnamed.symm.trans q3
  have hselP : selectMethod e.platform s.vm cellB.cls mk = .method mk := by rw [Launch.admits_selectMethod X.admits]; exact q4
  obtain ⟨vm₁, X₁, hstep₁⟩ := X.invokevirtual hexec hown hlink hnamed hmethM hstM hkP hkPi hy (a := b) (cell := cellB) hcell
    (fun z h => by rw [h] at hobj; cases hobj) hselP hmethM habM hkP hkPi (g := g) hg (argsL := argsL) (rest := rest) (hlen _ hsigM) hstack hdg
  rcases hK m meth c ⟨T.setVm vm₁, locs, cells, slots⟩ { g with stack := rest } (.invokevirtual index) mk (Value.ref b :: argsL).toArray X₁ hg hsize hdg hW (X₁.named hnamed) (hpre vm₁ X₁.warmed) with ⟨v, B, X', hpost, hsteps⟩ | ⟨q, B, X', hpost, hsteps⟩
  · exact Or.inl ⟨v, vm₁, B, X₁.warmed, X', hpost, fun target h => hstep₁ _ fun acts => by rw [doInvoke_state]; exact hsteps.trans h⟩
  · exact Or.inr ⟨q, vm₁, B, X₁.warmed, X', hpost, hstep₁ _ fun acts => by rw [doInvoke_state]; exact hsteps⟩
theorem vx_callS (X : Stand p l e R s m args below meth c T locs cells slots) (hexec : p.tables.exec = Jvm.exec) {own : String} {index : Nat} {y : MethodName} {bytes : ByteArray} {maxL : Nat} {ret : Option FieldType}
    (hown : s.vm.findClass own = some m.cls) (hlink : (Cond.methodLink own index y).before args s = true) (hstat : (Cond.static y).before args s = true) (hinit : (Cond.initialized y.cls).before args s = true)
    (hcode : (Cond.code y bytes maxL ret).before args s = true) (hy : y.cls ≠ "java/lang/invoke/MethodHandle" ∧ y.cls ≠ "java/lang/invoke/VarHandle")
    {W9 : Nat} {Pre : Pt → Array Value → Prop} {Post : Pt → Array Value → Option Value → Pt → Prop} {PostX : Pt → Array Value → Addr → Pt → Prop} (hK : vx_Back l R p e below s args y 3 W9 Pre Post PostX)
    {g : JFrame} (hg : g.method = m) (hsize : g.locals.size = c.maxLocals) {argsL rest : List Value} (hlen : ∀ sig, parseMethodDescriptor y.desc = some sig → argsL.length = sig.parameters.length)
    (hstack : g.stack = argsL.reverse ++ rest) (hW : 2 * g.monitorRoom + (rest.map fun v => v.category).sum ≤ W9) (hdg : decode c.code g.pc = .ok (.invokestatic index, 3))
    (hpre : ∀ vm₁, s.WarmedH vm₁ → Pre ⟨T.setVm vm₁, locs, cells, slots⟩ argsL.toArray) :
    (∃ (v : Option Value) (vm₁ : Vm) (B : Pt), s.WarmedH vm₁ ∧ Stand p l e R s m args below meth c B.U B.locs B.cells B.slots ∧ Post ⟨T.setVm vm₁, locs, cells, slots⟩ argsL.toArray v B ∧
      ∀ target, Steps p.tables e below (B.U.setTop { g with pc := g.pc + 3, stack := v.toList ++ rest }) target → Steps p.tables e below (T.setTop g) target) ∨
    (∃ (q : Addr) (vm₁ : Vm) (B : Pt), s.WarmedH vm₁ ∧ Stand p l e R s m args below meth c B.U B.locs B.cells B.slots ∧ PostX ⟨T.setVm vm₁, locs, cells, slots⟩ argsL.toArray q B ∧
      Steps p.tables e below (T.setTop g) ((B.U.setTop { g with stack := rest }).pushFrame (.throwing q))) := by
  obtain ⟨mk, hnamed⟩ := Cond.code_named hcode
  obtain ⟨methM, cM, hmethM, -, -, -, -, -, -, hsigM⟩ := Cond.code_spec hnamed hcode
  have hstatic : methM.isStatic = true := Cond.static_spec hnamed hmethM hstat
  obtain ⟨kP, hkP, -⟩ := className_of_methodNamed hnamed
  have hinitP : kP.init = .initialized := Cond.initialized_spec (findClass_of_methodNamed hnamed) hkP hinit
  obtain ⟨vm₁, X₁, hstep₁⟩ := X.invokestatic hexec hown hlink hnamed hmethM hstatic hkP hinitP hy (g := g) hg (argsL := argsL) (rest := rest) (hlen _ hsigM) hstack hdg
  rcases hK m meth c ⟨T.setVm vm₁, locs, cells, slots⟩ { g with stack := rest } (.invokestatic index) mk argsL.toArray X₁ hg hsize hdg hW (X₁.named hnamed) (hpre vm₁ X₁.warmed) with ⟨v, B, X', hpost, hsteps⟩ | ⟨q, B, X', hpost, hsteps⟩
  · exact Or.inl ⟨v, vm₁, B, X₁.warmed, X', hpost, fun target h => hstep₁ _ fun acts => by rw [doInvoke_state]; exact hsteps.trans h⟩
  · exact Or.inr ⟨q, vm₁, B, X₁.warmed, X', hpost, hstep₁ _ fun acts => by rw [doInvoke_state]; exact hsteps⟩
end Calls
theorem vx_cls {s : State} {T : State} {vm₁ : Vm} {E : String} {k : ClassId} (hW : s.WarmedH vm₁) (h : (T.setVm vm₁).vm.findClass E = some k) : s.vm.findClass E = some k := by
  have h1 : vm₁.findClass E = some k := h
  rw [hW.alike.findClass] at h1
  exact h1
/-- the method's frame g, with q thrown over it -/
def vx_W (p : Program) (l : Launch) (e : Env) (R : Room) (s : State) (m : MethodId) (args : Array Value) (below : List Frame) (meth : Method) (c : Code) (H : Heap) (locs : List Loc) (cells slots : Nat) (Q : State → Prop) (g : JFrame) (q : Addr) : Prop :=
  ∀ T : State, T.heap = H → Stand p l e R s m args below meth c T locs cells slots → ∃ t, Steps p.tables e below ((T.setTop g).pushFrame (.throwing q)) t ∧ Q t
def vx_Run (p : Program) (l : Launch) (e : Env) (R : Room) (s : State) (m : MethodId) (args : Array Value) (below : List Frame) (meth : Method) (c : Code) (H : Heap) (locs : List Loc) (cells slots mc ms : Nat) (g : JFrame) (rest : List Value) (Qa : State → Outcome → State → Prop) (XC : String → State → State → Prop) (free : Addr → Prop) : Prop :=
  ∀ T : State, T.heap = H → Stand p l e R s m args below meth c T locs cells slots →
    (∃ (v : Option Value) (st₀ t T' : State) (L : List Loc), st₀.heap = H ∧ Stand p l e R s m args below meth c T' (locs ++ L) (cells + mc) (slots + ms) ∧ (∀ q ∈ L, free q.base) ∧ T'.heap = t.heap ∧ T'.vm = t.vm ∧ Qa st₀ (.returned v) t ∧
      Goes p e below T g T' { g with pc := g.pc + 3, stack := v.toList ++ rest }) ∨
    (∃ (q : Addr) (st₀ t T' : State) (L : List Loc) (E : String) (ce : Cell), st₀.heap = H ∧ Stand p l e R s m args below meth c T' (locs ++ L) (cells + mc) (slots + ms) ∧ (∀ z ∈ L, free z.base) ∧ T'.heap = t.heap ∧ T'.vm = t.vm ∧ XC E st₀ t ∧ t.heap[q]? = some ce ∧ ce.vm = .none ∧ s.vm.findClass E = some ce.cls ∧
      Steps p.tables e below (T.setTop g) ((T'.setTop { g with stack := rest }).pushFrame (.throwing q)))
def vx_X {S : Type} (px : S → Prop) (B : String → S → State → Prop) (A : Nat → Prop) : String → State → State → Prop := fun E st t => ∃ u : S, px u ∧ B E u t ∧ va_F A st t
section Runs
variable {p : Program} {l : Launch} {e : Env} {R : Room} {s : State} {m : MethodId} {args : Array Value} {below : List Frame} {meth : Method} {c : Code} {H : Heap} {locs : List Loc} {cells slots : Nat}
variable {y : MethodName} {bytes cc : ByteArray} {maxL nL mc ms n index : Nat} {ret : Option FieldType} {ws : List Cond} {rm : Room} {Pc : Array Value → State → Prop} {Qc : Array Value → State → Outcome → State → Prop} {XC : String → State → State → Prop} {free : Addr → Prop} {Ts : List Cond} {own C : String} {b : Addr} {As rest : List Value} {g : JFrame}
theorem vx_callBack (cb : CallB R s args own index y bytes maxL ret ws rm mc ms n) (hM : vx_Met l y ws rm Pc Qc XC mc ms free) (hbl : FrameBlind Pc) : vx_Back l R p e below s args y 3 8 (PreOf R mc ms Pc) (PostOf Qc mc ms free) (vx_Post XC mc ms free) := by
  obtain ⟨hrc, hrs, hfr, hlo, hws, hcw, -, hini, -⟩ := cb
  exact vx_back (bytes := bytes) (maxL := maxL) (ret := ret) hM hbl hrc hrs hfr hlo hws hcw (fun a' U hW => word_at hW (Or.inl (by first | rfl | simp [Cond.onTables, Cond.keeps, Cond.steady])) hini)
theorem vx_runV (S : CallFix p m c cc nL s args Ts own) (hM : vx_Met l y ws rm Pc Qc XC mc ms free) (cw : CallW R s args own C index y bytes maxL ret ws rm mc ms n) (hp : PreV s H C b Pc As)
    (hg : g.method = m) (hn : As.length = n) (hsize : g.locals.size = nL) (hstack : g.stack = As.reverse ++ .ref b :: rest) (hW : 2 * g.monitorRoom + (rest.map fun v => v.category).sum ≤ 8) (hdg : decode cc g.pc = .ok (.invokevirtual index, 3)) (hf : cells + mc ≤ R.cells ∧ slots + ms ≤ R.slots) :
    vx_Run p l e R s m args below meth c H locs cells slots mc ms g rest (Qc (Value.ref b :: As).toArray) XC free := by
  have hK : vx_Back l R p e below s args y 3 8 (PreOf R mc ms Pc) (PostOf Qc mc ms free) (vx_Post XC mc ms free) := vx_callBack cw.1 hM hp.1
  obtain ⟨⟨-, -, -, -, -, -, hcode, -, hy, hlen, hl⟩, hin, hse⟩ := cw
  obtain ⟨hx, hb, hml, ho, -⟩ := S
  obtain ⟨-, ⟨cellB, hcB, hoB, hclB⟩, hPc⟩ := hp
  intro T hT X
  rcases vx_callV X hx (C := C) (bytes := bytes) (maxL := maxL) (ret := ret) ho hl hin hse hcode hy hK (by rw [hT]; exact hcB) hoB hclB hg (hsize.trans hml.symm) (argsL := As) (rest := rest) (fun sig h => hn.trans (hlen sig h)) hstack hW (by rw [hb]; exact hdg)
    (fun vm₁ hW₁ => ⟨hf.1, hf.2, hPc (T.setVm vm₁) hT hW₁⟩) with ⟨v, vm₁, ⟨U', l2, c2, s2⟩, hW₁, X', ⟨g', mk, t, L, e1, e2, hq, h1, hL, h2, h3⟩, st⟩ | ⟨q, vm₁, ⟨U', l2, c2, s2⟩, hW₁, X', ⟨g', mk, t, L, E, ce, e1, e2, hq, hce, hcv, hcl, h1, hL, h2, h3⟩, st⟩
  · dsimp only [Pt.U, Pt.locs, Pt.cells, Pt.slots] at X' e1 e2 h1 h2 h3 st
    subst h1; subst h2; subst h3
    exact Or.inl ⟨v, (T.setVm vm₁).calling g' mk (Value.ref b :: As).toArray, t, U', L, hT, X', hL, e1, e2, hq, st⟩
  · dsimp only [Pt.U, Pt.locs, Pt.cells, Pt.slots] at X' e1 e2 h1 h2 h3 st hcl
    subst h1; subst h2; subst h3
    exact Or.inr ⟨q, (T.setVm vm₁).calling g' mk (Value.ref b :: As).toArray, t, U', L, E, ce, hT, X', hL, e1, e2, hq, hce, hcv, vx_cls hW₁ hcl, st⟩
theorem vx_runS (S : CallFix p m c cc nL s args Ts own) (hM : vx_Met l y ws rm Pc Qc XC mc ms free) (cw : CallB R s args own index y bytes maxL ret ws rm mc ms n ∧ (Cond.static y).before args s = true) (hp : PreS s H Pc As)
    (hg : g.method = m) (hn : As.length = n) (hsize : g.locals.size = nL) (hstack : g.stack = As.reverse ++ rest) (hW : 2 * g.monitorRoom + (rest.map fun v => v.category).sum ≤ 8) (hdg : decode cc g.pc = .ok (.invokestatic index, 3)) (hf : cells + mc ≤ R.cells ∧ slots + ms ≤ R.slots) :
    vx_Run p l e R s m args below meth c H locs cells slots mc ms g rest (Qc As.toArray) XC free := by
  have hK : vx_Back l R p e below s args y 3 8 (PreOf R mc ms Pc) (PostOf Qc mc ms free) (vx_Post XC mc ms free) := vx_callBack cw.1 hM hp.1
  obtain ⟨⟨-, -, -, -, -, -, hcode, hini, hy, hlen, hl⟩, hstt⟩ := cw
  obtain ⟨hx, hb, hml, ho, -⟩ := S
  intro T hT X
  rcases vx_callS X hx (bytes := bytes) (maxL := maxL) (ret := ret) ho hl hstt hini hcode hy hK hg (hsize.trans hml.symm) (argsL := As) (rest := rest) (fun sig h => hn.trans (hlen sig h)) hstack hW (by rw [hb]; exact hdg)
    (fun vm₁ hW₁ => ⟨hf.1, hf.2, hp.2 (T.setVm vm₁) hT hW₁⟩) with ⟨v, vm₁, ⟨U', l2, c2, s2⟩, hW₁, X', ⟨g', mk, t, L, e1, e2, hq, h1, hL, h2, h3⟩, st⟩ | ⟨q, vm₁, ⟨U', l2, c2, s2⟩, hW₁, X', ⟨g', mk, t, L, E, ce, e1, e2, hq, hce, hcv, hcl, h1, hL, h2, h3⟩, st⟩
  · dsimp only [Pt.U, Pt.locs, Pt.cells, Pt.slots] at X' e1 e2 h1 h2 h3 st
    subst h1; subst h2; subst h3
    exact Or.inl ⟨v, (T.setVm vm₁).calling g' mk As.toArray, t, U', L, hT, X', hL, e1, e2, hq, st⟩
  · dsimp only [Pt.U, Pt.locs, Pt.cells, Pt.slots] at X' e1 e2 h1 h2 h3 st hcl
    subst h1; subst h2; subst h3
    exact Or.inr ⟨q, (T.setVm vm₁).calling g' mk As.toArray, t, U', L, E, ce, hT, X', hL, e1, e2, hq, hce, hcv, vx_cls hW₁ hcl, st⟩
end Runs
section Rows
variable {p : Program} {l : Launch} {e : Env} {R : Room} {s : State} {m : MethodId} {args : Array Value} {below : List Frame} {meth : Method} {c : Code} {H : Heap} {locs : List Loc} {cells slots : Nat} {Q : State → Prop}
variable {mc ms : Nat} {free : Addr → Prop} {A0 A1 : Nat → Prop} {H0 : Heap} {a : Array Value} {pc : Nat} {ls : Array Slot} {st0 rest : List Value}
theorem vx_keep {st₀ t T' : State} {L : List Loc} (h0 : st₀.heap = H) (e1 : T'.heap = t.heap) (hS : va_S A0 H0 H locs) (hA : ∀ q, q < H.size → A1 q → A0 q) (hf : ∀ q, free q → A0 q) (hL : ∀ q ∈ L, free q.base) (hF : va_F A1 st₀ t) :
    H.size ≤ T'.heap.size ∧ (∀ q : Nat, q < H.size → ¬ A1 q → T'.heap[q]? = H[q]?) ∧ va_S A0 H0 T'.heap (locs ++ L) := by
  obtain ⟨hz, hk⟩ := hF
  rw [h0] at hz hk
  exact ⟨by rw [e1]; exact hz, fun q h1 h2 => by rw [e1]; exact hk q h1 h2,
    ⟨Nat.le_trans hS.1 (by rw [e1]; exact hz), fun q h1 h2 => by rw [e1, hk q (Nat.lt_of_lt_of_le h1 hS.1) (fun z => h2 (hA q (Nat.lt_of_lt_of_le h1 hS.1) z))]; exact hS.2.1 q h1 h2, fun q hq => by
      rcases List.mem_append.mp hq with h | h
      · exact hS.2.2 q h
      · exact hf _ (hL q h)⟩⟩
theorem vx_calli {S SX : Type} {post : Int32 → S → Prop} {px : SX → Prop} {B : S → State → Prop} {BX : String → SX → State → Prop} {AX : Nat → Prop} (hr : vx_Run p l e R s m args below meth c H locs cells slots mc ms (F0 m pc ls st0) rest (va_Qi post B A1 a) (vx_X px BX AX) free) (hS : va_S A0 H0 H locs) (hA : ∀ q, q < H.size → A1 q → A0 q) (hf : ∀ q, free q → A0 q) (hAX : ∀ q, q < H.size → AX q → A0 q)
    (kx : ∀ (E : String) (ce : Cell) (q9 : Addr) (u : SX) (t : State) (H1 : Heap) (locs1 : List Loc), t.heap = H1 → s.vm.Alike t.vm → px u → BX E u t → H.size ≤ H1.size → (∀ q : Nat, q < H.size → ¬ AX q → H1[q]? = H[q]?) → va_S A0 H0 H1 locs1 → H1[q9]? = some ce → ce.vm = .none → s.vm.findClass E = some ce.cls → vx_W p l e R s m args below meth c H1 locs1 (cells + mc) (slots + ms) Q (F0 m pc ls rest) q9)
    (kk : ∀ (r : Int32) (u : S) (t : State) (H1 : Heap) (locs1 : List Loc), t.heap = H1 → s.vm.Alike t.vm → post r u → B u t → H.size ≤ H1.size → (∀ q : Nat, q < H.size → ¬ A1 q → H1[q]? = H[q]?) → va_S A0 H0 H1 locs1 → W p l e R s m args below meth c H1 locs1 (cells + mc) (slots + ms) Q (F0 m (pc + 3) ls (.int r :: rest))) : W p l e R s m args below meth c H locs cells slots Q (F0 m pc ls st0) := by
  intro T hT X
  rcases hr T hT X with ⟨v, st₀, t, T', L, h0, X', hL, e1, e2, ⟨⟨r, u, hv, hp, hb⟩, hF⟩, st⟩ | ⟨q, st₀, t, T', L, E, ce, h0, X', hL, e1, e2, ⟨u, hp, hb, hF⟩, hce, hcv, hcl, st⟩
  · cases hv
    obtain ⟨k1, k2, k3⟩ := vx_keep h0 e1 hS hA hf hL hF
    obtain ⟨t2, a1, b1⟩ := kk r u t T'.heap (locs ++ L) e1.symm (by rw [← e2]; exact X'.warmed.alike) hp hb k1 k2 k3 T' rfl X'
    exact ⟨t2, st t2 a1, b1⟩
  · obtain ⟨k1, k2, k3⟩ := vx_keep h0 e1 hS hAX hf hL hF
    obtain ⟨t2, a1, b1⟩ := kx E ce q u t T'.heap (locs ++ L) e1.symm (by rw [← e2]; exact X'.warmed.alike) hp hb k1 k2 k3 (by rw [e1]; exact hce) hcv hcl T' rfl X'
    exact ⟨t2, st.trans a1, b1⟩
theorem vx_calll {S SX : Type} {post : Int64 → S → Prop} {px : SX → Prop} {B : S → State → Prop} {BX : String → SX → State → Prop} {AX : Nat → Prop} (hr : vx_Run p l e R s m args below meth c H locs cells slots mc ms (F0 m pc ls st0) rest (va_Ql post B A1 a) (vx_X px BX AX) free) (hS : va_S A0 H0 H locs) (hA : ∀ q, q < H.size → A1 q → A0 q) (hf : ∀ q, free q → A0 q) (hAX : ∀ q, q < H.size → AX q → A0 q)
    (kx : ∀ (E : String) (ce : Cell) (q9 : Addr) (u : SX) (t : State) (H1 : Heap) (locs1 : List Loc), t.heap = H1 → s.vm.Alike t.vm → px u → BX E u t → H.size ≤ H1.size → (∀ q : Nat, q < H.size → ¬ AX q → H1[q]? = H[q]?) → va_S A0 H0 H1 locs1 → H1[q9]? = some ce → ce.vm = .none → s.vm.findClass E = some ce.cls → vx_W p l e R s m args below meth c H1 locs1 (cells + mc) (slots + ms) Q (F0 m pc ls rest) q9)
    (kk : ∀ (r : Int64) (u : S) (t : State) (H1 : Heap) (locs1 : List Loc), t.heap = H1 → s.vm.Alike t.vm → post r u → B u t → H.size ≤ H1.size → (∀ q : Nat, q < H.size → ¬ A1 q → H1[q]? = H[q]?) → va_S A0 H0 H1 locs1 → W p l e R s m args below meth c H1 locs1 (cells + mc) (slots + ms) Q (F0 m (pc + 3) ls (.long r :: rest))) : W p l e R s m args below meth c H locs cells slots Q (F0 m pc ls st0) := by
  intro T hT X
  rcases hr T hT X with ⟨v, st₀, t, T', L, h0, X', hL, e1, e2, ⟨⟨r, u, hv, hp, hb⟩, hF⟩, st⟩ | ⟨q, st₀, t, T', L, E, ce, h0, X', hL, e1, e2, ⟨u, hp, hb, hF⟩, hce, hcv, hcl, st⟩
  · cases hv
    obtain ⟨k1, k2, k3⟩ := vx_keep h0 e1 hS hA hf hL hF
    obtain ⟨t2, a1, b1⟩ := kk r u t T'.heap (locs ++ L) e1.symm (by rw [← e2]; exact X'.warmed.alike) hp hb k1 k2 k3 T' rfl X'
    exact ⟨t2, st t2 a1, b1⟩
  · obtain ⟨k1, k2, k3⟩ := vx_keep h0 e1 hS hAX hf hL hF
    obtain ⟨t2, a1, b1⟩ := kx E ce q u t T'.heap (locs ++ L) e1.symm (by rw [← e2]; exact X'.warmed.alike) hp hb k1 k2 k3 (by rw [e1]; exact hce) hcv hcl T' rfl X'
    exact ⟨t2, st.trans a1, b1⟩
theorem vx_callf {S SX : Type} {post : UInt32 → S → Prop} {px : SX → Prop} {B : S → State → Prop} {BX : String → SX → State → Prop} {AX : Nat → Prop} (hr : vx_Run p l e R s m args below meth c H locs cells slots mc ms (F0 m pc ls st0) rest (va_Qf post B A1 a) (vx_X px BX AX) free) (hS : va_S A0 H0 H locs) (hA : ∀ q, q < H.size → A1 q → A0 q) (hf : ∀ q, free q → A0 q) (hAX : ∀ q, q < H.size → AX q → A0 q)
    (kx : ∀ (E : String) (ce : Cell) (q9 : Addr) (u : SX) (t : State) (H1 : Heap) (locs1 : List Loc), t.heap = H1 → s.vm.Alike t.vm → px u → BX E u t → H.size ≤ H1.size → (∀ q : Nat, q < H.size → ¬ AX q → H1[q]? = H[q]?) → va_S A0 H0 H1 locs1 → H1[q9]? = some ce → ce.vm = .none → s.vm.findClass E = some ce.cls → vx_W p l e R s m args below meth c H1 locs1 (cells + mc) (slots + ms) Q (F0 m pc ls rest) q9)
    (kk : ∀ (r : UInt32) (u : S) (t : State) (H1 : Heap) (locs1 : List Loc), t.heap = H1 → s.vm.Alike t.vm → post r u → B u t → H.size ≤ H1.size → (∀ q : Nat, q < H.size → ¬ A1 q → H1[q]? = H[q]?) → va_S A0 H0 H1 locs1 → W p l e R s m args below meth c H1 locs1 (cells + mc) (slots + ms) Q (F0 m (pc + 3) ls (.float r :: rest))) : W p l e R s m args below meth c H locs cells slots Q (F0 m pc ls st0) := by
  intro T hT X
  rcases hr T hT X with ⟨v, st₀, t, T', L, h0, X', hL, e1, e2, ⟨⟨r, u, hv, hp, hb⟩, hF⟩, st⟩ | ⟨q, st₀, t, T', L, E, ce, h0, X', hL, e1, e2, ⟨u, hp, hb, hF⟩, hce, hcv, hcl, st⟩
  · cases hv
    obtain ⟨k1, k2, k3⟩ := vx_keep h0 e1 hS hA hf hL hF
    obtain ⟨t2, a1, b1⟩ := kk r u t T'.heap (locs ++ L) e1.symm (by rw [← e2]; exact X'.warmed.alike) hp hb k1 k2 k3 T' rfl X'
    exact ⟨t2, st t2 a1, b1⟩
  · obtain ⟨k1, k2, k3⟩ := vx_keep h0 e1 hS hAX hf hL hF
    obtain ⟨t2, a1, b1⟩ := kx E ce q u t T'.heap (locs ++ L) e1.symm (by rw [← e2]; exact X'.warmed.alike) hp hb k1 k2 k3 (by rw [e1]; exact hce) hcv hcl T' rfl X'
    exact ⟨t2, st.trans a1, b1⟩
theorem vx_calld {S SX : Type} {post : UInt64 → S → Prop} {px : SX → Prop} {B : S → State → Prop} {BX : String → SX → State → Prop} {AX : Nat → Prop} (hr : vx_Run p l e R s m args below meth c H locs cells slots mc ms (F0 m pc ls st0) rest (va_Qd post B A1 a) (vx_X px BX AX) free) (hS : va_S A0 H0 H locs) (hA : ∀ q, q < H.size → A1 q → A0 q) (hf : ∀ q, free q → A0 q) (hAX : ∀ q, q < H.size → AX q → A0 q)
    (kx : ∀ (E : String) (ce : Cell) (q9 : Addr) (u : SX) (t : State) (H1 : Heap) (locs1 : List Loc), t.heap = H1 → s.vm.Alike t.vm → px u → BX E u t → H.size ≤ H1.size → (∀ q : Nat, q < H.size → ¬ AX q → H1[q]? = H[q]?) → va_S A0 H0 H1 locs1 → H1[q9]? = some ce → ce.vm = .none → s.vm.findClass E = some ce.cls → vx_W p l e R s m args below meth c H1 locs1 (cells + mc) (slots + ms) Q (F0 m pc ls rest) q9)
    (kk : ∀ (r : UInt64) (u : S) (t : State) (H1 : Heap) (locs1 : List Loc), t.heap = H1 → s.vm.Alike t.vm → post r u → B u t → H.size ≤ H1.size → (∀ q : Nat, q < H.size → ¬ A1 q → H1[q]? = H[q]?) → va_S A0 H0 H1 locs1 → W p l e R s m args below meth c H1 locs1 (cells + mc) (slots + ms) Q (F0 m (pc + 3) ls (.double r :: rest))) : W p l e R s m args below meth c H locs cells slots Q (F0 m pc ls st0) := by
  intro T hT X
  rcases hr T hT X with ⟨v, st₀, t, T', L, h0, X', hL, e1, e2, ⟨⟨r, u, hv, hp, hb⟩, hF⟩, st⟩ | ⟨q, st₀, t, T', L, E, ce, h0, X', hL, e1, e2, ⟨u, hp, hb, hF⟩, hce, hcv, hcl, st⟩
  · cases hv
    obtain ⟨k1, k2, k3⟩ := vx_keep h0 e1 hS hA hf hL hF
    obtain ⟨t2, a1, b1⟩ := kk r u t T'.heap (locs ++ L) e1.symm (by rw [← e2]; exact X'.warmed.alike) hp hb k1 k2 k3 T' rfl X'
    exact ⟨t2, st t2 a1, b1⟩
  · obtain ⟨k1, k2, k3⟩ := vx_keep h0 e1 hS hAX hf hL hF
    obtain ⟨t2, a1, b1⟩ := kx E ce q u t T'.heap (locs ++ L) e1.symm (by rw [← e2]; exact X'.warmed.alike) hp hb k1 k2 k3 (by rw [e1]; exact hce) hcv hcl T' rfl X'
    exact ⟨t2, st.trans a1, b1⟩
theorem vx_callv {S SX : Type} {post : S → Prop} {px : SX → Prop} {B : S → State → Prop} {BX : String → SX → State → Prop} {AX : Nat → Prop} (hr : vx_Run p l e R s m args below meth c H locs cells slots mc ms (F0 m pc ls st0) rest (va_Qv post B A1 a) (vx_X px BX AX) free) (hS : va_S A0 H0 H locs) (hA : ∀ q, q < H.size → A1 q → A0 q) (hf : ∀ q, free q → A0 q) (hAX : ∀ q, q < H.size → AX q → A0 q)
    (kx : ∀ (E : String) (ce : Cell) (q9 : Addr) (u : SX) (t : State) (H1 : Heap) (locs1 : List Loc), t.heap = H1 → s.vm.Alike t.vm → px u → BX E u t → H.size ≤ H1.size → (∀ q : Nat, q < H.size → ¬ AX q → H1[q]? = H[q]?) → va_S A0 H0 H1 locs1 → H1[q9]? = some ce → ce.vm = .none → s.vm.findClass E = some ce.cls → vx_W p l e R s m args below meth c H1 locs1 (cells + mc) (slots + ms) Q (F0 m pc ls rest) q9)
    (kk : ∀ (u : S) (t : State) (H1 : Heap) (locs1 : List Loc), t.heap = H1 → s.vm.Alike t.vm → post u → B u t → H.size ≤ H1.size → (∀ q : Nat, q < H.size → ¬ A1 q → H1[q]? = H[q]?) → va_S A0 H0 H1 locs1 → W p l e R s m args below meth c H1 locs1 (cells + mc) (slots + ms) Q (F0 m (pc + 3) ls (rest))) : W p l e R s m args below meth c H locs cells slots Q (F0 m pc ls st0) := by
  intro T hT X
  rcases hr T hT X with ⟨v, st₀, t, T', L, h0, X', hL, e1, e2, ⟨⟨u, hv, hp, hb⟩, hF⟩, st⟩ | ⟨q, st₀, t, T', L, E, ce, h0, X', hL, e1, e2, ⟨u, hp, hb, hF⟩, hce, hcv, hcl, st⟩
  · cases hv
    obtain ⟨k1, k2, k3⟩ := vx_keep h0 e1 hS hA hf hL hF
    obtain ⟨t2, a1, b1⟩ := kk u t T'.heap (locs ++ L) e1.symm (by rw [← e2]; exact X'.warmed.alike) hp hb k1 k2 k3 T' rfl X'
    exact ⟨t2, st t2 a1, b1⟩
  · obtain ⟨k1, k2, k3⟩ := vx_keep h0 e1 hS hAX hf hL hF
    obtain ⟨t2, a1, b1⟩ := kx E ce q u t T'.heap (locs ++ L) e1.symm (by rw [← e2]; exact X'.warmed.alike) hp hb k1 k2 k3 (by rw [e1]; exact hce) hcv hcl T' rfl X'
    exact ⟨t2, st.trans a1, b1⟩
/-- caught by the row x of this method's table; the rows ahead don't take it -/
theorem vx_catch {own name : String} {E : String} {ce : Cell} {q : Addr} (hown : s.vm.findClass own = some m.cls) (pre : List ExceptionTableEntry) (x : ExceptionTableEntry) (suf : List ExceptionTableEntry) (hsplit : c.exceptionTable.toList = pre ++ x :: suf)
    (hpass : ∀ z ∈ pre, covers z pc = false ∨ (z.catchType ≠ 0 ∧ ∃ nm : String, (Cond.classLink own z.catchType nm).before args s = true ∧ va_Nc E nm s)) (hx : covers x pc = true) (h0 : x.catchType ≠ 0)
    (hlink : (Cond.classLink own x.catchType name).before args s = true) (hcast : (Cond.castable E name).before args s = true) (hcell : H[q]? = some ce) (hv : ce.vm = .none) (hcl : s.vm.findClass E = some ce.cls)
    (kk : W p l e R s m args below meth c H locs cells slots Q (F0 m x.handlerPc ls [.ref q])) : vx_W p l e R s m args below meth c H locs cells slots Q (F0 m pc ls rest) q := by
  intro T hT X
  have hpl : e.platform.magicAccessors = ({} : Platform).magicAccessors := by rw [X.admits.platform]
  obtain ⟨c3, c4, hc3, hc4, hasg⟩ := Cond.castable_spec hcast
  cases Option.some.inj (hc3.symm.trans hcl)
  obtain ⟨c5, hc5, hcl5⟩ := Cond.classLink_spec hown hlink e.platform hpl
  cases Option.some.inj (hc4.symm.trans hc5)
  obtain ⟨vm', X', st⟩ := X.thenCaughtThrough q (g := F0 m pc ls rest) rfl (Steps.refl _) (by rw [hT]; exact hcell) (by rw [hv]; rfl) (by obtain ⟨k9, h9, -⟩ := Vm.findClass_spec hcl; exact ⟨k9, h9⟩) pre x suf hsplit
    (fun z hz => by
      rcases hpass z hz with h | ⟨hz0, nm, hl1, hn1⟩
      · exact Or.inl h
      · obtain ⟨c6, hc6, hcl6⟩ := Cond.classLink_spec hown hl1 e.platform hpl
        obtain ⟨a8, b8, h1, h2, h3⟩ := hn1
        cases Option.some.inj (h1.symm.trans hcl)
        cases Option.some.inj (h2.symm.trans hc6)
        exact Or.inr ⟨hz0, _, hcl6, h3⟩) hx (Or.inr ⟨h0, c4, hcl5, hasg⟩)
  obtain ⟨t, a1, b1⟩ := kk (T.setVm vm') hT X'
  exact ⟨t, st.trans a1, b1⟩
end Rows
section Ends
variable {p : Program} {l : Launch} {e : Env} {R : Room} {s : State} {m : MethodId} {args : Array Value} {below : List Frame} {meth : Method} {c : Code} {H : Heap} {locs : List Loc} {cells slots : Nat} {Q : State → Prop}
variable {mc ms : Nat} {free : Addr → Prop} {A0 A1 : Nat → Prop} {H0 : Heap} {a : Array Value} {ls : Array Slot} {st0 rest : List Value}
variable {Qc : Array Value → State → Outcome → State → Prop} {XC : String → State → State → Prop}
/-- what a body that may throw owes at its end -/
def vx_MQ (below : List Frame) (Qc : Array Value → State → Outcome → State → Prop) (XC : String → State → State → Prop) (a : Array Value) (s : State) (mc ms : Nat) (free : Addr → Prop) : State → Prop := fun t =>
  ∃ o, t.status = .running ∧ Ended t below o ∧ vx_Q Qc XC mc ms free a s o t
theorem vx_ret {g : JFrame} {mc ms : Nat} (k : W p l e R s m args below meth c H locs cells slots (MQ below Qc args s mc ms free) g) : W p l e R s m args below meth c H locs cells slots (vx_MQ below Qc XC args s mc ms free) g := by
  intro T hT X
  obtain ⟨t, a1, o, b1, b2, b3, b4⟩ := k T hT X
  exact ⟨t, a1, o, b1, b2, Or.inl ⟨b3, b4⟩⟩
/-- not caught here: it goes on to the caller -/
theorem vx_widen {g : JFrame} {q : Addr} {k n : Nat} (h1 : cells ≤ k) (h2 : slots ≤ n) (kk : vx_W p l e R s m args below meth c H locs k n Q g q) : vx_W p l e R s m args below meth c H locs cells slots Q g q := fun T hT X => kk T hT (stand_widen X h1 h2)
theorem vx_out {pc : Nat} {E : String} {ce : Cell} {q : Addr} {mc ms : Nat} (hout : ∀ x ∈ c.exceptionTable.toList, covers x pc = false) (hlocks : meth.locks = false) (hcell : H[q]? = some ce) (hv : ce.vm = .none) (hcl : s.vm.findClass E = some ce.cls)
    (hx : ∀ t : State, t.heap = H → s.vm.Alike t.vm → XC E s t) (hf : ∀ z ∈ locs, free z.base) (hc : cells ≤ mc) (hs : slots ≤ ms) :
    vx_W p l e R s m args below meth c H locs cells slots (vx_MQ below Qc XC args s mc ms free) (F0 m pc ls rest) q := by
  intro T hT X
  obtain ⟨st1, hrun, hend, hW, hsm⟩ := X.leaveThrown q (g := F0 m pc ls rest) rfl rfl rfl hout hlocks
  have hcell9 : (T.setFrames (.throwing q :: below)).heap[q]? = some ce := by
    show T.heap[q]? = some ce
    rw [hT]; exact hcell
  exact ⟨_, st1, .threw q, hrun, hend, Or.inr ⟨q, rfl, E, ce, locs, hx _ hT hW.alike, hcell9, hv, hcl, hW, hsm.mono hc hs, hf⟩⟩
theorem vx_frame {U : State} {k n : Nat} (h : s.sameButNew ({ U with vm := s.vm } : State) locs k n) : s.heap.size ≤ U.heap.size ∧ ∀ q : Nat, q < s.heap.size → (∀ z ∈ locs, z.base ≠ q) → U.heap[q]? = s.heap[q]? := by
  obtain ⟨-, h2, -, -, -, h6⟩ := h
  refine ⟨h2, fun q hq hz => ?_⟩
  obtain ⟨c9, e1, e2, e3, e4⟩ := h6 q _ (Array.getElem?_eq_getElem hq)
  have hs : c9.slots = (s.heap[q]).slots := Array.ext_getElem? fun i => e4 i fun hm => hz _ hm rfl
  have h9 : c9 = s.heap[q] := by
    rw [hs] at e2
    exact e2
  have e5 : U.heap[q]? = some c9 := e1
  rw [e5, h9, Array.getElem?_eq_getElem hq]
/-- the words of a throw but the four that speak of the heap -/
def vx_no (w : Cond) : Bool := decide (w ≠ .isRef (.static Bundle.tN "UNASSIGNED_STACK" Bundle.steD)) && decide (w ≠ .isRef (.static Bundle.tN "SUPPRESSED_SENTINEL" Bundle.listD)) && decide (w ≠ .laysStatic Bundle.tN "UNASSIGNED_STACK" Bundle.steD) && decide (w ≠ .laysStatic Bundle.tN "SUPPRESSED_SENTINEL" Bundle.listD)
def vx_at0 (own : String) (ic : Nat) (X : String) (names : List String) : List Cond := (Bundle.ownAtoms0 own ic X names).filter vx_no
def vx_atS (own : String) (ic : Nat) (X : String) (names : List String) : List Cond := (Bundle.ownAtoms own ic X names).filter vx_no
/-- a word that the tables alone decide, or a good one -/
def vx_ot (w : Cond) : Bool := w.onTables || goodWord w
theorem vx_ot_at {args a' : Array Value} {s U : State} {w : Cond} (hW : s.WarmedH U.vm) (hvm : s.vm = U.vm) (hg : vx_ot w = true) (h : w.before args s = true) : w.before a' U = true := by
  simp only [vx_ot, Bool.or_eq_true] at hg
  rcases hg with hg | hg
  · exact va_tabs hg hvm h
  · exact word_at hW (good_of_word hg) h
/-- a list's words: the good ones out of the method's own list, the others by premises of their own -/
theorem vx_hat {args : Array Value} {s : State} {L B : List Cond} (h1 : ∀ w ∈ L.filter goodWord, w.before args s = true) (h2 : ∀ w ∈ L.filter (fun w => !goodWord w), w ∈ B) (h3 : ∀ w ∈ B, w.before args s = true) : ∀ w ∈ L, w.before args s = true := by
  intro w hw
  by_cases g : goodWord w = true
  · exact h1 w (List.mem_filter.mpr ⟨hw, g⟩)
  · refine h3 w (h2 w (List.mem_filter.mpr ⟨hw, ?_⟩))
    show (!goodWord w) = true
    cases hgw : goodWord w
    · rfl
    · exact absurd hgw g
theorem vx_c {args : Array Value} {s : State} {w : Cond} {B : List Cond} (h : w.before args s = true) (t : ∀ w ∈ B, w.before args s = true) : ∀ w' ∈ w :: B, w'.before args s = true := fun w' h' => (List.mem_cons.mp h').elim (fun e => by rw [e]; exact h) (t w')
theorem vx_n {args : Array Value} {s : State} : ∀ w ∈ ([] : List Cond), w.before args s = true := fun _ h => nomatch h
theorem vx_own {args : Array Value} {s : State} {L : List Cond} (h1 : ∀ w ∈ L.filter vx_no, w.before args s = true)
    (hU : (Cond.isRef (.static Bundle.tN "UNASSIGNED_STACK" Bundle.steD)).before args s = true) (hN : (Cond.isRef (.static Bundle.tN "SUPPRESSED_SENTINEL" Bundle.listD)).before args s = true)
    (lU : (Cond.laysStatic Bundle.tN "UNASSIGNED_STACK" Bundle.steD).before args s = true) (lN : (Cond.laysStatic Bundle.tN "SUPPRESSED_SENTINEL" Bundle.listD).before args s = true) : ∀ w ∈ L, w.before args s = true := by
  intro w hw
  by_cases e1 : w = .isRef (.static Bundle.tN "UNASSIGNED_STACK" Bundle.steD)
  · rw [e1]; exact hU
  · by_cases e2 : w = .isRef (.static Bundle.tN "SUPPRESSED_SENTINEL" Bundle.listD)
    · rw [e2]; exact hN
    · by_cases e3 : w = .laysStatic Bundle.tN "UNASSIGNED_STACK" Bundle.steD
      · rw [e3]; exact lU
      · by_cases e4 : w = .laysStatic Bundle.tN "SUPPRESSED_SENTINEL" Bundle.listD
        · rw [e4]; exact lN
        · exact h1 w (List.mem_filter.mpr ⟨hw, by unfold vx_no; rw [decide_eq_true e1, decide_eq_true e2, decide_eq_true e3, decide_eq_true e4]; rfl⟩)
/-- where a static field lies, its class's statics cell in H -/
def vx_L (C n d : String) (A : Nat → Prop) (U : State) (H : Heap) : Prop := ∃ (c : ClassId) (k : Class) (i : Nat) (f : Field) (a : Nat) (cell : Cell), U.vm.findClass C = some c ∧ U.fieldFound? C n d = some (c, k, i, f) ∧ f.isStatic = true ∧ k.statics = some a ∧ H[a]? = some cell ∧ cell.vm.isStatics = true ∧ cell.cls = c ∧ f.slot < cell.slots.size ∧ k.staticTypes[f.slot]? = some f.type ∧ ¬ A a
theorem vx_L.moved {C n d : String} {A : Nat → Prop} {u U : State} {H : Heap} (hvm : u.vm.Alike U.vm) (h : vx_L C n d A u H) : vx_L C n d A U H := by
  obtain ⟨c, k, i, f, a, cell, h1, h2, h3, h4, h5, h6, h7, h8, h9, h10⟩ := h
  obtain ⟨k', hi', he⟩ := State.fieldFound?_setVm hvm h2
  exact ⟨c, k', i, f, a, cell, by rw [hvm.findClass]; exact h1, hi', h3, by rw [he]; exact h4, h5, h6, h7, h8, by rw [he]; exact h9, h10⟩
theorem vx_L.kept {C n d : String} {A : Nat → Prop} {U : State} {H H1 : Heap} (h : vx_L C n d A U H) (hq : ∀ a : Nat, a < H.size → ¬ A a → H1[a]? = H[a]?) : vx_L C n d A U H1 := by
  obtain ⟨c, k, i, f, a, cell, h1, h2, h3, h4, h5, h6, h7, h8, h9, h10⟩ := h
  exact ⟨c, k, i, f, a, cell, h1, h2, h3, h4, by rw [hq a (Array.getElem?_eq_some_iff.mp h5).1 h10]; exact h5, h6, h7, h8, h9, h10⟩
theorem vx_L.narrow {C n d : String} {A B : Nat → Prop} {U : State} {H : Heap} (h : vx_L C n d A U H) (hAB : ∀ q, B q → A q) : vx_L C n d B U H := by
  obtain ⟨c, k, i, f, a, cell, h1, h2, h3, h4, h5, h6, h7, h8, h9, h10⟩ := h
  exact ⟨c, k, i, f, a, cell, h1, h2, h3, h4, h5, h6, h7, h8, h9, fun z => h10 (hAB _ z)⟩
theorem vx_L.word {C n d : String} {A : Nat → Prop} {s : State} {args : Array Value} (h : vx_L C n d A s s.heap) : (Cond.laysStatic C n d).before args s = true := by
  obtain ⟨c, k, i, f, a, cell, h1, h2, h3, h4, h5, h6, h7, h8, h9, -⟩ := h
  show (Cond.laysStatic C n d).holds args s none s [] = true
  exact Cond.laysStatic_of h1 h2 h3 h4 h5 h6 h7 h8 h9
/-- .. and what it holds: null or some reference -/
def vx_Zq (C n d : String) (A : Nat → Prop) (U : State) (H : Heap) : Prop := va_Zq C n d A U H ∧ vx_L C n d A U H
theorem vx_Zq.moved {C n d : String} {A : Nat → Prop} {u U : State} {H : Heap} (hvm : u.vm.Alike U.vm) (h : vx_Zq C n d A u H) : vx_Zq C n d A U H := ⟨va_Zq.moved hvm h.1, vx_L.moved hvm h.2⟩
theorem vx_Zq.kept {C n d : String} {A : Nat → Prop} {U : State} {H H1 : Heap} (h : vx_Zq C n d A U H) (hq : ∀ a : Nat, a < H.size → ¬ A a → H1[a]? = H[a]?) : vx_Zq C n d A U H1 := ⟨va_Zq.kept h.1 hq, vx_L.kept h.2 hq⟩
theorem vx_Zq.narrow {C n d : String} {A B : Nat → Prop} {U : State} {H : Heap} (h : vx_Zq C n d A U H) (hAB : ∀ q, B q → A q) : vx_Zq C n d B U H := ⟨va_Zq.narrow h.1 hAB, vx_L.narrow h.2 hAB⟩
theorem vx_Zqof {args : Array Value} {s : State} {C n d : String} {A : Nat → Prop} (hl : (Cond.laysStatic C n d).before args s = true) (hini : (Cond.initialized C).before args s = true) (h : (Cond.isRef (.static C n d)).before args s = true) (hA : ∀ a : Nat, a < s.heap.size → ¬ A a) : vx_Zq C n d A s s.heap := by
  refine ⟨va_Zqof hl hini h hA, ?_⟩
  obtain ⟨c, k, i, f, a, cell, h1, h2, h3, h4, h5, h6, h7, h8, h9⟩ := Cond.laysStatic_spec hl
  exact ⟨c, k, i, f, a, cell, h1, h2, h3, h4, h5, h6, h7, h8, h9, hA a (Array.getElem?_eq_some_iff.mp h5).1⟩
theorem vx_isRef {C n d : String} {v : Value} {A : Nat → Prop} {s : State} {args : Array Value} (h : va_Z C n d v A s s.heap) (hv : v.isRef = true) : (Cond.isRef (.static C n d)).before args s = true := by
  obtain ⟨cf, kf, fi, f, a, cell, h1, h2, h3, h4, h5, h6, h7, -⟩ := h
  have he : (Term.static C n d).eval args s none [] s = some v := by
    simp [Term.eval, State.fieldNamed?, h1, h2, h4, h5, h6, h7]
  simp only [Cond.before, Cond.holds, Cond.value, he]
  cases v <;> simp_all [Value.isRef]
theorem vx_isRefq {C n d : String} {A : Nat → Prop} {s : State} {args : Array Value} (h : va_Zq C n d A s s.heap) : (Cond.isRef (.static C n d)).before args s = true := by
  rcases h with h | ⟨t, h⟩
  · exact vx_isRef h rfl
  · exact vx_isRef h rfl
/-- the same frame, seen from here: as if the method were called anew in this heap -/
theorem vx_rebase {T : State} (X : Stand p l e R s m args below meth c T locs cells slots) {R' : Room} (hf : R'.frames ≤ R.frames) (hl : R'.locals ≤ R.locals) (hc : cells + R'.cells ≤ R.cells) (hs : slots + R'.slots ≤ R.slots) :
    Stand p l e R' ((T.setVm s.vm).setFrames (.invoking m args :: below)) m args below meth c T [] 0 0 := by
  have htop : (T.setVm s.vm).topJava?.isSome := X.here.top
  have hF : ((T.setVm s.vm).setFrames (.invoking m args :: below)).frames = .invoking m args :: below := State.frames_setFrames _ (State.cur_lt_of_top htop)
  obtain ⟨g₀, hg0⟩ := Option.isSome_iff_exists.mp htop
  obtain ⟨r, hr⟩ := State.topJava?_eq_some.mp hg0
  have hl9 : e.platform.stackLimits (T.setVm s.vm).me = e.platform.stackLimits s.me := X.limits
  have hb9 : (T.setVm s.vm).me.stackBytes = s.me.stackBytes := X.bytes
  refine ⟨X.admits, X.cas, X.clock, hF, ?_, X.hears, X.method, X.code, X.here, X.tail, X.warmed, ?_, ?_, ?_⟩
  · have h := X.room
    have hU : ((T.setVm s.vm).setFrames (.invoking m args :: below)).localsInUse = s.localsInUse := by
      rw [State.localsInUse_invoking hF (meth := meth) (c := c) X.method X.code, State.localsInUse_invoking X.frames X.method X.code]
    simp only [State.hasRoom, Bool.and_eq_true, decide_eq_true_eq] at h ⊢
    obtain ⟨⟨⟨⟨h1, h2, h3, h4, h5, h6⟩, h7⟩, h8⟩, h9⟩ := h
    rw [X.frames, List.length_cons] at h2 h3
    have q1 := X.heapSize
    have q2 := X.used
    simp only [hF, hU, List.length_cons, State.stackLimits_setFrames, State.stackBytes_setFrames, hl9, hb9]
    refine ⟨⟨⟨⟨by omega, by omega, by omega, by omega, by omega, h6⟩, ?_⟩, ?_⟩, X.book⟩
    · show T.heap.size + R'.cells ≤ e.platform.maxCells
      omega
    · show T.slotsUsed + R'.slots ≤ e.platform.maxSlots
      omega
  · rw [State.stackLimits_setFrames]; rfl
  · rw [State.stackBytes_setFrames]; rfl
  · refine ⟨?_, Nat.le_refl _, Nat.le_refl _, ?_, ?_, fun a c9 h9 => ⟨c9, h9, rfl, rfl, fun _ _ => rfl⟩⟩
    · obtain ⟨t, ht, -⟩ := State.frames_cons hr
      show T.setVm s.vm = { ((T.setVm s.vm).setFrames (.invoking m args :: below)).setFrames (T.setVm s.vm).frames with heap := T.heap, slotsUsed := T.slotsUsed }
      rw [State.setFrames_setFrames, State.setFrames_self ht]
      rfl
    · show T.slotsUsed = T.slotsUsed + ((T.heap.toList.drop T.heap.size).map (·.slots.size)).sum
      rw [List.drop_eq_nil_of_le (Nat.le_of_eq Array.length_toList)]
      rfl
    · show ((T.heap.toList.drop T.heap.size).map (·.slots.size)).sum ≤ 0
      rw [List.drop_eq_nil_of_le (Nat.le_of_eq Array.length_toList)]
      exact Nat.le_refl _
/-- 'throw new E()': new; dup; invokespecial; athrow -/
theorem vx_throw0 {cc : ByteArray} {pc : Nat} (hexec : p.tables.exec = Jvm.exec) (hb : c.code = cc) (hl : l.stackTraces = false) {own cls : String} {names : List String} {ik ic mc ms : Nat} {A : Nat → Prop}
    (hown : s.vm.findClass own = some m.cls) (hcls : Bundle.fit cls = true) (hnames : ∀ n ∈ names, Bundle.fit n = true)
    (hk : (Cond.classLink own ik cls).before args s = true) (hini : (Cond.initialized cls).before args s = true) (hat : ∀ w ∈ vx_at0 own ic cls names, w.before args s = true)
    (hgood : ∀ w ∈ Cond.classLink own ik cls :: Cond.initialized cls :: vx_at0 own ic cls names, vx_ot w = true)
    (hU : vx_Zq Bundle.tN "UNASSIGNED_STACK" Bundle.steD A s s.heap) (hN : vx_Zq Bundle.tN "SUPPRESSED_SENTINEL" Bundle.listD A s s.heap) (hS : va_S A s.heap H locs) (hsize : ls.size = c.maxLocals)
    (d0 : decode cc pc = .ok (.new ik, 3)) (d3 : decode cc (pc + 3) = .ok (.dup, 1)) (d4 : decode cc (pc + 4) = .ok (.invokespecial ic, 3)) (d7 : decode cc (pc + 7) = .ok (.athrow, 1))
    (hout : ∀ x ∈ c.exceptionTable.toList, covers x (pc + 7) = false)
    (hRframes : names.length + 3 < R.frames) (hRlocals : (rest.map fun v => v.category).sum + (13 * (names.length + 1) + 42) ≤ R.locals) (hRcells : cells + 1 ≤ R.cells) (hRslots : slots + 6 ≤ R.slots) (hlocks : meth.locks = false)
    (hx : ∀ t : State, s.vm.Alike t.vm → H.size ≤ t.heap.size → (∀ q : Nat, q < H.size → t.heap[q]? = H[q]?) → XC cls s t)
    (hf : ∀ z ∈ locs, free z.base) (hc : cells + 1 ≤ mc) (hs : slots + 6 ≤ ms) :
    W p l e R s m args below meth c H locs cells slots (vx_MQ below Qc XC args s mc ms free) (F0 m pc ls rest) := by
  intro T hT X
  have htr : e.platform.stackTraces = false := (show e.platform.stackTraces = l.stackTraces by rw [X.admits.platform]).trans hl
  have Y := vx_rebase X (R' := { frames := R.frames, locals := R.locals, cells := 1, slots := 6 }) (Nat.le_refl _) (Nat.le_refl _) hRcells hRslots
  obtain ⟨s', hA⟩ : ∃ z, z = (T.setVm s.vm).setFrames (.invoking m args :: below) := ⟨_, rfl⟩
  rw [← hA] at Y
  have hvm : s'.vm = s.vm := by rw [hA]; rfl
  have hhp : s'.heap = H := by rw [hA]; exact hT
  have hW0 : s.WarmedH s'.vm := by rw [hvm]; exact State.WarmedH.refl s
  have hat' : ∀ w ∈ vx_at0 own ic cls names, w.before args s' = true := fun w hw => vx_ot_at hW0 hvm.symm (hgood w (List.mem_cons_of_mem _ (List.mem_cons_of_mem _ hw))) (hat w hw)
  have hk' : (Cond.classLink own ik cls).before args s' = true := vx_ot_at hW0 hvm.symm (hgood _ List.mem_cons_self) hk
  have hini' : (Cond.initialized cls).before args s' = true := vx_ot_at hW0 hvm.symm (hgood _ (List.mem_cons_of_mem _ List.mem_cons_self)) hini
  have hU' : vx_Zq Bundle.tN "UNASSIGNED_STACK" Bundle.steD A s' s'.heap := by rw [hhp]; exact vx_Zq.moved hW0.alike (hU.kept hS.2.1)
  have hN' : vx_Zq Bundle.tN "SUPPRESSED_SENTINEL" Bundle.listD A s' s'.heap := by rw [hhp]; exact vx_Zq.moved hW0.alike (hN.kept hS.2.1)
  have h : ∀ w ∈ Bundle.ownAtoms0 own ic cls names, w.before args s' = true := vx_own hat' (vx_isRefq hU'.1) (vx_isRefq hN'.1) hU'.2.word hN'.2.word
  have hown' : s'.vm.findClass own = some m.cls := by rw [hvm]; exact hown
  have hins : (Cond.instantiable cls 6).before args s' = true := h _ (by simp [Bundle.ownAtoms0])
  obtain ⟨vm₁, cX, kX, hfX, hkX, -, -, X₁, st1⟩ := Y.newCold hexec (own := own) (C := cls) (index := ik) (n := 6) hown' hk' hins hini'
    (g := F0 m pc ls rest) rfl (by rw [hb]; exact d0) (Nat.le_refl _) (Nat.le_refl _)
  generalize hT1 : (T.setVm vm₁).pushCell { cls := cX, slots := kX.instanceTypes.map defaultValue, vm := .none } = T1 at X₁ st1
  have hcat : (Value.ref T.heap.size).category = 1 := rfl
  have hcellA : T1.heap[T.heap.size]? = some (freshCell cX kX) := by rw [← hT1]; exact State.heap_pushCell_size _ _
  have d3' : decode c.code (pc + 3) = .ok (.dup, 1) := by rw [hb]; exact d3
  obtain ⟨U, hsteps, hrun, hend, hW, hsame, ce, hce, hO⟩ := X₁.ctorThrow0 hexec htr (own := own) (cls := cls) (names := names) (ic := ic) hown' hcls hnames h (fun x hx => nomatch hx) hfX hkX hcellA (by rw [hhp, hT]; exact Nat.le_refl _)
    (g := { method := m, pc := pc + 4, locals := ls, stack := .ref T.heap.size :: .ref T.heap.size :: rest, locked := none }) rfl hsize rfl rfl (rest := rest) rfl
    (by rw [hb]; exact d4) (by rw [hb]; exact d7) hout hRframes (by simp only [List.map_cons, List.sum_cons, hcat]; omega) hlocks
  obtain ⟨f1, f2⟩ := vx_frame hsame
  rw [hhp] at f1 f2
  have hWs : s.WarmedH U.vm := State.WarmedH.trans hW0 hW
  have hcl : s.vm.findClass cls = some ce.cls := by
    have h9 := hO.cls
    rw [hvm] at h9
    exact h9
  have hall : s.sameButNew ({ U with vm := s.vm } : State) locs mc ms := by
    subst hA
    obtain ⟨e1, e2⟩ := hsame
    rw [State.setFrames_setFrames] at e1
    have h2 : (T.setVm s.vm).sameButNew ({ U with vm := s.vm } : State) [] (0 + 1) (0 + 6) := ⟨e1, e2⟩
    have h3 := X.same.trans h2
    rw [List.append_nil] at h3
    exact h3.mono hc hs
  refine ⟨U, ?_, .threw T.heap.size, hrun, hend, Or.inr ⟨T.heap.size, rfl, cls, ce, locs, hx U hWs.alike f1 (fun q hq => f2 q hq (fun z hz => nomatch hz)), hce, hO.vm, hcl, hWs, hall, hf⟩⟩
  refine st1 _ ?_
  show Steps p.tables e below (T1.setTop { method := m, pc := pc + 3, locals := ls, stack := .ref T.heap.size :: rest, locked := none }) _
  jvm_step X₁.here [X₁.here.top, hexec, d3', Value.category]
  exact hsteps
/-- 'throw new E("text")': new; dup; ldc; invokespecial; athrow -/
theorem vx_throwS {cc : ByteArray} {pc : Nat} (hexec : p.tables.exec = Jvm.exec) (hb : c.code = cc) (hl : l.stackTraces = false) {own cls text : String} {names : List String} {ik is ic mc ms sa : Nat} {A : Nat → Prop}
    (hown : s.vm.findClass own = some m.cls) (hcls : Bundle.fit cls = true) (hnames : ∀ n ∈ names, Bundle.fit n = true)
    (hk : (Cond.classLink own ik cls).before args s = true) (hini : (Cond.initialized cls).before args s = true) (hstr : vk_R own is text sa s) (hat : ∀ w ∈ vx_atS own ic cls names, w.before args s = true)
    (hgood : ∀ w ∈ Cond.classLink own ik cls :: Cond.initialized cls :: vx_atS own ic cls names, vx_ot w = true)
    (hU : vx_Zq Bundle.tN "UNASSIGNED_STACK" Bundle.steD A s s.heap) (hN : vx_Zq Bundle.tN "SUPPRESSED_SENTINEL" Bundle.listD A s s.heap) (hS : va_S A s.heap H locs) (hsize : ls.size = c.maxLocals)
    (d0 : decode cc pc = .ok (.new ik, 3)) (d3 : decode cc (pc + 3) = .ok (.dup, 1)) (d4 : decode cc (pc + 4) = .ok (.ldc is, 2)) (d6 : decode cc (pc + 6) = .ok (.invokespecial ic, 3)) (d9 : decode cc (pc + 9) = .ok (.athrow, 1))
    (hout : ∀ x ∈ c.exceptionTable.toList, covers x (pc + 9) = false)
    (hRframes : names.length + 3 < R.frames) (hRlocals : (rest.map fun v => v.category).sum + (13 * (names.length + 1) + 43) ≤ R.locals) (hRcells : cells + 1 ≤ R.cells) (hRslots : slots + 6 ≤ R.slots) (hlocks : meth.locks = false)
    (hx : ∀ t : State, s.vm.Alike t.vm → H.size ≤ t.heap.size → (∀ q : Nat, q < H.size → t.heap[q]? = H[q]?) → XC cls s t)
    (hf : ∀ z ∈ locs, free z.base) (hc : cells + 1 ≤ mc) (hs : slots + 6 ≤ ms) :
    W p l e R s m args below meth c H locs cells slots (vx_MQ below Qc XC args s mc ms free) (F0 m pc ls rest) := by
  intro T hT X
  have htr : e.platform.stackTraces = false := (show e.platform.stackTraces = l.stackTraces by rw [X.admits.platform]).trans hl
  have Y := vx_rebase X (R' := { frames := R.frames, locals := R.locals, cells := 1, slots := 6 }) (Nat.le_refl _) (Nat.le_refl _) hRcells hRslots
  obtain ⟨s', hA⟩ : ∃ z, z = (T.setVm s.vm).setFrames (.invoking m args :: below) := ⟨_, rfl⟩
  rw [← hA] at Y
  have hvm : s'.vm = s.vm := by rw [hA]; rfl
  have hhp : s'.heap = H := by rw [hA]; exact hT
  have hW0 : s.WarmedH s'.vm := by rw [hvm]; exact State.WarmedH.refl s
  have hat' : ∀ w ∈ vx_atS own ic cls names, w.before args s' = true := fun w hw => vx_ot_at hW0 hvm.symm (hgood w (List.mem_cons_of_mem _ (List.mem_cons_of_mem _ hw))) (hat w hw)
  have hk' : (Cond.classLink own ik cls).before args s' = true := vx_ot_at hW0 hvm.symm (hgood _ List.mem_cons_self) hk
  have hini' : (Cond.initialized cls).before args s' = true := vx_ot_at hW0 hvm.symm (hgood _ (List.mem_cons_of_mem _ List.mem_cons_self)) hini
  have hU' : vx_Zq Bundle.tN "UNASSIGNED_STACK" Bundle.steD A s' s'.heap := by rw [hhp]; exact vx_Zq.moved hW0.alike (hU.kept hS.2.1)
  have hN' : vx_Zq Bundle.tN "SUPPRESSED_SENTINEL" Bundle.listD A s' s'.heap := by rw [hhp]; exact vx_Zq.moved hW0.alike (hN.kept hS.2.1)
  have h : ∀ w ∈ Bundle.ownAtoms own ic cls names, w.before args s' = true := vx_own hat' (vx_isRefq hU'.1) (vx_isRefq hN'.1) hU'.2.word hN'.2.word
  have hown' : s'.vm.findClass own = some m.cls := by rw [hvm]; exact hown
  have hins : (Cond.instantiable cls 6).before args s' = true := h _ (by simp [Bundle.ownAtoms])
  obtain ⟨vm₁, cX, kX, hfX, hkX, -, -, X₁, st1⟩ := Y.newCold hexec (own := own) (C := cls) (index := ik) (n := 6) hown' hk' hins hini'
    (g := F0 m pc ls rest) rfl (by rw [hb]; exact d0) (Nat.le_refl _) (Nat.le_refl _)
  generalize hT1 : (T.setVm vm₁).pushCell { cls := cX, slots := kX.instanceTypes.map defaultValue, vm := .none } = T1 at X₁ st1
  have hcat : (Value.ref T.heap.size).category = 1 := rfl
  have hcellA : T1.heap[T.heap.size]? = some (freshCell cX kX) := by rw [← hT1]; exact State.heap_pushCell_size _ _
  have d3' : decode c.code (pc + 3) = .ok (.dup, 1) := by rw [hb]; exact d3
  have d4' : decode c.code (pc + 4) = .ok (.ldc is, 2) := by rw [hb]; exact d4
  have hstr' : vk_R own is text sa s' := vk_R.warm hW0 hstr
  obtain ⟨U, hsteps, hrun, hend, hW, hsame, ce, hce, hO⟩ := X₁.ctorThrowS hexec htr (own := own) (cls := cls) (names := names) (ic := ic) hown' hcls hnames h (fun x hx => nomatch hx) hfX hkX hcellA (by rw [hhp, hT]; exact Nat.le_refl _) (msg := .ref sa) rfl
    (g := { method := m, pc := pc + 6, locals := ls, stack := .ref sa :: .ref T.heap.size :: .ref T.heap.size :: rest, locked := none }) rfl hsize rfl rfl (rest := rest) rfl
    (by rw [hb]; exact d6) (by rw [hb]; exact d9) hout hRframes (by simp only [List.map_cons, List.sum_cons, hcat]; omega) hlocks
  obtain ⟨f1, f2⟩ := vx_frame hsame
  rw [hhp] at f1 f2
  have hWs : s.WarmedH U.vm := State.WarmedH.trans hW0 hW
  have hcl : s.vm.findClass cls = some ce.cls := by
    have h9 := hO.cls
    rw [hvm] at h9
    exact h9
  have hall : s.sameButNew ({ U with vm := s.vm } : State) locs mc ms := by
    subst hA
    obtain ⟨e1, e2⟩ := hsame
    rw [State.setFrames_setFrames] at e1
    have h2 : (T.setVm s.vm).sameButNew ({ U with vm := s.vm } : State) [] (0 + 1) (0 + 6) := ⟨e1, e2⟩
    have h3 := X.same.trans h2
    rw [List.append_nil] at h3
    exact h3.mono hc hs
  refine ⟨U, ?_, .threw T.heap.size, hrun, hend, Or.inr ⟨T.heap.size, rfl, cls, ce, locs, hx U hWs.alike f1 (fun q hq => f2 q hq (fun z hz => nomatch hz)), hce, hO.vm, hcl, hWs, hall, hf⟩⟩
  refine st1 _ ?_
  show Steps p.tables e below (T1.setTop { method := m, pc := pc + 3, locals := ls, stack := .ref T.heap.size :: rest, locked := none }) _
  jvm_step X₁.here [X₁.here.top, hexec, d3', Value.category]
  exact X₁.ldcString hexec (own := own) (text := text) (index := is) (a := sa) hown' hstr'.1 hstr'.2
    (g := { method := m, pc := pc + 4, locals := ls, stack := .ref T.heap.size :: .ref T.heap.size :: rest, locked := none }) rfl d4' _ hsteps
/-- 'throw new E("text")', the text by a wide index -/
theorem vx_throwSW {cc : ByteArray} {pc : Nat} (hexec : p.tables.exec = Jvm.exec) (hb : c.code = cc) (hl : l.stackTraces = false) {own cls text : String} {names : List String} {ik is ic mc ms sa : Nat} {A : Nat → Prop}
    (hown : s.vm.findClass own = some m.cls) (hcls : Bundle.fit cls = true) (hnames : ∀ n ∈ names, Bundle.fit n = true)
    (hk : (Cond.classLink own ik cls).before args s = true) (hini : (Cond.initialized cls).before args s = true) (hstr : vk_R own is text sa s) (hat : ∀ w ∈ vx_atS own ic cls names, w.before args s = true)
    (hgood : ∀ w ∈ Cond.classLink own ik cls :: Cond.initialized cls :: vx_atS own ic cls names, vx_ot w = true)
    (hU : vx_Zq Bundle.tN "UNASSIGNED_STACK" Bundle.steD A s s.heap) (hN : vx_Zq Bundle.tN "SUPPRESSED_SENTINEL" Bundle.listD A s s.heap) (hS : va_S A s.heap H locs) (hsize : ls.size = c.maxLocals)
    (d0 : decode cc pc = .ok (.new ik, 3)) (d3 : decode cc (pc + 3) = .ok (.dup, 1)) (d4 : decode cc (pc + 4) = .ok (.ldc_w is, 3)) (d7 : decode cc (pc + 7) = .ok (.invokespecial ic, 3)) (d10 : decode cc (pc + 10) = .ok (.athrow, 1))
    (hout : ∀ x ∈ c.exceptionTable.toList, covers x (pc + 10) = false)
    (hRframes : names.length + 3 < R.frames) (hRlocals : (rest.map fun v => v.category).sum + (13 * (names.length + 1) + 43) ≤ R.locals) (hRcells : cells + 1 ≤ R.cells) (hRslots : slots + 6 ≤ R.slots) (hlocks : meth.locks = false)
    (hx : ∀ t : State, s.vm.Alike t.vm → H.size ≤ t.heap.size → (∀ q : Nat, q < H.size → t.heap[q]? = H[q]?) → XC cls s t)
    (hf : ∀ z ∈ locs, free z.base) (hc : cells + 1 ≤ mc) (hs : slots + 6 ≤ ms) :
    W p l e R s m args below meth c H locs cells slots (vx_MQ below Qc XC args s mc ms free) (F0 m pc ls rest) := by
  intro T hT X
  have htr : e.platform.stackTraces = false := (show e.platform.stackTraces = l.stackTraces by rw [X.admits.platform]).trans hl
  have Y := vx_rebase X (R' := { frames := R.frames, locals := R.locals, cells := 1, slots := 6 }) (Nat.le_refl _) (Nat.le_refl _) hRcells hRslots
  obtain ⟨s', hA⟩ : ∃ z, z = (T.setVm s.vm).setFrames (.invoking m args :: below) := ⟨_, rfl⟩
  rw [← hA] at Y
  have hvm : s'.vm = s.vm := by rw [hA]; rfl
  have hhp : s'.heap = H := by rw [hA]; exact hT
  have hW0 : s.WarmedH s'.vm := by rw [hvm]; exact State.WarmedH.refl s
  have hat' : ∀ w ∈ vx_atS own ic cls names, w.before args s' = true := fun w hw => vx_ot_at hW0 hvm.symm (hgood w (List.mem_cons_of_mem _ (List.mem_cons_of_mem _ hw))) (hat w hw)
  have hk' : (Cond.classLink own ik cls).before args s' = true := vx_ot_at hW0 hvm.symm (hgood _ List.mem_cons_self) hk
  have hini' : (Cond.initialized cls).before args s' = true := vx_ot_at hW0 hvm.symm (hgood _ (List.mem_cons_of_mem _ List.mem_cons_self)) hini
  have hU' : vx_Zq Bundle.tN "UNASSIGNED_STACK" Bundle.steD A s' s'.heap := by rw [hhp]; exact vx_Zq.moved hW0.alike (hU.kept hS.2.1)
  have hN' : vx_Zq Bundle.tN "SUPPRESSED_SENTINEL" Bundle.listD A s' s'.heap := by rw [hhp]; exact vx_Zq.moved hW0.alike (hN.kept hS.2.1)
  have h : ∀ w ∈ Bundle.ownAtoms own ic cls names, w.before args s' = true := vx_own hat' (vx_isRefq hU'.1) (vx_isRefq hN'.1) hU'.2.word hN'.2.word
  have hown' : s'.vm.findClass own = some m.cls := by rw [hvm]; exact hown
  have hins : (Cond.instantiable cls 6).before args s' = true := h _ (by simp [Bundle.ownAtoms])
  obtain ⟨vm₁, cX, kX, hfX, hkX, -, -, X₁, st1⟩ := Y.newCold hexec (own := own) (C := cls) (index := ik) (n := 6) hown' hk' hins hini'
    (g := F0 m pc ls rest) rfl (by rw [hb]; exact d0) (Nat.le_refl _) (Nat.le_refl _)
  generalize hT1 : (T.setVm vm₁).pushCell { cls := cX, slots := kX.instanceTypes.map defaultValue, vm := .none } = T1 at X₁ st1
  have hcat : (Value.ref T.heap.size).category = 1 := rfl
  have hcellA : T1.heap[T.heap.size]? = some (freshCell cX kX) := by rw [← hT1]; exact State.heap_pushCell_size _ _
  have d3' : decode c.code (pc + 3) = .ok (.dup, 1) := by rw [hb]; exact d3
  have d4' : decode c.code (pc + 4) = .ok (.ldc_w is, 3) := by rw [hb]; exact d4
  have hstr' : vk_R own is text sa s' := vk_R.warm hW0 hstr
  obtain ⟨U, hsteps, hrun, hend, hW, hsame, ce, hce, hO⟩ := X₁.ctorThrowS hexec htr (own := own) (cls := cls) (names := names) (ic := ic) hown' hcls hnames h (fun x hx => nomatch hx) hfX hkX hcellA (by rw [hhp, hT]; exact Nat.le_refl _) (msg := .ref sa) rfl
    (g := { method := m, pc := pc + 7, locals := ls, stack := .ref sa :: .ref T.heap.size :: .ref T.heap.size :: rest, locked := none }) rfl hsize rfl rfl (rest := rest) rfl
    (by rw [hb]; exact d7) (by rw [hb]; exact d10) hout hRframes (by simp only [List.map_cons, List.sum_cons, hcat]; omega) hlocks
  obtain ⟨f1, f2⟩ := vx_frame hsame
  rw [hhp] at f1 f2
  have hWs : s.WarmedH U.vm := State.WarmedH.trans hW0 hW
  have hcl : s.vm.findClass cls = some ce.cls := by
    have h9 := hO.cls
    rw [hvm] at h9
    exact h9
  have hall : s.sameButNew ({ U with vm := s.vm } : State) locs mc ms := by
    subst hA
    obtain ⟨e1, e2⟩ := hsame
    rw [State.setFrames_setFrames] at e1
    have h2 : (T.setVm s.vm).sameButNew ({ U with vm := s.vm } : State) [] (0 + 1) (0 + 6) := ⟨e1, e2⟩
    have h3 := X.same.trans h2
    rw [List.append_nil] at h3
    exact h3.mono hc hs
  refine ⟨U, ?_, .threw T.heap.size, hrun, hend, Or.inr ⟨T.heap.size, rfl, cls, ce, locs, hx U hWs.alike f1 (fun q hq => f2 q hq (fun z hz => nomatch hz)), hce, hO.vm, hcl, hWs, hall, hf⟩⟩
  refine st1 _ ?_
  show Steps p.tables e below (T1.setTop { method := m, pc := pc + 3, locals := ls, stack := .ref T.heap.size :: rest, locked := none }) _
  jvm_step X₁.here [X₁.here.top, hexec, d3', Value.category]
  exact X₁.ldcStringW hexec (own := own) (text := text) (index := is) (a := sa) hown' hstr'.1 hstr'.2
    (g := { method := m, pc := pc + 4, locals := ls, stack := .ref T.heap.size :: .ref T.heap.size :: rest, locked := none }) rfl d4' _ hsteps
end Ends
section Bodies
variable {l : Launch}
theorem vx_ofW {y : MethodName} {ws ws' : List Cond} {rm : Room} {Pc : Array Value → State → Prop} {Qc : Array Value → State → Outcome → State → Prop} {XC : String → State → State → Prop} {mc ms : Nat} {free : Addr → Prop} {cc : ByteArray} {maxL : Nat} {ret : Option FieldType}
    (hy : plainName y.cls = true) (hw : ws = Cond.code y cc maxL ret :: ws')
    (body : ∀ p e s m args below meth c s₁, BodyLoose p l y (headSpec ws rm) cc maxL ret e s m args below meth c s₁ → c.maxLocals = maxL → (∀ x ∈ c.exceptionTable.toList, False) → Pc args s →
      W p l e (headSpec ws rm).room s m args below meth c s.heap [] 0 0 (vx_MQ below Qc XC args s mc ms free) (entryFrame m args maxL)) : vx_Met l y ws rm Pc Qc XC mc ms free := by
  refine MetFree.of_bodyS (code := cc) (maxLocals := maxL) (ret := ret) hy ?_ ?_
  · intro args s m h hn
    obtain ⟨meth, c, h1, h2, h3, h4, h5, h6, -, -⟩ := Cond.code_spec hn (atoms_spec (ws := ws) h _ (by rw [hw]; exact List.mem_cons_self))
    exact ⟨meth, c, h1, h2, h3, h4, h5, h6⟩
  · intro p e s m args below meth c s₁ B hml hP _
    have hh0 : s₁.heap = s.heap := by rw [B.state]; rfl
    have ht : ∀ x ∈ c.exceptionTable.toList, False := by
      obtain ⟨meth9, c9, h1, h2, -, -, -, -, h7, -⟩ := Cond.code_spec B.named (atoms_spec (ws := ws) B.pre _ (by rw [hw]; exact List.mem_cons_self))
      cases Option.some.inj (h1.symm.trans B.method)
      cases Option.some.inj (h2.symm.trans (Stand.of_body B).code)
      intro x hx
      rw [Array.isEmpty_iff.mp h7] at hx
      cases hx
    obtain ⟨t, a1, o, b1, b2, b3⟩ := body p e s m args below meth c s₁ B hml ht hP s₁ hh0 (Stand.of_body B)
    exact ⟨t, o, a1, b1, b2, b3⟩
/-- the table of a body with handlers -/
theorem vx_table {p : Program} {x y : MethodName} {S : Spec} {cc bytes : ByteArray} {maxL maxL' : Nat} {ret ret' : Option FieldType} {e : Env} {s s₁ : State} {m : MethodId} {args : Array Value} {below : List Frame} {meth : Method} {c : Code} {hh : List (Nat × Nat × Nat × Nat)}
    (B : BodyLoose p l y S cc maxL ret e s m args below meth c s₁) (h : (Cond.codeWith y bytes maxL' ret' hh).before args s = true) : c.exceptionTable.toList = tableOf hh := by
  obtain ⟨m9, meth9, c9, hn9, h1, h2, -, -, h6, -⟩ := Cond.codeWith_spec h
  cases Option.some.inj (hn9.symm.trans B.named)
  cases Option.some.inj (h1.symm.trans B.method)
  cases Option.some.inj (h2.symm.trans (Stand.of_body B).code)
  rw [← h6, table_eq]
end Bodies
end VXA
/-! ===== END ===== -/
/-! ===== BEGIN a static call of a method with an exception table ===== -/
section VXS
variable {p : Program} {l : Launch} {e : Env} {R : Room} {s : State} {m : MethodId} {args : Array Value} {below : List Frame} {meth : Method} {c : Code} {T : State} {H : Heap} {locs : List Loc} {cells slots : Nat}
abbrev vx_CSW (R : Room) (s : State) (args : Array Value) (own : String) (index : Nat) (y : MethodName) (bytes : ByteArray) (maxL : Nat) (ret : Option FieldType) (hh : List (Nat × Nat × Nat × Nat)) (ws : List Cond) (rm : Room) (mc ms n : Nat) : Prop :=
  (rm.cells = mc ∧ rm.slots = ms ∧ rm.frames + 1 ≤ R.frames ∧ 8 + (maxL + 11) + rm.locals ≤ R.locals ∧ (∀ w ∈ ws, ∀ (a' : Array Value) (U : State), s.WarmedH U.vm → w.before a' U = true) ∧ Cond.codeWith y bytes maxL ret hh ∈ ws) ∧
  (Cond.codeWith y bytes maxL ret hh).before args s = true ∧ (Cond.initialized y.cls).before args s = true ∧ (y.cls ≠ "java/lang/invoke/MethodHandle" ∧ y.cls ≠ "java/lang/invoke/VarHandle") ∧
  (∀ sig, parseMethodDescriptor y.desc = some sig → n = sig.parameters.length) ∧ (Cond.methodLink own index y).before args s = true ∧ (Cond.static y).before args s = true
theorem vx_cwSW {own : String} {index maxL mc ms : Nat} {y : MethodName} {bytes : ByteArray} {ret : Option FieldType} {hh : List (Nat × Nat × Nat × Nat)} {Ts ws ws' : List Cond} {rm : Room} (n : Nat) (ht : ∀ w ∈ Ts, w.before args s = true) (hT : GoodIn Ts (va_wsS own index y ws)) (hw : ws = Cond.codeWith y bytes maxL ret hh :: ws') (hrc : rm.cells = mc) (hrs : rm.slots = ms)
    (hd : y.cls ≠ "java/lang/invoke/MethodHandle" ∧ y.cls ≠ "java/lang/invoke/VarHandle" ∧ (parseMethodDescriptor y.desc).map (fun d => d.parameters.length) = some n) (hR : rm.frames + 1 ≤ R.frames ∧ 8 + (maxL + 11) + rm.locals ≤ R.locals) :
    vx_CSW R s args own index y bytes maxL ret hh ws rm mc ms n := by
  have ok : ∀ w ∈ va_wsS own index y ws, w.before args s = true := fun w h => ht w (hT w h).1
  have hG : GoodIn Ts ws := fun w h => hT w (by unfold va_wsS; exact List.mem_append_right _ h)
  have hc : Cond.codeWith y bytes maxL ret hh ∈ ws := by rw [hw]; exact List.mem_cons_self
  refine ⟨⟨hrc, hrs, hR.1, hR.2, pay_in ht hG, hc⟩, ht _ (hG _ hc).1, ok _ (by simp [va_wsS]), ⟨hd.1, hd.2.1⟩, fun sig h => ?_, ok _ (by simp [va_wsS]), ok _ (by simp [va_wsS])⟩
  have h2 := hd.2.2
  rw [h] at h2
  exact (Option.some.inj h2).symm
theorem vx_callSW (X : Stand p l e R s m args below meth c T locs cells slots) (hexec : p.tables.exec = Jvm.exec) {own : String} {index : Nat} {y : MethodName} {bytes : ByteArray} {maxL : Nat} {ret : Option FieldType} {hh : List (Nat × Nat × Nat × Nat)}
    (hown : s.vm.findClass own = some m.cls) (hlink : (Cond.methodLink own index y).before args s = true) (hstat : (Cond.static y).before args s = true) (hinit : (Cond.initialized y.cls).before args s = true)
    (hcode : (Cond.codeWith y bytes maxL ret hh).before args s = true) (hy : y.cls ≠ "java/lang/invoke/MethodHandle" ∧ y.cls ≠ "java/lang/invoke/VarHandle")
    {W9 : Nat} {Pre : Pt → Array Value → Prop} {Post : Pt → Array Value → Option Value → Pt → Prop} (hK : Back l R p e below s args y 3 W9 Pre Post)
    {g : JFrame} (hg : g.method = m) (hsize : g.locals.size = c.maxLocals) {argsL rest : List Value} (hlen : ∀ sig, parseMethodDescriptor y.desc = some sig → argsL.length = sig.parameters.length)
    (hstack : g.stack = argsL.reverse ++ rest) (hW : 2 * g.monitorRoom + (rest.map fun v => v.category).sum ≤ W9) (hdg : decode c.code g.pc = .ok (.invokestatic index, 3))
    (hpre : ∀ vm₁, s.WarmedH vm₁ → Pre ⟨T.setVm vm₁, locs, cells, slots⟩ argsL.toArray) :
    ∃ (v : Option Value) (vm₁ : Vm) (B : Pt), s.WarmedH vm₁ ∧ Stand p l e R s m args below meth c B.U B.locs B.cells B.slots ∧ Post ⟨T.setVm vm₁, locs, cells, slots⟩ argsL.toArray v B ∧
      ∀ target, Steps p.tables e below (B.U.setTop { g with pc := g.pc + 3, stack := v.toList ++ rest }) target → Steps p.tables e below (T.setTop g) target := by
  obtain ⟨mk, methM, cM, hnamed, hmethM, -, -, -, -, -, -, hsigM⟩ := Cond.codeWith_spec hcode
  have hstatic : methM.isStatic = true := Cond.static_spec hnamed hmethM hstat
  obtain ⟨kP, hkP, -⟩ := className_of_methodNamed hnamed
  have hinitP : kP.init = .initialized := Cond.initialized_spec (findClass_of_methodNamed hnamed) hkP hinit
  obtain ⟨vm₁, X₁, hstep₁⟩ := X.invokestatic hexec hown hlink hnamed hmethM hstatic hkP hinitP hy (g := g) hg (argsL := argsL) (rest := rest) (hlen _ hsigM) hstack hdg
  obtain ⟨v, B, X', hpost, hsteps⟩ := hK m meth c ⟨T.setVm vm₁, locs, cells, slots⟩ { g with stack := rest } (.invokestatic index) mk argsL.toArray X₁ hg hsize hdg hW (X₁.named hnamed) (hpre vm₁ X₁.warmed)
  exact ⟨v, vm₁, B, X₁.warmed, X', hpost, fun target h => hstep₁ _ fun acts => by rw [doInvoke_state]; exact hsteps.trans h⟩
theorem vx_runSW {y : MethodName} {bytes cc : ByteArray} {maxL nL mc ms n index : Nat} {ret : Option FieldType} {hh : List (Nat × Nat × Nat × Nat)} {ws : List Cond} {rm : Room} {Pc : Array Value → State → Prop} {Qc : Array Value → State → Outcome → State → Prop} {free : Addr → Prop} {Ts : List Cond} {own : String} {As rest : List Value} {g : JFrame}
    (S : CallFix p m c cc nL s args Ts own) (hM : Met l y ws rm Pc Qc mc ms free) (cw : vx_CSW R s args own index y bytes maxL ret hh ws rm mc ms n) (hp : PreS s H Pc As)
    (hg : g.method = m) (hn : As.length = n) (hsize : g.locals.size = nL) (hstack : g.stack = As.reverse ++ rest) (hW : 2 * g.monitorRoom + (rest.map fun v => v.category).sum ≤ 8) (hdg : decode cc g.pc = .ok (.invokestatic index, 3)) (hf : cells + mc ≤ R.cells ∧ slots + ms ≤ R.slots) :
    va_Run p l e R s m args below meth c H locs cells slots mc ms g rest (Qc As.toArray) (free) := by
  obtain ⟨⟨hrc, hrs, hfr, hlo, hws, hcw⟩, hcode, hini, hy, hlen, hl, hstt⟩ := cw
  have hK : Back l R p e below s args y 3 8 (PreOf R mc ms Pc) (PostOf Qc mc ms free) := va_backW (hh := hh) (bytes := bytes) (maxL := maxL) (ret := ret) hM hp.1 hrc hrs hfr hlo hws hcw (fun a' U hW => word_at hW (Or.inl (by first | rfl | simp [Cond.onTables, Cond.keeps, Cond.steady])) hini)
  obtain ⟨hx, hb, hml, ho, -⟩ := S
  intro T hT X
  obtain ⟨v, vm₁, ⟨U', l2, c2, s2⟩, hW₁, X', ⟨g', mk, t, L, e1, e2, hq, h1, hL, h2, h3⟩, st⟩ := vx_callSW X hx (hh := hh) (bytes := bytes) (maxL := maxL) (ret := ret) ho hl hstt hini hcode hy hK hg (hsize.trans hml.symm) (argsL := As) (rest := rest) (fun sig h => hn.trans (hlen sig h)) hstack hW (by rw [hb]; exact hdg)
    (fun vm₁ hW₁ => ⟨hf.1, hf.2, hp.2 (T.setVm vm₁) hT hW₁⟩)
  dsimp only [Pt.U, Pt.locs, Pt.cells, Pt.slots] at X' e1 e2 h1 h2 h3 st
  subst h1; subst h2; subst h3
  exact ⟨v, (T.setVm vm₁).calling g' mk As.toArray, t, U', L, hT, X', hL, e1, e2, hq, st⟩
/-- not caught here, past rows that name other classes: it goes on to the caller -/
theorem vx_outP {p : Program} {l : Launch} {e : Env} {R : Room} {s : State} {m : MethodId} {args : Array Value} {below : List Frame} {meth : Method} {c : Code} {H : Heap} {locs : List Loc} {cells slots : Nat} {free : Addr → Prop} {ls : Array Slot} {rest : List Value} {Qc : Array Value → State → Outcome → State → Prop} {XC : String → State → State → Prop}
    {pc : Nat} {own E : String} {ce : Cell} {q : Addr} {mc ms : Nat} (hown : s.vm.findClass own = some m.cls) (hlocks : meth.locks = false)
    (hpass : ∀ z ∈ c.exceptionTable.toList, covers z pc = false ∨ (z.catchType ≠ 0 ∧ ∃ nm : String, (Cond.classLink own z.catchType nm).before args s = true ∧ va_Nc E nm s)) (hcell : H[q]? = some ce) (hv : ce.vm = .none) (hcl : s.vm.findClass E = some ce.cls)
    (hx : ∀ t : State, t.heap = H → s.vm.Alike t.vm → XC E s t) (hf : ∀ z ∈ locs, free z.base) (hc : cells ≤ mc) (hs : slots ≤ ms) :
    vx_W p l e R s m args below meth c H locs cells slots (vx_MQ below Qc XC args s mc ms free) (F0 m pc ls rest) q := by
  intro T hT X
  have hpl : e.platform.magicAccessors = ({} : Platform).magicAccessors := by rw [X.admits.platform]
  obtain ⟨vm', hW', X', st⟩ := X.outThrough hlocks q (g := F0 m pc ls rest) rfl rfl rfl (cell := ce) (by rw [hT]; exact hcell) (by rw [hv]; rfl)
    (by obtain ⟨k9, h9, -⟩ := Vm.findClass_spec hcl; exact ⟨k9, h9⟩) (fun z hz => by
      rcases hpass z hz with h | ⟨hz0, nm, hl1, hn1⟩
      · exact Or.inl h
      · obtain ⟨c6, hc6, hcl6⟩ := Cond.classLink_spec hown hl1 e.platform hpl
        obtain ⟨a8, b8, h1, h2, h3⟩ := hn1
        cases Option.some.inj (h1.symm.trans hcl)
        cases Option.some.inj (h2.symm.trans hc6)
        exact Or.inr ⟨hz0, _, hcl6, h3⟩)
  obtain ⟨g₀, hfr⟩ := X'.frames_eq
  have hcell9 : ((T.setVm vm').setFrames (.throwing q :: below)).heap[q]? = some ce := by
    show T.heap[q]? = some ce
    rw [hT]; exact hcell
  have hend : Ended ((T.setVm vm').setFrames (.throwing q :: below)) below (.threw q) := State.frames_setFrames _ (State.cur_lt_of_frames hfr)
  refine ⟨(T.setVm vm').setFrames (.throwing q :: below), ?_, .threw q, X'.here.running, hend, Or.inr ⟨q, rfl, E, ce, locs, hx _ hT (X'.ends _).1.alike, hcell9, hv, hcl, (X'.ends _).1, (X'.ends _).2.mono hc hs, hf⟩⟩
  rw [X.pushThrowing_eq]
  exact st
/-- a thing of a world lies in the heap -/
theorem vx_lt {D : va_G} {cl : List vw_C} {ws : va_W} {H1 : Heap} (h : va_P D cl ws H1) {k : Nat} {q : Nat × va_E} (hk : ws[k]? = some q) : q.1 < H1.size := (h k q hk).lt
end VXS
/-! ===== END ===== -/
/-! ===== BEGIN methods with a table of their own: called by a name, returning or throwing ===== -/
section VXH
/-! vx_backW, vx_callVX, vx_callSX, vx_callVW, vx_runVW, vx_runVX, vx_runSX, vx_ofWH follow the same proofs as their sisters above (Free/Laws.lean, Shelf42/LK1.lean); vx_outP calls Shelf42/NT130.lean (outThrough). -/
section
variable {l : Launch} {R : Room} {p : Program} {e : Env} {below : List Frame} {s : State} {sargs : Array Value} {y : MethodName} {len W9 : Nat}
theorem vx_backW {ws : List Cond} {rm : Room} {Pc : Array Value → State → Prop} {Qc : Array Value → State → Outcome → State → Prop} {XC : String → State → State → Prop} {mc ms : Nat} {free : Addr → Prop} {bytes : ByteArray} {maxL : Nat} {ret : Option FieldType} {hh : List (Nat × Nat × Nat × Nat)}
    (hM : vx_Met l y ws rm Pc Qc XC mc ms free) (hblind : FrameBlind Pc) (hrc : rm.cells = mc) (hrs : rm.slots = ms)
    (hframes : rm.frames + 1 ≤ R.frames) (hlocals : W9 + (maxL + 11) + rm.locals ≤ R.locals)
    (hws : ∀ w ∈ ws, ∀ a' U, s.WarmedH U.vm → w.before a' U = true) (hcode : Cond.codeWith y bytes maxL ret hh ∈ ws) (hinit : ∀ a' U, s.WarmedH U.vm → (Cond.initialized y.cls).before a' U = true) :
    vx_Back l R p e below s sargs y len W9 (PreOf R mc ms Pc) (PostOf Qc mc ms free) (vx_Post XC mc ms free) := by
  intro m meth c A g ig mk a X hg hsize hdg hW hn hp
  have h1 : (headSpec ws rm).pre.before a A.U = true := atoms_intro fun w hw => hws w hw _ _ X.warmed
  have h2 : (Cond.codeWith y bytes maxL ret hh).before a A.U = true := hws _ hcode _ _ X.warmed
  have h3 : (Cond.initialized y.cls).before a A.U = true := hinit _ _ X.warmed
  have h4 : A.cells + (headSpec ws rm).room.cells ≤ R.cells := by rw [show (headSpec ws rm).room.cells = mc from hrc]; exact hp.1
  have h5 : A.slots + (headSpec ws rm).room.slots ≤ R.slots := by rw [show (headSpec ws rm).room.slots = ms from hrs]; exact hp.2.1
  have hPc : Pc a (A.U.calling g mk a) := hblind _ _ _ _ hp.2.2
  obtain ⟨U, Ls, c0, s0⟩ := A
  dsimp only [Pt.U, Pt.locs, Pt.cells, Pt.slots] at h1 h2 h3 h4 h5 X hn hPc ⊢
  obtain ⟨m9, methY, cY, hn9, hmY, hcY, -, hlY, -⟩ := Cond.codeWith_spec h2
  cases Option.some.inj (hn9.symm.trans hn)
  obtain ⟨kY, hkY, -⟩ := className_of_methodNamed hn
  have hinitY : kY.init = .initialized := Cond.initialized_spec (findClass_of_methodNamed hn) hkY h3
  have h : At U g.method c below := by rw [hg]; exact X.here
  have hlocals9 : W9 + (maxL + 11) + (headSpec ws rm).room.locals ≤ R.locals := hlocals
  have happ : (headSpec ws rm).appliesLoose y e.platform (U.calling g mk a) = true :=
    Spec.appliesLoose_calling (g := g) h hdg hn hkY hinitY
      (X.room_calling (g := g) (R' := (headSpec ws rm).room) hsize hmY hcY hframes (by rw [hlY]; omega) h4 h5) h1
  obtain ⟨mid, hmid⟩ := h.above
  have hfr : (U.setTop g).frames = (.java g :: mid) ++ below := by rw [State.frames_setTop' g h.top, hmid]; rfl
  obtain ⟨o, s₂, hsteps, -, hend, hq⟩ := Steps.callFree hM p X.admits X.cas X.clock (acts := []) hfr happ hPc trivial
  have hq' : vx_Q Qc XC mc ms free a (U.calling g mk a) o s₂ := hq
  rw [State.frames_setTop' g h.top] at hend
  obtain ⟨g₀, hg0⟩ := Option.isSome_iff_exists.mp h.top
  obtain ⟨r, hr⟩ := State.topJava?_eq_some.mp hg0
  have hr' : (({ U with heap := s₂.heap, slotsUsed := s₂.slotsUsed } : State).setVm s₂.vm).frames = .java g₀ :: r := hr
  rcases hq' with ⟨hqc, L, hfe, hL⟩ | ⟨q, rfl, E, ce, L, hx, hce, hcv, hcl, hW₂, hsm, hL⟩
  · obtain ⟨⟨v, rfl⟩, hW₂, e2, q2, q3, q4, q5, q6⟩ := id hfe
    have e3 : s₂ = ({ (U.calling g mk a).setFrames s₂.frames with heap := s₂.heap, slotsUsed := s₂.slotsUsed } : State).setVm s₂.vm := by
      have : s₂ = ({ s₂ with vm := (U.calling g mk a).vm } : State).setVm s₂.vm := rfl
      rw [e2] at this
      exact this
    obtain ⟨c₂, i₂, len₂, hc₂, hd₂, hf₂⟩ := hend
    have hW' : U.WarmedH s₂.vm := hW₂
    have hcc : c₂ = c := by
      have h1 : s₂.code? g.method = U.code? g.method := by
        rw [State.code?_eq, State.code?_eq, hW'.alike.method?]
      exact Option.some.inj (hc₂.symm.trans (h1.trans h.code))
    subst hcc
    have hlen : len₂ = len := by rw [hdg] at hd₂; cases hd₂; rfl
    subst hlen
    have hs₂ : s₂ = (({ U with heap := s₂.heap, slotsUsed := s₂.slotsUsed } : State).setVm s₂.vm).setTop { g with pc := g.pc + len₂, stack := v.toList ++ g.stack } := by
      refine e3.trans ?_
      rw [hf₂, State.calling_eq h.top, State.setFrames_setFrames, State.setTop_of_frames _ hr', hr]
      rfl
    have hsame : U.sameButNew ({ U with heap := s₂.heap, slotsUsed := s₂.slotsUsed } : State) L mc ms := by
      refine ⟨?_, q2, q3, q4, q5, q6⟩
      obtain ⟨t, ht, -⟩ := State.frames_cons hr
      show ({ U with heap := s₂.heap, slotsUsed := s₂.slotsUsed } : State) = { U.setFrames U.frames with heap := s₂.heap, slotsUsed := s₂.slotsUsed }
      rw [State.setFrames_self ht]
    subst hg
    refine Or.inl ⟨v, ⟨(({ U with heap := s₂.heap, slotsUsed := s₂.slotsUsed } : State).setVm s₂.vm), Ls ++ L, c0 + mc, s0 + ms⟩,
      ⟨X.admits, X.cas, X.clock, X.frames, X.room, X.hears, X.method, X.code, (X.here.setHeapUsed s₂.heap s₂.slotsUsed).setVm hW'.alike, X.tail, State.WarmedH.trans X.warmed hW', X.limits, X.bytes, X.same.trans (hsame.setVm s.vm)⟩,
      ⟨g, mk, s₂, L, rfl, rfl, hqc, rfl, hL, rfl, rfl⟩, ?_⟩
    show Steps p.tables e below _ ((({ U with heap := s₂.heap, slotsUsed := s₂.slotsUsed } : State).setVm s₂.vm).setTop { g with pc := g.pc + len₂, stack := v.toList ++ g.stack })
    rw [← hs₂]
    exact hsteps
  · obtain ⟨e2, q2, q3, q4, q5, q6⟩ := id hsm
    have e3 : s₂ = ({ (U.calling g mk a).setFrames s₂.frames with heap := s₂.heap, slotsUsed := s₂.slotsUsed } : State).setVm s₂.vm := by
      have : s₂ = ({ s₂ with vm := (U.calling g mk a).vm } : State).setVm s₂.vm := rfl
      rw [e2] at this
      exact this
    have hf₂ : s₂.frames = .throwing q :: .java g :: U.frames.tail := hend
    have hW' : U.WarmedH s₂.vm := hW₂
    have hs₂ : s₂ = ((({ U with heap := s₂.heap, slotsUsed := s₂.slotsUsed } : State).setVm s₂.vm).setTop g).pushFrame (.throwing q) := by
      refine e3.trans ?_
      rw [hf₂, State.calling_eq h.top, State.setFrames_setFrames, State.pushFrame, State.frames_setTop _ hr', State.setTop_of_frames _ hr', State.setFrames_setFrames, hr]
      rfl
    have hsame : U.sameButNew ({ U with heap := s₂.heap, slotsUsed := s₂.slotsUsed } : State) L mc ms := by
      refine ⟨?_, q2, q3, q4, q5, q6⟩
      obtain ⟨t, ht, -⟩ := State.frames_cons hr
      show ({ U with heap := s₂.heap, slotsUsed := s₂.slotsUsed } : State) = { U.setFrames U.frames with heap := s₂.heap, slotsUsed := s₂.slotsUsed }
      rw [State.setFrames_self ht]
    subst hg
    refine Or.inr ⟨q, ⟨(({ U with heap := s₂.heap, slotsUsed := s₂.slotsUsed } : State).setVm s₂.vm), Ls ++ L, c0 + mc, s0 + ms⟩,
      ⟨X.admits, X.cas, X.clock, X.frames, X.room, X.hears, X.method, X.code, (X.here.setHeapUsed s₂.heap s₂.slotsUsed).setVm hW'.alike, X.tail, State.WarmedH.trans X.warmed hW', X.limits, X.bytes, X.same.trans (hsame.setVm s.vm)⟩,
      ⟨g, mk, s₂, L, E, ce, rfl, rfl, hx, hce, hcv, hcl, rfl, hL, rfl, rfl⟩, ?_⟩
    show Steps p.tables e below _ (((({ U with heap := s₂.heap, slotsUsed := s₂.slotsUsed } : State).setVm s₂.vm).setTop g).pushFrame (.throwing q))
    rw [← hs₂]
    exact hsteps
end
variable {p : Program} {l : Launch} {e : Env} {R : Room} {s : State} {m : MethodId} {args : Array Value} {below : List Frame} {meth : Method} {c : Code} {T : State} {H : Heap} {locs : List Loc} {cells slots : Nat}
theorem vx_callVX (X : Stand p l e R s m args below meth c T locs cells slots) (hexec : p.tables.exec = Jvm.exec) {own C : String} {index : Nat} {y : MethodName} {bytes : ByteArray} {maxL : Nat} {ret : Option FieldType} {hh : List (Nat × Nat × Nat × Nat)}
    (hown : s.vm.findClass own = some m.cls) (hlink : (Cond.methodLink own index y).before args s = true) (hinst : (Cond.instanceMethod y).before args s = true) (hsel : (Cond.selects C y y).before args s = true)
    (hcode : (Cond.codeWith y bytes maxL ret hh).before args s = true) (hy : y.cls ≠ "java/lang/invoke/MethodHandle" ∧ y.cls ≠ "java/lang/invoke/VarHandle")
    {W9 : Nat} {Pre : Pt → Array Value → Prop} {Post : Pt → Array Value → Option Value → Pt → Prop} {PostX : Pt → Array Value → Addr → Pt → Prop} (hK : vx_Back l R p e below s args y 3 W9 Pre Post PostX)
    {b : Addr} {cellB : Cell} (hcell : T.heap[b]? = some cellB) (hobj : cellB.vm.isStatics = false) (hcls : s.vm.findClass C = some cellB.cls)
    {g : JFrame} (hg : g.method = m) (hsize : g.locals.size = c.maxLocals) {argsL rest : List Value} (hlen : ∀ sig, parseMethodDescriptor y.desc = some sig → argsL.length = sig.parameters.length)
    (hstack : g.stack = argsL.reverse ++ .ref b :: rest) (hW : 2 * g.monitorRoom + (rest.map fun v => v.category).sum ≤ W9) (hdg : decode c.code g.pc = .ok (.invokevirtual index, 3))
    (hpre : ∀ vm₁, s.WarmedH vm₁ → Pre ⟨T.setVm vm₁, locs, cells, slots⟩ (Value.ref b :: argsL).toArray) :
    (∃ (v : Option Value) (vm₁ : Vm) (B : Pt), s.WarmedH vm₁ ∧ Stand p l e R s m args below meth c B.U B.locs B.cells B.slots ∧ Post ⟨T.setVm vm₁, locs, cells, slots⟩ (Value.ref b :: argsL).toArray v B ∧
      ∀ target, Steps p.tables e below (B.U.setTop { g with pc := g.pc + 3, stack := v.toList ++ rest }) target → Steps p.tables e below (T.setTop g) target) ∨
    (∃ (q : Addr) (vm₁ : Vm) (B : Pt), s.WarmedH vm₁ ∧ Stand p l e R s m args below meth c B.U B.locs B.cells B.slots ∧ PostX ⟨T.setVm vm₁, locs, cells, slots⟩ (Value.ref b :: argsL).toArray q B ∧
      Steps p.tables e below (T.setTop g) ((B.U.setTop { g with stack := rest }).pushFrame (.throwing q))) := by
  obtain ⟨mk, methM, hnamed, hmethM, hstM, habM⟩ := Cond.instanceMethod_spec hinst
  obtain ⟨m8, methM', cM, hn8, hmethM', -, -, -, -, -, -, hsigM⟩ := Cond.codeWith_spec hcode
  cases Option.some.inj (hn8.symm.trans hnamed)
  cases hmethM.symm.trans hmethM'
  obtain ⟨c2, r2, m2, q1, q2, q3, q4, kP, hkP, hkPi⟩ := Cond.selects_spec hsel
  cases hcls.symm.trans q1
  cases (State.methodFound?_of_named hnamed hy).symm.trans q2
  cases hnamed.symm.trans q3
  have hselP : selectMethod e.platform s.vm cellB.cls mk = .method mk := by rw [Launch.admits_selectMethod X.admits]; exact q4
  obtain ⟨vm₁, X₁, hstep₁⟩ := X.invokevirtual hexec hown hlink hnamed hmethM hstM hkP hkPi hy (a := b) (cell := cellB) hcell
    (fun z h => by rw [h] at hobj; cases hobj) hselP hmethM habM hkP hkPi (g := g) hg (argsL := argsL) (rest := rest) (hlen _ hsigM) hstack hdg
  rcases hK m meth c ⟨T.setVm vm₁, locs, cells, slots⟩ { g with stack := rest } (.invokevirtual index) mk (Value.ref b :: argsL).toArray X₁ hg hsize hdg hW (X₁.named hnamed) (hpre vm₁ X₁.warmed) with ⟨v, B, X', hpost, hsteps⟩ | ⟨q, B, X', hpost, hsteps⟩
  · exact Or.inl ⟨v, vm₁, B, X₁.warmed, X', hpost, fun target h => hstep₁ _ fun acts => by rw [doInvoke_state]; exact hsteps.trans h⟩
  · exact Or.inr ⟨q, vm₁, B, X₁.warmed, X', hpost, hstep₁ _ fun acts => by rw [doInvoke_state]; exact hsteps⟩
theorem vx_callSX (X : Stand p l e R s m args below meth c T locs cells slots) (hexec : p.tables.exec = Jvm.exec) {own : String} {index : Nat} {y : MethodName} {bytes : ByteArray} {maxL : Nat} {ret : Option FieldType} {hh : List (Nat × Nat × Nat × Nat)}
    (hown : s.vm.findClass own = some m.cls) (hlink : (Cond.methodLink own index y).before args s = true) (hstat : (Cond.static y).before args s = true) (hinit : (Cond.initialized y.cls).before args s = true)
    (hcode : (Cond.codeWith y bytes maxL ret hh).before args s = true) (hy : y.cls ≠ "java/lang/invoke/MethodHandle" ∧ y.cls ≠ "java/lang/invoke/VarHandle")
    {W9 : Nat} {Pre : Pt → Array Value → Prop} {Post : Pt → Array Value → Option Value → Pt → Prop} {PostX : Pt → Array Value → Addr → Pt → Prop} (hK : vx_Back l R p e below s args y 3 W9 Pre Post PostX)
    {g : JFrame} (hg : g.method = m) (hsize : g.locals.size = c.maxLocals) {argsL rest : List Value} (hlen : ∀ sig, parseMethodDescriptor y.desc = some sig → argsL.length = sig.parameters.length)
    (hstack : g.stack = argsL.reverse ++ rest) (hW : 2 * g.monitorRoom + (rest.map fun v => v.category).sum ≤ W9) (hdg : decode c.code g.pc = .ok (.invokestatic index, 3))
    (hpre : ∀ vm₁, s.WarmedH vm₁ → Pre ⟨T.setVm vm₁, locs, cells, slots⟩ argsL.toArray) :
    (∃ (v : Option Value) (vm₁ : Vm) (B : Pt), s.WarmedH vm₁ ∧ Stand p l e R s m args below meth c B.U B.locs B.cells B.slots ∧ Post ⟨T.setVm vm₁, locs, cells, slots⟩ argsL.toArray v B ∧
      ∀ target, Steps p.tables e below (B.U.setTop { g with pc := g.pc + 3, stack := v.toList ++ rest }) target → Steps p.tables e below (T.setTop g) target) ∨
    (∃ (q : Addr) (vm₁ : Vm) (B : Pt), s.WarmedH vm₁ ∧ Stand p l e R s m args below meth c B.U B.locs B.cells B.slots ∧ PostX ⟨T.setVm vm₁, locs, cells, slots⟩ argsL.toArray q B ∧
      Steps p.tables e below (T.setTop g) ((B.U.setTop { g with stack := rest }).pushFrame (.throwing q))) := by
  obtain ⟨mk, methM, cM, hnamed, hmethM, -, -, -, -, -, -, hsigM⟩ := Cond.codeWith_spec hcode
  have hstatic : methM.isStatic = true := Cond.static_spec hnamed hmethM hstat
  obtain ⟨kP, hkP, -⟩ := className_of_methodNamed hnamed
  have hinitP : kP.init = .initialized := Cond.initialized_spec (findClass_of_methodNamed hnamed) hkP hinit
  obtain ⟨vm₁, X₁, hstep₁⟩ := X.invokestatic hexec hown hlink hnamed hmethM hstatic hkP hinitP hy (g := g) hg (argsL := argsL) (rest := rest) (hlen _ hsigM) hstack hdg
  rcases hK m meth c ⟨T.setVm vm₁, locs, cells, slots⟩ { g with stack := rest } (.invokestatic index) mk argsL.toArray X₁ hg hsize hdg hW (X₁.named hnamed) (hpre vm₁ X₁.warmed) with ⟨v, B, X', hpost, hsteps⟩ | ⟨q, B, X', hpost, hsteps⟩
  · exact Or.inl ⟨v, vm₁, B, X₁.warmed, X', hpost, fun target h => hstep₁ _ fun acts => by rw [doInvoke_state]; exact hsteps.trans h⟩
  · exact Or.inr ⟨q, vm₁, B, X₁.warmed, X', hpost, hstep₁ _ fun acts => by rw [doInvoke_state]; exact hsteps⟩
theorem vx_callVW (X : Stand p l e R s m args below meth c T locs cells slots) (hexec : p.tables.exec = Jvm.exec) {own C : String} {index : Nat} {y : MethodName} {bytes : ByteArray} {maxL : Nat} {ret : Option FieldType} {hh : List (Nat × Nat × Nat × Nat)}
    (hown : s.vm.findClass own = some m.cls) (hlink : (Cond.methodLink own index y).before args s = true) (hinst : (Cond.instanceMethod y).before args s = true) (hsel : (Cond.selects C y y).before args s = true)
    (hcode : (Cond.codeWith y bytes maxL ret hh).before args s = true) (hy : y.cls ≠ "java/lang/invoke/MethodHandle" ∧ y.cls ≠ "java/lang/invoke/VarHandle")
    {W9 : Nat} {Pre : Pt → Array Value → Prop} {Post : Pt → Array Value → Option Value → Pt → Prop} (hK : Back l R p e below s args y 3 W9 Pre Post)
    {b : Addr} {cellB : Cell} (hcell : T.heap[b]? = some cellB) (hobj : cellB.vm.isStatics = false) (hcls : s.vm.findClass C = some cellB.cls)
    {g : JFrame} (hg : g.method = m) (hsize : g.locals.size = c.maxLocals) {argsL rest : List Value} (hlen : ∀ sig, parseMethodDescriptor y.desc = some sig → argsL.length = sig.parameters.length)
    (hstack : g.stack = argsL.reverse ++ .ref b :: rest) (hW : 2 * g.monitorRoom + (rest.map fun v => v.category).sum ≤ W9) (hdg : decode c.code g.pc = .ok (.invokevirtual index, 3))
    (hpre : ∀ vm₁, s.WarmedH vm₁ → Pre ⟨T.setVm vm₁, locs, cells, slots⟩ (Value.ref b :: argsL).toArray) :
    ∃ (v : Option Value) (vm₁ : Vm) (B : Pt), s.WarmedH vm₁ ∧ Stand p l e R s m args below meth c B.U B.locs B.cells B.slots ∧ Post ⟨T.setVm vm₁, locs, cells, slots⟩ (Value.ref b :: argsL).toArray v B ∧
      ∀ target, Steps p.tables e below (B.U.setTop { g with pc := g.pc + 3, stack := v.toList ++ rest }) target → Steps p.tables e below (T.setTop g) target := by
  obtain ⟨mk, methM, hnamed, hmethM, hstM, habM⟩ := Cond.instanceMethod_spec hinst
  obtain ⟨m8, methM', cM, hn8, hmethM', -, -, -, -, -, -, hsigM⟩ := Cond.codeWith_spec hcode
  cases Option.some.inj (hn8.symm.trans hnamed)
  cases hmethM.symm.trans hmethM'
  obtain ⟨c2, r2, m2, q1, q2, q3, q4, kP, hkP, hkPi⟩ := Cond.selects_spec hsel
  cases hcls.symm.trans q1
  cases (State.methodFound?_of_named hnamed hy).symm.trans q2
  cases hnamed.symm.trans q3
  have hselP : selectMethod e.platform s.vm cellB.cls mk = .method mk := by rw [Launch.admits_selectMethod X.admits]; exact q4
  obtain ⟨vm₁, X₁, hstep₁⟩ := X.invokevirtual hexec hown hlink hnamed hmethM hstM hkP hkPi hy (a := b) (cell := cellB) hcell
    (fun z h => by rw [h] at hobj; cases hobj) hselP hmethM habM hkP hkPi (g := g) hg (argsL := argsL) (rest := rest) (hlen _ hsigM) hstack hdg
  obtain ⟨v, B, X', hpost, hsteps⟩ := hK m meth c ⟨T.setVm vm₁, locs, cells, slots⟩ { g with stack := rest } (.invokevirtual index) mk (Value.ref b :: argsL).toArray X₁ hg hsize hdg hW (X₁.named hnamed) (hpre vm₁ X₁.warmed)
  exact ⟨v, vm₁, B, X₁.warmed, X', hpost, fun target h => hstep₁ _ fun acts => by rw [doInvoke_state]; exact hsteps.trans h⟩
abbrev vx_CVW (R : Room) (s : State) (args : Array Value) (own C : String) (index : Nat) (y : MethodName) (bytes : ByteArray) (maxL : Nat) (ret : Option FieldType) (hh : List (Nat × Nat × Nat × Nat)) (ws : List Cond) (rm : Room) (mc ms n : Nat) : Prop :=
  (rm.cells = mc ∧ rm.slots = ms ∧ rm.frames + 1 ≤ R.frames ∧ 8 + (maxL + 11) + rm.locals ≤ R.locals ∧ (∀ w ∈ ws, ∀ (a' : Array Value) (U : State), s.WarmedH U.vm → w.before a' U = true) ∧ Cond.codeWith y bytes maxL ret hh ∈ ws) ∧
  (Cond.codeWith y bytes maxL ret hh).before args s = true ∧ (Cond.initialized y.cls).before args s = true ∧ (y.cls ≠ "java/lang/invoke/MethodHandle" ∧ y.cls ≠ "java/lang/invoke/VarHandle") ∧
  (∀ sig, parseMethodDescriptor y.desc = some sig → n = sig.parameters.length) ∧ (Cond.methodLink own index y).before args s = true ∧ (Cond.instanceMethod y).before args s = true ∧ (Cond.selects C y y).before args s = true
theorem vx_cwVW {own C : String} {index maxL mc ms : Nat} {y : MethodName} {bytes : ByteArray} {ret : Option FieldType} {hh : List (Nat × Nat × Nat × Nat)} {Ts ws ws' : List Cond} {rm : Room} (n : Nat) (ht : ∀ w ∈ Ts, w.before args s = true) (hT : GoodIn Ts (wsV own index C y ws)) (hw : ws = Cond.codeWith y bytes maxL ret hh :: ws') (hrc : rm.cells = mc) (hrs : rm.slots = ms)
    (hd : y.cls = C ∧ y.cls ≠ "java/lang/invoke/MethodHandle" ∧ y.cls ≠ "java/lang/invoke/VarHandle" ∧ (parseMethodDescriptor y.desc).map (fun d => d.parameters.length) = some n) (hR : rm.frames + 1 ≤ R.frames ∧ 8 + (maxL + 11) + rm.locals ≤ R.locals) :
    vx_CVW R s args own C index y bytes maxL ret hh ws rm mc ms n := by
  obtain ⟨hC, hd⟩ := hd
  subst hC
  have ok : ∀ w ∈ wsV own index y.cls y ws, w.before args s = true := fun w h => ht w (hT w h).1
  have hG : GoodIn Ts ws := fun w h => hT w (by unfold wsV; exact List.mem_append_right _ h)
  have hc : Cond.codeWith y bytes maxL ret hh ∈ ws := by rw [hw]; exact List.mem_cons_self
  refine ⟨⟨hrc, hrs, hR.1, hR.2, pay_in ht hG, hc⟩, ht _ (hG _ hc).1, ok _ (by simp [wsV]), ⟨hd.1, hd.2.1⟩, fun sig h => ?_, ok _ (by simp [wsV]), ok _ (by simp [wsV]), ok _ (by simp [wsV])⟩
  have h2 := hd.2.2
  rw [h] at h2
  exact (Option.some.inj h2).symm
theorem vx_runVW {y : MethodName} {bytes cc : ByteArray} {maxL nL mc ms n index : Nat} {ret : Option FieldType} {hh : List (Nat × Nat × Nat × Nat)} {ws : List Cond} {rm : Room} {Pc : Array Value → State → Prop} {Qc : Array Value → State → Outcome → State → Prop} {free : Addr → Prop} {Ts : List Cond} {own C : String} {b : Addr} {As rest : List Value} {g : JFrame}
    (S : CallFix p m c cc nL s args Ts own) (hM : Met l y ws rm Pc Qc mc ms free) (cw : vx_CVW R s args own C index y bytes maxL ret hh ws rm mc ms n) (hp : PreV s H C b Pc As)
    (hg : g.method = m) (hn : As.length = n) (hsize : g.locals.size = nL) (hstack : g.stack = As.reverse ++ .ref b :: rest) (hW : 2 * g.monitorRoom + (rest.map fun v => v.category).sum ≤ 8) (hdg : decode cc g.pc = .ok (.invokevirtual index, 3)) (hf : cells + mc ≤ R.cells ∧ slots + ms ≤ R.slots) :
    va_Run p l e R s m args below meth c H locs cells slots mc ms g rest (Qc (Value.ref b :: As).toArray) free := by
  obtain ⟨⟨hrc, hrs, hfr, hlo, hws, hcw⟩, hcode, hini, hy, hlen, hl, hin, hse⟩ := cw
  have hK : Back l R p e below s args y 3 8 (PreOf R mc ms Pc) (PostOf Qc mc ms free) := va_backW (hh := hh) (bytes := bytes) (maxL := maxL) (ret := ret) hM hp.1 hrc hrs hfr hlo hws hcw (fun a' U hW => word_at hW (Or.inl (by first | rfl | simp [Cond.onTables, Cond.keeps, Cond.steady])) hini)
  obtain ⟨hx, hb, hml, ho, -⟩ := S
  obtain ⟨-, ⟨cellB, hcB, hoB, hclB⟩, hPc⟩ := hp
  intro T hT X
  obtain ⟨v, vm₁, ⟨U', l2, c2, s2⟩, hW₁, X', ⟨g', mk, t, L, e1, e2, hq, h1, hL, h2, h3⟩, st⟩ := vx_callVW X hx (C := C) (hh := hh) (bytes := bytes) (maxL := maxL) (ret := ret) ho hl hin hse hcode hy hK (by rw [hT]; exact hcB) hoB hclB hg (hsize.trans hml.symm) (argsL := As) (rest := rest) (fun sig h => hn.trans (hlen sig h)) hstack hW (by rw [hb]; exact hdg)
    (fun vm₁ hW₁ => ⟨hf.1, hf.2, hPc (T.setVm vm₁) hT hW₁⟩)
  dsimp only [Pt.U, Pt.locs, Pt.cells, Pt.slots] at X' e1 e2 h1 h2 h3 st
  subst h1; subst h2; subst h3
  exact ⟨v, (T.setVm vm₁).calling g' mk (Value.ref b :: As).toArray, t, U', L, hT, X', hL, e1, e2, hq, st⟩
section
variable {y : MethodName} {bytes cc : ByteArray} {maxL nL mc ms n index : Nat} {ret : Option FieldType} {ws : List Cond} {rm : Room} {Pc : Array Value → State → Prop} {Qc : Array Value → State → Outcome → State → Prop} {XC : String → State → State → Prop} {free : Addr → Prop} {Ts : List Cond} {own C : String} {b : Addr} {As rest : List Value} {g : JFrame}
theorem vx_runVX {hh : List (Nat × Nat × Nat × Nat)} (S : CallFix p m c cc nL s args Ts own) (hM : vx_Met l y ws rm Pc Qc XC mc ms free) (cw : vx_CVW R s args own C index y bytes maxL ret hh ws rm mc ms n) (hp : PreV s H C b Pc As)
    (hg : g.method = m) (hn : As.length = n) (hsize : g.locals.size = nL) (hstack : g.stack = As.reverse ++ .ref b :: rest) (hW : 2 * g.monitorRoom + (rest.map fun v => v.category).sum ≤ 8) (hdg : decode cc g.pc = .ok (.invokevirtual index, 3)) (hf : cells + mc ≤ R.cells ∧ slots + ms ≤ R.slots) :
    vx_Run p l e R s m args below meth c H locs cells slots mc ms g rest (Qc (Value.ref b :: As).toArray) XC free := by
  obtain ⟨⟨hrc, hrs, hfr, hlo, hws, hcw⟩, hcode, hini, hy, hlen, hl, hin, hse⟩ := cw
  have hK : vx_Back l R p e below s args y 3 8 (PreOf R mc ms Pc) (PostOf Qc mc ms free) (vx_Post XC mc ms free) := vx_backW (hh := hh) (bytes := bytes) (maxL := maxL) (ret := ret) hM hp.1 hrc hrs hfr hlo hws hcw (fun a' U hW => word_at hW (Or.inl (by first | rfl | simp [Cond.onTables, Cond.keeps, Cond.steady])) hini)
  obtain ⟨hx, hb, hml, ho, -⟩ := S
  obtain ⟨-, ⟨cellB, hcB, hoB, hclB⟩, hPc⟩ := hp
  intro T hT X
  rcases vx_callVX X hx (C := C) (hh := hh) (bytes := bytes) (maxL := maxL) (ret := ret) ho hl hin hse hcode hy hK (by rw [hT]; exact hcB) hoB hclB hg (hsize.trans hml.symm) (argsL := As) (rest := rest) (fun sig h => hn.trans (hlen sig h)) hstack hW (by rw [hb]; exact hdg)
    (fun vm₁ hW₁ => ⟨hf.1, hf.2, hPc (T.setVm vm₁) hT hW₁⟩) with ⟨v, vm₁, ⟨U', l2, c2, s2⟩, hW₁, X', ⟨g', mk, t, L, e1, e2, hq, h1, hL, h2, h3⟩, st⟩ | ⟨q, vm₁, ⟨U', l2, c2, s2⟩, hW₁, X', ⟨g', mk, t, L, E, ce, e1, e2, hq, hce, hcv, hcl, h1, hL, h2, h3⟩, st⟩
  · dsimp only [Pt.U, Pt.locs, Pt.cells, Pt.slots] at X' e1 e2 h1 h2 h3 st
    subst h1; subst h2; subst h3
    exact Or.inl ⟨v, (T.setVm vm₁).calling g' mk (Value.ref b :: As).toArray, t, U', L, hT, X', hL, e1, e2, hq, st⟩
  · dsimp only [Pt.U, Pt.locs, Pt.cells, Pt.slots] at X' e1 e2 h1 h2 h3 st hcl
    subst h1; subst h2; subst h3
    exact Or.inr ⟨q, (T.setVm vm₁).calling g' mk (Value.ref b :: As).toArray, t, U', L, E, ce, hT, X', hL, e1, e2, hq, hce, hcv, vx_cls hW₁ hcl, st⟩
theorem vx_runSX {hh : List (Nat × Nat × Nat × Nat)} (S : CallFix p m c cc nL s args Ts own) (hM : vx_Met l y ws rm Pc Qc XC mc ms free) (cw : vx_CSW R s args own index y bytes maxL ret hh ws rm mc ms n) (hp : PreS s H Pc As)
    (hg : g.method = m) (hn : As.length = n) (hsize : g.locals.size = nL) (hstack : g.stack = As.reverse ++ rest) (hW : 2 * g.monitorRoom + (rest.map fun v => v.category).sum ≤ 8) (hdg : decode cc g.pc = .ok (.invokestatic index, 3)) (hf : cells + mc ≤ R.cells ∧ slots + ms ≤ R.slots) :
    vx_Run p l e R s m args below meth c H locs cells slots mc ms g rest (Qc As.toArray) XC free := by
  obtain ⟨⟨hrc, hrs, hfr, hlo, hws, hcw⟩, hcode, hini, hy, hlen, hl, hstt⟩ := cw
  have hK : vx_Back l R p e below s args y 3 8 (PreOf R mc ms Pc) (PostOf Qc mc ms free) (vx_Post XC mc ms free) := vx_backW (hh := hh) (bytes := bytes) (maxL := maxL) (ret := ret) hM hp.1 hrc hrs hfr hlo hws hcw (fun a' U hW => word_at hW (Or.inl (by first | rfl | simp [Cond.onTables, Cond.keeps, Cond.steady])) hini)
  obtain ⟨hx, hb, hml, ho, -⟩ := S
  intro T hT X
  rcases vx_callSX X hx (hh := hh) (bytes := bytes) (maxL := maxL) (ret := ret) ho hl hstt hini hcode hy hK hg (hsize.trans hml.symm) (argsL := As) (rest := rest) (fun sig h => hn.trans (hlen sig h)) hstack hW (by rw [hb]; exact hdg)
    (fun vm₁ hW₁ => ⟨hf.1, hf.2, hp.2 (T.setVm vm₁) hT hW₁⟩) with ⟨v, vm₁, ⟨U', l2, c2, s2⟩, hW₁, X', ⟨g', mk, t, L, e1, e2, hq, h1, hL, h2, h3⟩, st⟩ | ⟨q, vm₁, ⟨U', l2, c2, s2⟩, hW₁, X', ⟨g', mk, t, L, E, ce, e1, e2, hq, hce, hcv, hcl, h1, hL, h2, h3⟩, st⟩
  · dsimp only [Pt.U, Pt.locs, Pt.cells, Pt.slots] at X' e1 e2 h1 h2 h3 st
    subst h1; subst h2; subst h3
    exact Or.inl ⟨v, (T.setVm vm₁).calling g' mk As.toArray, t, U', L, hT, X', hL, e1, e2, hq, st⟩
  · dsimp only [Pt.U, Pt.locs, Pt.cells, Pt.slots] at X' e1 e2 h1 h2 h3 st hcl
    subst h1; subst h2; subst h3
    exact Or.inr ⟨q, (T.setVm vm₁).calling g' mk As.toArray, t, U', L, E, ce, hT, X', hL, e1, e2, hq, hce, hcv, vx_cls hW₁ hcl, st⟩
end
end VXH
theorem vx_ofWH {l : Launch} {y : MethodName} {ws ws' : List Cond} {rm : Room} {Pc : Array Value → State → Prop} {Qc : Array Value → State → Outcome → State → Prop} {XC : String → State → State → Prop} {mc ms : Nat} {free : Addr → Prop} {cc : ByteArray} {maxL : Nat} {ret : Option FieldType} {hh : List (Nat × Nat × Nat × Nat)}
    (hy : plainName y.cls = true) (hw : ws = Cond.codeWith y cc maxL ret hh :: ws')
    (body : ∀ p e s m args below meth c s₁, BodyLoose p l y (headSpec ws rm) cc maxL ret e s m args below meth c s₁ → c.maxLocals = maxL → Pc args s →
      W p l e (headSpec ws rm).room s m args below meth c s.heap [] 0 0 (vx_MQ below Qc XC args s mc ms free) (entryFrame m args maxL)) : vx_Met l y ws rm Pc Qc XC mc ms free := by
  refine MetFree.of_bodyS (code := cc) (maxLocals := maxL) (ret := ret) hy ?_ ?_
  · intro args s m h hn
    obtain ⟨m9, meth, c, hn9, h1, h2, h3, h4, -, h5, h6, -⟩ := Cond.codeWith_spec (atoms_spec (ws := ws) h _ (by rw [hw]; exact List.mem_cons_self))
    cases hn.symm.trans hn9
    exact ⟨meth, c, h1, h2, h3, h4, h5, h6⟩
  · intro p e s m args below meth c s₁ B hml hP _
    have hh0 : s₁.heap = s.heap := by rw [B.state]; rfl
    obtain ⟨t, a1, o, b1, b2, b3⟩ := body p e s m args below meth c s₁ B hml hP s₁ hh0 (Stand.of_body B)
    exact ⟨t, o, a1, b1, b2, b3⟩
/-! ===== END ===== -/
end
section
/-! ===== BEGIN printed: names, fields, word lists, decode rows ===== -/
def RX0 : String := "MonotonePostings$Cache"
def TX0 : u_T := fun k => match k with
  | 0 => ("MonotonePostings$Cache", "keys", "[I", true)
  | 1 => ("MonotonePostings$Cache", "count", "I", false)
  | _ => ("MonotonePostings$Cache", "capacity", "I", false)
def tyX0 : Nat → FieldType := fun k => match k with
  | 0 => .array .int
  | 1 => .int
  | _ => .int
abbrev wsX00 : List Cond := u_ws RX0 TX0 3
theorem nmX0 : ∀ a, a < 3 → ∀ b, b < 3 → a ≠ b → (TX0 a).2.1 ≠ (TX0 b).2.1 := by decide +kernel
theorem tyX0_ok : ∀ k, k < 3 → parseFieldDescriptor (TX0 k).2.2.1 = some (tyX0 k) := by decide +kernel
abbrev cX0_init : ByteArray := prog_2_method_1_code
def yX0_init : MethodName := ⟨RX0, "<init>", "()V"⟩
abbrev cX0_copyFrom : ByteArray := prog_2_method_2_code
def yX0_copyFrom : MethodName := ⟨RX0, "copyFrom", "(LMonotonePostings$Cache;)V"⟩
abbrev cX0_use : ByteArray := prog_2_method_3_code
def yX0_use : MethodName := ⟨RX0, "use", "(I)Z"⟩
abbrev cX0_dropList : ByteArray := prog_2_method_4_code
def yX0_dropList : MethodName := ⟨RX0, "dropList", "(I)V"⟩
abbrev cX0_resize : ByteArray := prog_2_method_5_code
def yX0_resize : MethodName := ⟨RX0, "resize", "(I)V"⟩
abbrev cX0_dropBetween : ByteArray := prog_2_method_6_code
def yX0_dropBetween : MethodName := ⟨RX0, "dropBetween", "(II)I"⟩
abbrev cX0_shrinkTo : ByteArray := prog_2_method_7_code
def yX0_shrinkTo : MethodName := ⟨RX0, "shrinkTo", "(I)V"⟩
def RX1 : String := "MonotonePostings$CodeRow"
def TX1 : u_T := fun k => match k with
  | 0 => ("MonotonePostings$CodeRow", "bits", "[I", true)
  | _ => ("MonotonePostings$CodeRow", "length", "I", false)
def tyX1 : Nat → FieldType := fun k => match k with
  | 0 => .array .int
  | _ => .int
abbrev wsX10 : List Cond := u_ws RX1 TX1 2
theorem nmX1 : ∀ a, a < 2 → ∀ b, b < 2 → a ≠ b → (TX1 a).2.1 ≠ (TX1 b).2.1 := by decide +kernel
theorem tyX1_ok : ∀ k, k < 2 → parseFieldDescriptor (TX1 k).2.2.1 = some (tyX1 k) := by decide +kernel
abbrev cX1_init : ByteArray := prog_3_method_1_code
def yX1_init : MethodName := ⟨RX1, "<init>", "()V"⟩
abbrev cX1_bitAt : ByteArray := prog_3_method_2_code
def yX1_bitAt : MethodName := ⟨RX1, "bitAt", "(I)I"⟩
abbrev cX1_write : ByteArray := prog_3_method_3_code
def yX1_write : MethodName := ⟨RX1, "write", "(LMonotonePostings$Postings;)V"⟩
abbrev cX1_put : ByteArray := prog_3_method_4_code
def yX1_put : MethodName := ⟨RX1, "put", "(II)V"⟩
abbrev cX1_setBit : ByteArray := prog_3_method_5_code
def yX1_setBit : MethodName := ⟨RX1, "setBit", "(I)V"⟩
abbrev cX1_putHeader : ByteArray := prog_3_method_6_code
def yX1_putHeader : MethodName := ⟨RX1, "putHeader", "(LMonotonePostings$Postings;I)V"⟩
abbrev cX1_putBitmap : ByteArray := prog_3_method_7_code
def yX1_putBitmap : MethodName := ⟨RX1, "putBitmap", "(LMonotonePostings$Postings;II)V"⟩
abbrev cX1_putHighParts : ByteArray := prog_3_method_8_code
def yX1_putHighParts : MethodName := ⟨RX1, "putHighParts", "(LMonotonePostings$Postings;II)V"⟩
abbrev cX1_putLowParts : ByteArray := prog_3_method_9_code
def yX1_putLowParts : MethodName := ⟨RX1, "putLowParts", "(LMonotonePostings$Postings;II)V"⟩
def RX2 : String := "MonotonePostings$History"
def TX2 : u_T := fun k => match k with
  | 0 => ("MonotonePostings$History", "states", "[LMonotonePostings$State;", true)
  | 1 => ("MonotonePostings$History", "next", "I", false)
  | _ => ("MonotonePostings$History", "count", "I", false)
def tyX2 : Nat → FieldType := fun k => match k with
  | 0 => .array (.object "MonotonePostings$State")
  | 1 => .int
  | _ => .int
abbrev wsX20 : List Cond := u_ws RX2 TX2 3
theorem nmX2 : ∀ a, a < 3 → ∀ b, b < 3 → a ≠ b → (TX2 a).2.1 ≠ (TX2 b).2.1 := by decide +kernel
theorem tyX2_ok : ∀ k, k < 3 → parseFieldDescriptor (TX2 k).2.2.1 = some (tyX2 k) := by decide +kernel
abbrev cX2_init : ByteArray := prog_4_method_1_code
def yX2_init : MethodName := ⟨RX2, "<init>", "()V"⟩
abbrev cX2_save : ByteArray := prog_4_method_2_code
def yX2_save : MethodName := ⟨RX2, "save", "(LMonotonePostings$State;)V"⟩
abbrev cX2_restore : ByteArray := prog_4_method_3_code
def yX2_restore : MethodName := ⟨RX2, "restore", "(LMonotonePostings$State;)V"⟩
def RX3 : String := "MonotonePostings$Partitioner"
def TX3 : u_T := fun k => match k with
  | 0 => ("MonotonePostings$Partitioner", "weights", "[I", true)
  | _ => ("MonotonePostings$Partitioner", "ends", "[I", true)
def tyX3 : Nat → FieldType := fun k => match k with
  | 0 => .array .int
  | _ => .array .int
abbrev wsX30 : List Cond := u_ws RX3 TX3 2
theorem nmX3 : ∀ a, a < 2 → ∀ b, b < 2 → a ≠ b → (TX3 a).2.1 ≠ (TX3 b).2.1 := by decide +kernel
theorem tyX3_ok : ∀ k, k < 2 → parseFieldDescriptor (TX3 k).2.2.1 = some (tyX3 k) := by decide +kernel
abbrev cX3_init : ByteArray := prog_5_method_1_code
def yX3_init : MethodName := ⟨RX3, "<init>", "()V"⟩
abbrev cX3_divide : ByteArray := prog_5_method_2_code
def yX3_divide : MethodName := ⟨RX3, "divide", "(LMonotonePostings$Postings;)V"⟩
abbrev cX3_chooseEnd : ByteArray := prog_5_method_3_code
def yX3_chooseEnd : MethodName := ⟨RX3, "chooseEnd", "(LMonotonePostings$Postings;I)V"⟩
def RX4 : String := "MonotonePostings$Postings"
def TX4 : u_T := fun k => match k with
  | 0 => ("MonotonePostings$Postings", "documents", "[I", true)
  | 1 => ("MonotonePostings$Postings", "count", "I", false)
  | 2 => ("MonotonePostings$Postings", "facts", "[I", true)
  | _ => ("MonotonePostings$Postings", "parts", "I", false)
def tyX4 : Nat → FieldType := fun k => match k with
  | 0 => .array .int
  | 1 => .int
  | 2 => .array .int
  | _ => .int
abbrev wsX40 : List Cond := u_ws RX4 TX4 4
theorem nmX4 : ∀ a, a < 4 → ∀ b, b < 4 → a ≠ b → (TX4 a).2.1 ≠ (TX4 b).2.1 := by decide +kernel
theorem tyX4_ok : ∀ k, k < 4 → parseFieldDescriptor (TX4 k).2.2.1 = some (tyX4 k) := by decide +kernel
abbrev cX4_init : ByteArray := prog_6_method_1_code
def yX4_init : MethodName := ⟨RX4, "<init>", "()V"⟩
abbrev cX4_copyFrom : ByteArray := prog_6_method_2_code
def yX4_copyFrom : MethodName := ⟨RX4, "copyFrom", "(LMonotonePostings$Postings;)V"⟩
abbrev cX4_replace : ByteArray := prog_6_method_3_code
def yX4_replace : MethodName := ⟨RX4, "replace", "([II)V"⟩
abbrev cX4_push : ByteArray := prog_6_method_4_code
def yX4_push : MethodName := ⟨RX4, "push", "(I)V"⟩
abbrev cX4_documentAt : ByteArray := prog_6_method_5_code
def yX4_documentAt : MethodName := ⟨RX4, "documentAt", "(I)I"⟩
abbrev cX4_lastDocument : ByteArray := prog_6_method_6_code
def yX4_lastDocument : MethodName := ⟨RX4, "lastDocument", "()I"⟩
abbrev cX4_countBelow : ByteArray := prog_6_method_7_code
def yX4_countBelow : MethodName := ⟨RX4, "countBelow", "(I)I"⟩
abbrev cX4_widthBetween : ByteArray := prog_6_method_8_code
def yX4_widthBetween : MethodName := ⟨RX4, "widthBetween", "(II)I"⟩
abbrev cX4_sizeInParts : ByteArray := prog_6_method_9_code
def yX4_sizeInParts : MethodName := ⟨RX4, "sizeInParts", "(I)I"⟩
abbrev cX4_codeSize : ByteArray := prog_6_method_10_code
def yX4_codeSize : MethodName := ⟨RX4, "codeSize", "()I"⟩
abbrev cX4_factOf : ByteArray := prog_6_method_11_code
def yX4_factOf : MethodName := ⟨RX4, "factOf", "(II)I"⟩
abbrev cX4_widthOf : ByteArray := prog_6_method_12_code
def yX4_widthOf : MethodName := ⟨RX4, "widthOf", "(I)I"⟩
abbrev cX4_addPart : ByteArray := prog_6_method_13_code
def yX4_addPart : MethodName := ⟨RX4, "addPart", "(II)V"⟩
abbrev cX4_readsInside : ByteArray := prog_6_method_14_code
def yX4_readsInside : MethodName := ⟨RX4, "readsInside", "(III)I"⟩
def RX5 : String := "MonotonePostings$Shape"
def TX5 : u_T := fun k => match k with
  | _ => ("", "", "", false)
def tyX5 : Nat → FieldType := fun k => match k with
  | _ => .int
abbrev wsX50 : List Cond := u_ws RX5 TX5 0
theorem nmX5 : ∀ a, a < 0 → ∀ b, b < 0 → a ≠ b → (TX5 a).2.1 ≠ (TX5 b).2.1 := by decide +kernel
theorem tyX5_ok : ∀ k, k < 0 → parseFieldDescriptor (TX5 k).2.2.1 = some (tyX5 k) := by decide +kernel
abbrev cX5_lowBits : ByteArray := prog_7_method_2_code
def yX5_lowBits : MethodName := ⟨RX5, "lowBits", "(II)I"⟩
abbrev cX5_highLength : ByteArray := prog_7_method_3_code
def yX5_highLength : MethodName := ⟨RX5, "highLength", "(III)I"⟩
abbrev cX5_bestSize : ByteArray := prog_7_method_4_code
def yX5_bestSize : MethodName := ⟨RX5, "bestSize", "(II)I"⟩
abbrev cX5_bestKind : ByteArray := prog_7_method_5_code
def yX5_bestKind : MethodName := ⟨RX5, "bestKind", "(III)I"⟩
def RX6 : String := "MonotonePostings$State"
def TX6 : u_T := fun k => match k with
  | 0 => ("MonotonePostings$State", "lists", "[LMonotonePostings$Postings;", true)
  | 1 => ("MonotonePostings$State", "cache", "LMonotonePostings$Cache;", true)
  | 2 => ("MonotonePostings$State", "reads", "I", false)
  | _ => ("MonotonePostings$State", "hits", "I", false)
def tyX6 : Nat → FieldType := fun k => match k with
  | 0 => .array (.object "MonotonePostings$Postings")
  | 1 => .object "MonotonePostings$Cache"
  | 2 => .int
  | _ => .int
abbrev wsX60 : List Cond := u_ws RX6 TX6 4
theorem nmX6 : ∀ a, a < 4 → ∀ b, b < 4 → a ≠ b → (TX6 a).2.1 ≠ (TX6 b).2.1 := by decide +kernel
theorem tyX6_ok : ∀ k, k < 4 → parseFieldDescriptor (TX6 k).2.2.1 = some (tyX6 k) := by decide +kernel
abbrev cX6_init : ByteArray := prog_8_method_1_code
def yX6_init : MethodName := ⟨RX6, "<init>", "()V"⟩
abbrev cX6_copyFrom : ByteArray := prog_8_method_2_code
def yX6_copyFrom : MethodName := ⟨RX6, "copyFrom", "(LMonotonePostings$State;)V"⟩
abbrev cX6_query : ByteArray := prog_8_method_3_code
def yX6_query : MethodName := ⟨RX6, "query", "(II)I"⟩
abbrev cX6_queryInside : ByteArray := prog_8_method_4_code
def yX6_queryInside : MethodName := ⟨RX6, "queryInside", "(III)I"⟩
def RX7 : String := "MonotonePostings"
def TX7 : u_T := fun k => match k with
  | 0 => ("MonotonePostings", "now", "LMonotonePostings$State;", true)
  | 1 => ("MonotonePostings", "history", "LMonotonePostings$History;", true)
  | 2 => ("MonotonePostings", "partitioner", "LMonotonePostings$Partitioner;", true)
  | 3 => ("MonotonePostings", "code", "LMonotonePostings$CodeRow;", true)
  | 4 => ("MonotonePostings", "order", "[I", true)
  | _ => ("MonotonePostings", "result", "[I", true)
def tyX7 : Nat → FieldType := fun k => match k with
  | 0 => .object "MonotonePostings$State"
  | 1 => .object "MonotonePostings$History"
  | 2 => .object "MonotonePostings$Partitioner"
  | 3 => .object "MonotonePostings$CodeRow"
  | 4 => .array .int
  | _ => .array .int
abbrev wsX70 : List Cond := u_ws RX7 TX7 6
theorem nmX7 : ∀ a, a < 6 → ∀ b, b < 6 → a ≠ b → (TX7 a).2.1 ≠ (TX7 b).2.1 := by decide +kernel
theorem tyX7_ok : ∀ k, k < 6 → parseFieldDescriptor (TX7 k).2.2.1 = some (tyX7 k) := by decide +kernel
abbrev cX7_init : ByteArray := prog_1_method_1_code
def yX7_init : MethodName := ⟨RX7, "<init>", "()V"⟩
abbrev cX7_append : ByteArray := prog_1_method_2_code
def yX7_append : MethodName := ⟨RX7, "append", "(II)I"⟩
abbrev cX7_appendRange : ByteArray := prog_1_method_3_code
def yX7_appendRange : MethodName := ⟨RX7, "appendRange", "(IIII)I"⟩
abbrev cX7_clear : ByteArray := prog_1_method_4_code
def yX7_clear : MethodName := ⟨RX7, "clear", "(I)I"⟩
abbrev cX7_size : ByteArray := prog_1_method_5_code
def yX7_size : MethodName := ⟨RX7, "size", "(I)I"⟩
abbrev cX7_document : ByteArray := prog_1_method_6_code
def yX7_document : MethodName := ⟨RX7, "document", "(II)I"⟩
abbrev cX7_rank : ByteArray := prog_1_method_7_code
def yX7_rank : MethodName := ⟨RX7, "rank", "(II)I"⟩
abbrev cX7_partitions : ByteArray := prog_1_method_8_code
def yX7_partitions : MethodName := ⟨RX7, "partitions", "(I)I"⟩
abbrev cX7_partition : ByteArray := prog_1_method_9_code
def yX7_partition : MethodName := ⟨RX7, "partition", "(III)I"⟩
abbrev cX7_codeLength : ByteArray := prog_1_method_10_code
def yX7_codeLength : MethodName := ⟨RX7, "codeLength", "(I)I"⟩
abbrev cX7_codeBit : ByteArray := prog_1_method_11_code
def yX7_codeBit : MethodName := ⟨RX7, "codeBit", "(II)I"⟩
abbrev cX7_fixedLength : ByteArray := prog_1_method_12_code
def yX7_fixedLength : MethodName := ⟨RX7, "fixedLength", "(II)I"⟩
abbrev cX7_bitsPerDocument : ByteArray := prog_1_method_13_code
def yX7_bitsPerDocument : MethodName := ⟨RX7, "bitsPerDocument", "(I)D"⟩
abbrev cX7_nextAtLeast : ByteArray := prog_1_method_14_code
def yX7_nextAtLeast : MethodName := ⟨RX7, "nextAtLeast", "(II)I"⟩
abbrev cX7_countIntersection : ByteArray := prog_1_method_15_code
def yX7_countIntersection : MethodName := ⟨RX7, "countIntersection", "(I)I"⟩
abbrev cX7_intersect : ByteArray := prog_1_method_16_code
def yX7_intersect : MethodName := ⟨RX7, "intersect", "(II)I"⟩
abbrev cX7_unite : ByteArray := prog_1_method_17_code
def yX7_unite : MethodName := ⟨RX7, "unite", "(III)I"⟩
abbrev cX7_subtract : ByteArray := prog_1_method_18_code
def yX7_subtract : MethodName := ⟨RX7, "subtract", "(III)I"⟩
abbrev cX7_reads : ByteArray := prog_1_method_19_code
def yX7_reads : MethodName := ⟨RX7, "reads", "()I"⟩
abbrev cX7_hits : ByteArray := prog_1_method_20_code
def yX7_hits : MethodName := ⟨RX7, "hits", "()I"⟩
abbrev cX7_setCapacity : ByteArray := prog_1_method_21_code
def yX7_setCapacity : MethodName := ⟨RX7, "setCapacity", "(I)I"⟩
abbrev cX7_cached : ByteArray := prog_1_method_22_code
def yX7_cached : MethodName := ⟨RX7, "cached", "()I"⟩
abbrev cX7_cachedAt : ByteArray := prog_1_method_23_code
def yX7_cachedAt : MethodName := ⟨RX7, "cachedAt", "(I)I"⟩
abbrev cX7_undo : ByteArray := prog_1_method_24_code
def yX7_undo : MethodName := ⟨RX7, "undo", "()I"⟩
abbrev cX7_digest : ByteArray := prog_1_method_25_code
def yX7_digest : MethodName := ⟨RX7, "digest", "()J"⟩
abbrev cX7_requireList : ByteArray := prog_1_method_26_code
def yX7_requireList : MethodName := ⟨RX7, "requireList", "(I)V"⟩
abbrev cX7_requireIndex : ByteArray := prog_1_method_27_code
def yX7_requireIndex : MethodName := ⟨RX7, "requireIndex", "(II)V"⟩
abbrev cX7_requireBetween : ByteArray := prog_1_method_28_code
def yX7_requireBetween : MethodName := ⟨RX7, "requireBetween", "(III)V"⟩
abbrev cX7_requireRange : ByteArray := prog_1_method_29_code
def yX7_requireRange : MethodName := ⟨RX7, "requireRange", "(III)V"⟩
abbrev cX7_requireSet : ByteArray := prog_1_method_30_code
def yX7_requireSet : MethodName := ⟨RX7, "requireSet", "(I)V"⟩
abbrev cX7_listAt : ByteArray := prog_1_method_31_code
def yX7_listAt : MethodName := ⟨RX7, "listAt", "(I)LMonotonePostings$Postings;"⟩
abbrev cX7_recode : ByteArray := prog_1_method_32_code
def yX7_recode : MethodName := ⟨RX7, "recode", "(I)V"⟩
abbrev cX7_writeResult : ByteArray := prog_1_method_33_code
def yX7_writeResult : MethodName := ⟨RX7, "writeResult", "(II)I"⟩
abbrev cX7_mergeIntoResult : ByteArray := prog_1_method_34_code
def yX7_mergeIntoResult : MethodName := ⟨RX7, "mergeIntoResult", "(LMonotonePostings$Postings;LMonotonePostings$Postings;)I"⟩
abbrev cX7_differenceIntoResult : ByteArray := prog_1_method_35_code
def yX7_differenceIntoResult : MethodName := ⟨RX7, "differenceIntoResult", "(LMonotonePostings$Postings;LMonotonePostings$Postings;)I"⟩
abbrev cX7_findIntersection : ByteArray := prog_1_method_36_code
def yX7_findIntersection : MethodName := ⟨RX7, "findIntersection", "(I)I"⟩
abbrev cX7_askOthers : ByteArray := prog_1_method_37_code
def yX7_askOthers : MethodName := ⟨RX7, "askOthers", "(II)I"⟩
abbrev cX7_orderLists : ByteArray := prog_1_method_38_code
def yX7_orderLists : MethodName := ⟨RX7, "orderLists", "(I)I"⟩
abbrev cX7_mix : ByteArray := prog_1_method_39_code
def yX7_mix : MethodName := ⟨RX7, "mix", "(JI)J"⟩
abbrev cX7_mixRow : ByteArray := prog_1_method_40_code
def yX7_mixRow : MethodName := ⟨RX7, "mixRow", "(J[II)J"⟩
abbrev cX7_mixList : ByteArray := prog_1_method_41_code
def yX7_mixList : MethodName := ⟨RX7, "mixList", "(JLMonotonePostings$Postings;)J"⟩
def RX8 : String := "MonotonePostingsModel"
def TX8 : u_T := fun k => match k with
  | 0 => ("MonotonePostingsModel", "thrown", "I", false)
  | 1 => ("MonotonePostingsModel", "w", "[I", true)
  | 2 => ("MonotonePostingsModel", "past", "[I", true)
  | 3 => ("MonotonePostingsModel", "saved", "I", false)
  | 4 => ("MonotonePostingsModel", "begins", "[I", true)
  | 5 => ("MonotonePostingsModel", "many", "[I", true)
  | 6 => ("MonotonePostingsModel", "laid", "[Z", true)
  | 7 => ("MonotonePostingsModel", "cost", "[I", true)
  | 8 => ("MonotonePostingsModel", "count", "[I", true)
  | 9 => ("MonotonePostingsModel", "next", "[I", true)
  | 10 => ("MonotonePostingsModel", "found", "[I", true)
  | _ => ("MonotonePostingsModel", "order", "[I", true)
def tyX8 : Nat → FieldType := fun k => match k with
  | 0 => .int
  | 1 => .array .int
  | 2 => .array .int
  | 3 => .int
  | 4 => .array .int
  | 5 => .array .int
  | 6 => .array .boolean
  | 7 => .array .int
  | 8 => .array .int
  | 9 => .array .int
  | 10 => .array .int
  | _ => .array .int
abbrev wsX80 : List Cond := u_ws RX8 TX8 12
theorem nmX8 : ∀ a, a < 12 → ∀ b, b < 12 → a ≠ b → (TX8 a).2.1 ≠ (TX8 b).2.1 := by decide +kernel
theorem tyX8_ok : ∀ k, k < 12 → parseFieldDescriptor (TX8 k).2.2.1 = some (tyX8 k) := by decide +kernel
abbrev cX8_init : ByteArray := prog_10_method_1_code
def yX8_init : MethodName := ⟨RX8, "<init>", "()V"⟩
abbrev cX8_thrown : ByteArray := prog_10_method_2_code
def yX8_thrown : MethodName := ⟨RX8, "thrown", "()I"⟩
abbrev cX8_in : ByteArray := prog_10_method_3_code
def yX8_in : MethodName := ⟨RX8, "in", "(III)Z"⟩
abbrev cX8_fails : ByteArray := prog_10_method_4_code
def yX8_fails : MethodName := ⟨RX8, "fails", "(I)I"⟩
abbrev cX8_isList : ByteArray := prog_10_method_5_code
def yX8_isList : MethodName := ⟨RX8, "isList", "(I)Z"⟩
abbrev cX8_doc : ByteArray := prog_10_method_6_code
def yX8_doc : MethodName := ⟨RX8, "doc", "(II)I"⟩
abbrev cX8_save : ByteArray := prog_10_method_7_code
def yX8_save : MethodName := ⟨RX8, "save", "()V"⟩
abbrev cX8_drop : ByteArray := prog_10_method_8_code
def yX8_drop : MethodName := ⟨RX8, "drop", "(I)V"⟩
abbrev cX8_changes : ByteArray := prog_10_method_9_code
def yX8_changes : MethodName := ⟨RX8, "changes", "(I)V"⟩
abbrev cX8_add : ByteArray := prog_10_method_10_code
def yX8_add : MethodName := ⟨RX8, "add", "(II)V"⟩
abbrev cX8_isBehind : ByteArray := prog_10_method_11_code
def yX8_isBehind : MethodName := ⟨RX8, "isBehind", "(II)Z"⟩
abbrev cX8_append : ByteArray := prog_10_method_12_code
def yX8_append : MethodName := ⟨RX8, "append", "(II)I"⟩
abbrev cX8_appendRange : ByteArray := prog_10_method_13_code
def yX8_appendRange : MethodName := ⟨RX8, "appendRange", "(IIII)I"⟩
abbrev cX8_clear : ByteArray := prog_10_method_14_code
def yX8_clear : MethodName := ⟨RX8, "clear", "(I)I"⟩
abbrev cX8_size : ByteArray := prog_10_method_15_code
def yX8_size : MethodName := ⟨RX8, "size", "(I)I"⟩
abbrev cX8_document : ByteArray := prog_10_method_16_code
def yX8_document : MethodName := ⟨RX8, "document", "(II)I"⟩
abbrev cX8_rank : ByteArray := prog_10_method_17_code
def yX8_rank : MethodName := ⟨RX8, "rank", "(II)I"⟩
abbrev cX8_lowBits : ByteArray := prog_10_method_18_code
def yX8_lowBits : MethodName := ⟨RX8, "lowBits", "(II)I"⟩
abbrev cX8_sparse : ByteArray := prog_10_method_19_code
def yX8_sparse : MethodName := ⟨RX8, "sparse", "(II)I"⟩
abbrev cX8_kindOf : ByteArray := prog_10_method_20_code
def yX8_kindOf : MethodName := ⟨RX8, "kindOf", "(II)I"⟩
abbrev cX8_sizeOf : ByteArray := prog_10_method_21_code
def yX8_sizeOf : MethodName := ⟨RX8, "sizeOf", "(III)I"⟩
abbrev cX8_lay : ByteArray := prog_10_method_22_code
def yX8_lay : MethodName := ⟨RX8, "lay", "(I)V"⟩
abbrev cX8_beginOf : ByteArray := prog_10_method_23_code
def yX8_beginOf : MethodName := ⟨RX8, "beginOf", "(II)I"⟩
abbrev cX8_documentsIn : ByteArray := prog_10_method_24_code
def yX8_documentsIn : MethodName := ⟨RX8, "documentsIn", "(II)I"⟩
abbrev cX8_firstIn : ByteArray := prog_10_method_25_code
def yX8_firstIn : MethodName := ⟨RX8, "firstIn", "(II)I"⟩
abbrev cX8_lastIn : ByteArray := prog_10_method_26_code
def yX8_lastIn : MethodName := ⟨RX8, "lastIn", "(II)I"⟩
abbrev cX8_widthOf : ByteArray := prog_10_method_27_code
def yX8_widthOf : MethodName := ⟨RX8, "widthOf", "(II)I"⟩
abbrev cX8_kindIn : ByteArray := prog_10_method_28_code
def yX8_kindIn : MethodName := ⟨RX8, "kindIn", "(II)I"⟩
abbrev cX8_lowIn : ByteArray := prog_10_method_29_code
def yX8_lowIn : MethodName := ⟨RX8, "lowIn", "(II)I"⟩
abbrev cX8_partitions : ByteArray := prog_10_method_30_code
def yX8_partitions : MethodName := ⟨RX8, "partitions", "(I)I"⟩
abbrev cX8_property : ByteArray := prog_10_method_31_code
def yX8_property : MethodName := ⟨RX8, "property", "(III)I"⟩
abbrev cX8_partition : ByteArray := prog_10_method_32_code
def yX8_partition : MethodName := ⟨RX8, "partition", "(III)I"⟩
abbrev cX8_bitsOf : ByteArray := prog_10_method_33_code
def yX8_bitsOf : MethodName := ⟨RX8, "bitsOf", "(I)I"⟩
abbrev cX8_codeLength : ByteArray := prog_10_method_34_code
def yX8_codeLength : MethodName := ⟨RX8, "codeLength", "(I)I"⟩
abbrev cX8_headerBit : ByteArray := prog_10_method_35_code
def yX8_headerBit : MethodName := ⟨RX8, "headerBit", "(III)I"⟩
abbrev cX8_bodyBit : ByteArray := prog_10_method_36_code
def yX8_bodyBit : MethodName := ⟨RX8, "bodyBit", "(III)I"⟩
abbrev cX8_bitOf : ByteArray := prog_10_method_37_code
def yX8_bitOf : MethodName := ⟨RX8, "bitOf", "(II)I"⟩
abbrev cX8_codeBit : ByteArray := prog_10_method_38_code
def yX8_codeBit : MethodName := ⟨RX8, "codeBit", "(II)I"⟩
abbrev cX8_fixedLength : ByteArray := prog_10_method_39_code
def yX8_fixedLength : MethodName := ⟨RX8, "fixedLength", "(II)I"⟩
abbrev cX8_bitsPerDocument : ByteArray := prog_10_method_40_code
def yX8_bitsPerDocument : MethodName := ⟨RX8, "bitsPerDocument", "(I)D"⟩
abbrev cX8_readsFor : ByteArray := prog_10_method_41_code
def yX8_readsFor : MethodName := ⟨RX8, "readsFor", "(IIII)I"⟩
abbrev cX8_opens : ByteArray := prog_10_method_42_code
def yX8_opens : MethodName := ⟨RX8, "opens", "(III)I"⟩
abbrev cX8_asks : ByteArray := prog_10_method_43_code
def yX8_asks : MethodName := ⟨RX8, "asks", "(II)I"⟩
abbrev cX8_nextAtLeast : ByteArray := prog_10_method_44_code
def yX8_nextAtLeast : MethodName := ⟨RX8, "nextAtLeast", "(II)I"⟩
abbrev cX8_meets : ByteArray := prog_10_method_45_code
def yX8_meets : MethodName := ⟨RX8, "meets", "(I)I"⟩
abbrev cX8_isSet : ByteArray := prog_10_method_46_code
def yX8_isSet : MethodName := ⟨RX8, "isSet", "(I)Z"⟩
abbrev cX8_countIntersection : ByteArray := prog_10_method_47_code
def yX8_countIntersection : MethodName := ⟨RX8, "countIntersection", "(I)I"⟩
abbrev cX8_writes : ByteArray := prog_10_method_48_code
def yX8_writes : MethodName := ⟨RX8, "writes", "(II)I"⟩
abbrev cX8_intersect : ByteArray := prog_10_method_49_code
def yX8_intersect : MethodName := ⟨RX8, "intersect", "(II)I"⟩
abbrev cX8_has : ByteArray := prog_10_method_50_code
def yX8_has : MethodName := ⟨RX8, "has", "(II)Z"⟩
abbrev cX8_unite : ByteArray := prog_10_method_51_code
def yX8_unite : MethodName := ⟨RX8, "unite", "(III)I"⟩
abbrev cX8_subtract : ByteArray := prog_10_method_52_code
def yX8_subtract : MethodName := ⟨RX8, "subtract", "(III)I"⟩
abbrev cX8_reads : ByteArray := prog_10_method_53_code
def yX8_reads : MethodName := ⟨RX8, "reads", "()I"⟩
abbrev cX8_hits : ByteArray := prog_10_method_54_code
def yX8_hits : MethodName := ⟨RX8, "hits", "()I"⟩
abbrev cX8_setCapacity : ByteArray := prog_10_method_55_code
def yX8_setCapacity : MethodName := ⟨RX8, "setCapacity", "(I)I"⟩
abbrev cX8_cached : ByteArray := prog_10_method_56_code
def yX8_cached : MethodName := ⟨RX8, "cached", "()I"⟩
abbrev cX8_cachedAt : ByteArray := prog_10_method_57_code
def yX8_cachedAt : MethodName := ⟨RX8, "cachedAt", "(I)I"⟩
abbrev cX8_undo : ByteArray := prog_10_method_58_code
def yX8_undo : MethodName := ⟨RX8, "undo", "()I"⟩
abbrev cX8_mixed : ByteArray := prog_10_method_59_code
def yX8_mixed : MethodName := ⟨RX8, "mixed", "(JJ)J"⟩
abbrev cX8_digest : ByteArray := prog_10_method_60_code
def yX8_digest : MethodName := ⟨RX8, "digest", "()J"⟩
def RJ0 : String := "java/lang/String"
def TJ0 : u_T := fun k => match k with
  | _ => ("", "", "", false)
def tyJ0 : Nat → FieldType := fun k => match k with
  | _ => .int
abbrev wsJ00 : List Cond := u_ws RJ0 TJ0 0
theorem nmJ0 : ∀ a, a < 0 → ∀ b, b < 0 → a ≠ b → (TJ0 a).2.1 ≠ (TJ0 b).2.1 := by decide +kernel
theorem tyJ0_ok : ∀ k, k < 0 → parseFieldDescriptor (TJ0 k).2.2.1 = some (tyJ0 k) := by decide +kernel
def RJ10 : String := "java/lang/System"
def TJ10 : u_T := fun k => match k with
  | _ => ("", "", "", false)
def tyJ10 : Nat → FieldType := fun k => match k with
  | _ => .int
abbrev wsJ100 : List Cond := u_ws RJ10 TJ10 0
theorem nmJ10 : ∀ a, a < 0 → ∀ b, b < 0 → a ≠ b → (TJ10 a).2.1 ≠ (TJ10 b).2.1 := by decide +kernel
theorem tyJ10_ok : ∀ k, k < 0 → parseFieldDescriptor (TJ10 k).2.2.1 = some (tyJ10 k) := by decide +kernel
def RL : String := "MonotonePostingsLaw"
abbrev cL_append : ByteArray := method_3_code
def yL_append : MethodName := ⟨RL, "append", "(LMonotonePostings;II[J)I"⟩
abbrev cL_appendRange : ByteArray := method_4_code
def yL_appendRange : MethodName := ⟨RL, "appendRange", "(LMonotonePostings;IIII[J)I"⟩
abbrev cL_clear : ByteArray := method_5_code
def yL_clear : MethodName := ⟨RL, "clear", "(LMonotonePostings;I[J)I"⟩
abbrev cL_size : ByteArray := method_6_code
def yL_size : MethodName := ⟨RL, "size", "(LMonotonePostings;I[J)I"⟩
abbrev cL_document : ByteArray := method_7_code
def yL_document : MethodName := ⟨RL, "document", "(LMonotonePostings;II[J)I"⟩
abbrev cL_rank : ByteArray := method_8_code
def yL_rank : MethodName := ⟨RL, "rank", "(LMonotonePostings;II[J)I"⟩
abbrev cL_partitions : ByteArray := method_9_code
def yL_partitions : MethodName := ⟨RL, "partitions", "(LMonotonePostings;I[J)I"⟩
abbrev cL_partition : ByteArray := method_10_code
def yL_partition : MethodName := ⟨RL, "partition", "(LMonotonePostings;III[J)I"⟩
abbrev cL_codeLength : ByteArray := method_11_code
def yL_codeLength : MethodName := ⟨RL, "codeLength", "(LMonotonePostings;I[J)I"⟩
abbrev cL_codeBit : ByteArray := method_12_code
def yL_codeBit : MethodName := ⟨RL, "codeBit", "(LMonotonePostings;II[J)I"⟩
abbrev cL_fixedLength : ByteArray := method_13_code
def yL_fixedLength : MethodName := ⟨RL, "fixedLength", "(LMonotonePostings;II[J)I"⟩
abbrev cL_bitsPerDocument : ByteArray := method_14_code
def yL_bitsPerDocument : MethodName := ⟨RL, "bitsPerDocument", "(LMonotonePostings;I[D)I"⟩
abbrev cL_nextAtLeast : ByteArray := method_15_code
def yL_nextAtLeast : MethodName := ⟨RL, "nextAtLeast", "(LMonotonePostings;II[J)I"⟩
abbrev cL_countIntersection : ByteArray := method_16_code
def yL_countIntersection : MethodName := ⟨RL, "countIntersection", "(LMonotonePostings;I[J)I"⟩
abbrev cL_intersect : ByteArray := method_17_code
def yL_intersect : MethodName := ⟨RL, "intersect", "(LMonotonePostings;II[J)I"⟩
abbrev cL_unite : ByteArray := method_18_code
def yL_unite : MethodName := ⟨RL, "unite", "(LMonotonePostings;III[J)I"⟩
abbrev cL_subtract : ByteArray := method_19_code
def yL_subtract : MethodName := ⟨RL, "subtract", "(LMonotonePostings;III[J)I"⟩
abbrev cL_setCapacity : ByteArray := method_20_code
def yL_setCapacity : MethodName := ⟨RL, "setCapacity", "(LMonotonePostings;I[J)I"⟩
abbrev cL_cachedAt : ByteArray := method_21_code
def yL_cachedAt : MethodName := ⟨RL, "cachedAt", "(LMonotonePostings;I[J)I"⟩
abbrev cL_undo : ByteArray := method_22_code
def yL_undo : MethodName := ⟨RL, "undo", "(LMonotonePostings;[J)I"⟩
abbrev cL_law : ByteArray := code
def yL_law : MethodName := ⟨RL, "law", "([I)Z"⟩
theorem wsL_law_x0 : ∀ w ∈ (vx_atS RX7 66 "java/lang/IllegalArgumentException" ["java/lang/RuntimeException", "java/lang/Exception"]).filter goodWord, w ∈ lw_tbl := by decide +kernel
theorem wsL_law_x1 : ∀ w ∈ (vx_atS RX7 77 "java/lang/IllegalStateException" ["java/lang/RuntimeException", "java/lang/Exception"]).filter goodWord, w ∈ lw_tbl := by decide +kernel
theorem wsL_law_x2 : ∀ w ∈ (vx_atS RX7 197 "java/lang/IndexOutOfBoundsException" ["java/lang/RuntimeException", "java/lang/Exception"]).filter goodWord, w ∈ lw_tbl := by decide +kernel
/-- the tables' words that stay true while the machine warms up -/
def LT : List Cond := lw_tbl.filter goodWord
theorem LT_in : ∀ w ∈ LT, w ∈ lw_tbl := fun _ h => (List.mem_filter.mp h).1
theorem LT_good : ∀ w ∈ LT, goodWord w = true := fun _ h => (List.mem_filter.mp h).2
theorem LT_of (i : Nat) {w : Cond} (h : tables_1[i]? = some w) (g : goodWord w = true) : w ∈ LT := List.mem_filter.mpr ⟨List.mem_append_right _ (List.mem_of_getElem? h), g⟩
theorem LT_sel (i : Nat) {w : Cond} (h : (k2_sels lw_privs)[i]? = some w) (g : goodWord w = true) : w ∈ LT := List.mem_filter.mpr ⟨List.mem_append_left _ (List.mem_of_getElem? h), g⟩
abbrev vwCl : List vw_C := [(RX0, TX0, 3), (RX1, TX1, 2), (RX2, TX2, 3), (RX3, TX3, 2), (RX4, TX4, 4), (RX6, TX6, 4), (RX7, TX7, 6), (RX8, TX8, 12)]
end
section
/-! ===== whole numbers: an int of the machine as the number z that it stands for ===== -/
def iI (z : Int) : Int32 := Int32.ofInt z
abbrev IR (z : Int) : Prop := -2147483648 ≤ z ∧ z < 2147483648
theorem iI_add (a b : Int) : iI a + iI b = iI (a + b) := by unfold iI; exact (Int32.ofInt_add a b).symm
theorem iI_sub (a b : Int) : iI a - iI b = iI (a - b) := by unfold iI; exact (Int32.ofInt_sub a b).symm
theorem iI_mul (a b : Int) : iI a * iI b = iI (a * b) := by unfold iI; exact (Int32.ofInt_mul a b).symm
theorem iI_toInt {z : Int} (h : IR z) : (iI z).toInt = z := by
  unfold iI
  exact Int32.toInt_ofInt_of_le (by have := h.1; simpa using this) (by have := h.2; simpa using this)
theorem iI_self (x : Int32) : iI x.toInt = x := by unfold iI; exact Int32.ofInt_toInt x
theorem iI_IR (x : Int32) : IR x.toInt := ⟨by have := Int32.le_toInt x; simpa using this, by have := Int32.toInt_lt x; simpa using this⟩
theorem iI_lt {a b : Int} (ha : IR a) (hb : IR b) : iI a < iI b ↔ a < b := by rw [Int32.lt_iff_toInt_lt, iI_toInt ha, iI_toInt hb]
theorem iI_le {a b : Int} (ha : IR a) (hb : IR b) : iI a ≤ iI b ↔ a ≤ b := by rw [Int32.le_iff_toInt_le, iI_toInt ha, iI_toInt hb]
theorem iI_eq {a b : Int} (ha : IR a) (hb : IR b) : iI a = iI b ↔ a = b := by
  constructor
  · intro h
    have h2 := congrArg Int32.toInt h
    rwa [iI_toInt ha, iI_toInt hb] at h2
  · intro h; rw [h]
theorem iI_0 : (0 : Int32) = iI 0 := by decide
theorem iI_lt0 {a : Int} (ha : IR a) : iI a < 0 ↔ a < 0 := by rw [iI_0, iI_lt ha (by decide)]
theorem iI_le0 {a : Int} (ha : IR a) : iI a ≤ 0 ↔ a ≤ 0 := by rw [iI_0, iI_le ha (by decide)]
theorem iI_eq0 {a : Int} (ha : IR a) : iI a = 0 ↔ a = 0 := by rw [iI_0, iI_eq ha (by decide)]
theorem iI_nI (n : Nat) : iI n = nI n := by
  unfold iI nI
  first | rfl | exact Int32.ofInt_eq_ofNat | simp
theorem iI_clamp {z : Int} (h0 : 0 ≤ z) (h : z < 2147483648) : (iI z).toNatClampNeg = z.toNat := by
  obtain ⟨n, rfl⟩ := Int.eq_ofNat_of_zero_le h0
  rw [iI_nI, nI_clamp (by omega)]
  omega
theorem iI_in {z : Int} {n : Nat} (h0 : 0 ≤ z) (h : z < n) (hn : n < 2147483648) : vp_in (iI z) n := by
  obtain ⟨k, rfl⟩ := Int.eq_ofNat_of_zero_le h0
  rw [iI_nI]
  exact vp_in_nI (by omega) (by omega)
theorem iI_div {a b : Int} (ha : 0 ≤ a) (ha2 : a < 2147483648) (hb : 0 < b) (hb2 : b < 2147483648) : iI a / iI b = iI (a / b) := by
  obtain ⟨n, rfl⟩ := Int.eq_ofNat_of_zero_le ha
  obtain ⟨k, rfl⟩ := Int.eq_ofNat_of_zero_le (Int.le_of_lt hb)
  rw [iI_nI, iI_nI, pk_div (by omega) (by omega) (by omega), ← iI_nI]
  congr 1
theorem iI_rem {a b : Int} (ha : 0 ≤ a) (ha2 : a < 2147483648) (hb : 0 < b) (hb2 : b < 2147483648) : iI a - iI a / iI b * iI b = iI (a % b) := by
  rw [iI_div ha ha2 hb hb2, iI_mul, iI_sub]
  congr 1
  have := Int.mul_ediv_add_emod a b
  rw [Int.mul_comm] at this
  omega
theorem iI_sh : ∀ k : Nat, k < 32 → ((iI k &&& 31).toBitVec.smod 32).toNat = k := by
  intro k hk
  have : ∀ k : Fin 32, ((iI (k.val : Int) &&& 31).toBitVec.smod 32).toNat = k.val := by decide +kernel
  exact this ⟨k, hk⟩
theorem iI_shr {a : Int} {k : Nat} (h0 : 0 ≤ a) (h : a < 2147483648) (hk : k < 32) : iI a >>> (iI k &&& 31) = iI (a / 2 ^ k) := by
  obtain ⟨n, rfl⟩ := Int.eq_ofNat_of_zero_le h0
  rw [iI_nI n, pk_shrN (by omega) (iI k &&& 31) k (iI_sh k hk), ← iI_nI]
  congr 1
theorem iI_shl {a : Int} {k : Nat} (h0 : 0 ≤ a) (h : a * 2 ^ k < 2147483648) (hk : k < 32) : iI a <<< (iI k &&& 31) = iI (a * 2 ^ k) := by
  obtain ⟨n, rfl⟩ := Int.eq_ofNat_of_zero_le h0
  have h2 : n * 2 ^ k < 2147483648 := by
    have : ((n * 2 ^ k : Nat) : Int) < 2147483648 := by push_cast; exact h
    omega
  rw [iI_nI n, pk_shlN (iI k &&& 31) k (iI_sh k hk) (by omega), ← iI_nI]
  congr 1
theorem iI_andm {a : Int} (h0 : 0 ≤ a) (h : a < 4294967296) (k : Nat) {m : Int32} (hm : m.toBitVec.toNat = 2 ^ k - 1) : iI a &&& m = iI (a % 2 ^ k) := by
  obtain ⟨n, rfl⟩ := Int.eq_ofNat_of_zero_le h0
  rw [iI_nI n, pk_andN (by omega) k hm, ← iI_nI]
  congr 1
theorem iI_and1 {a : Int} (h0 : 0 ≤ a) (h : a < 2147483648) : iI a &&& iI 1 = iI (a % 2) := iI_andm h0 (by omega) 1 (by decide)
theorem iI_and31 (x : Int32) : ∃ j : Nat, j < 32 ∧ x &&& iI 31 = iI j := by
  obtain ⟨j, hj, e⟩ := pk_andE x (m := iI 31) 5 (by decide)
  exact ⟨j, hj, by rw [e, iI_nI]⟩
theorem iI_or01 {a b : Int} (ha : a = 0 ∨ a = 1) (hb : b = 0 ∨ b = 1) : iI a ||| iI b = iI (if a = 0 then b else 1) := by
  rcases ha with rfl | rfl <;> rcases hb with rfl | rfl <;> decide
theorem iI_l {a : Int} (h : IR a) : (iI a).toInt64 = Int64.ofInt a := by
  have := Int64.ofInt_int32ToInt (iI a)
  rw [iI_toInt h] at this
  exact this.symm
theorem iI_bool (c : Prop) [Decidable c] : (if c then iI 1 else iI 0) = iI (if c then 1 else 0) := by by_cases h : c <;> simp [h]
end
section
/-! ===== THE ENGINE: a judgement over a picture of the heap. Objects are numbered by the order in which they were made since the law began: object i lies at the address B + i. The picture h gives each its contents. ===== -/
abbrev ECell : Type := Nat × Nat × ((Nat → Int) ⊕ (Nat → Int64) ⊕ (Nat → UInt64) ⊕ (Nat → Option Nat) ⊕ List Value)
abbrev EHp : Type := Nat → ECell
abbrev NB : Type := Nat × Bool
def cI (n : Nat) (f : Nat → Int) : ECell := (0, n, .inl f)
def cZ (n : Nat) (f : Nat → Int) : ECell := (1, n, .inl f)
def cJ (n : Nat) (f : Nat → Int64) : ECell := (2, n, .inr (.inl f))
def cD (n : Nat) (f : Nat → UInt64) : ECell := (3, n, .inr (.inr (.inl f)))
def cR (t n : Nat) (f : Nat → Option Nat) : ECell := (t, n, .inr (.inr (.inr (.inl f))))
def cO (ci : Nat) (fs : List Value) : ECell := (ci, 0, .inr (.inr (.inr (.inr fs))))
/-- a value of the picture, as the machine has it: references by their addresses; a float stands for the script -/
def cv (B b : Nat) : Value → Value
  | .ref i => .ref (B + i)
  | .float _ => .ref b
  | v => v
def ce (tc : Nat → ClassId) (B b : Nat) : ECell → va_E
  | (t, n, .inl f) => .inl (tc t, n, .inl (fun j => iI (f j)))
  | (t, n, .inr (.inl f)) => .inl (tc t, n, .inr (.inl f))
  | (t, n, .inr (.inr (.inl f))) => .inl (tc t, n, .inr (.inr (.inr (.inl f))))
  | (t, n, .inr (.inr (.inr (.inl f)))) => .inl (tc t, n, .inr (.inr (.inr (.inr (fun j => (f j).map (B + ·))))))
  | (t, _, .inr (.inr (.inr (.inr fs)))) => .inr (t, fs.map (cv B b))
def wl (tc : Nat → ClassId) (B b N : Nat) (h : EHp) : va_W := (List.range N).map (fun i => (B + i, ce tc B b (h i)))
def ueh (h : EHp) (i : Nat) (c : ECell) : EHp := fun j => if j = i then c else h j
theorem ueh_s {h : EHp} {i : Nat} {c : ECell} : ueh h i c i = c := if_pos rfl
theorem ueh_n {h : EHp} {i j : Nat} {c : ECell} (hn : j ≠ i) : ueh h i c j = h j := if_neg hn
theorem wl_at {tc : Nat → ClassId} {B b N : Nat} {h : EHp} {i : Nat} (hi : i < N) : (wl tc B b N h)[i]? = some (B + i, ce tc B b (h i)) := by
  simp [wl, hi]
theorem wl_get {tc : Nat → ClassId} {B b N : Nat} {h : EHp} {k : Nat} {q : Nat × va_E} (hk : (wl tc B b N h)[k]? = some q) : k < N ∧ q = (B + k, ce tc B b (h k)) := by
  have hl : k < N := by
    have := (List.getElem?_eq_some_iff.mp hk).1
    simpa [wl] using this
  refine ⟨hl, ?_⟩
  rw [wl_at hl] at hk
  exact (Option.some.inj hk).symm
theorem wl_set {tc : Nat → ClassId} {B b N : Nat} {h : EHp} {i : Nat} {c : ECell} : (wl tc B b N h).set i (B + i, ce tc B b c) = wl tc B b N (ueh h i c) := by
  apply List.ext_getElem?
  intro k
  rw [List.getElem?_set]
  by_cases hk : i = k
  · subst hk
    by_cases hl : i < N
    · rw [if_pos rfl, wl_at hl, ueh_s, if_pos (by simpa [wl] using hl)]
    · simp [wl, hl]
  · rw [if_neg hk]
    by_cases hl : k < N
    · rw [wl_at hl, wl_at hl, ueh_n (fun h => hk h.symm)]
    · simp [wl, hl]
theorem wl_push {tc : Nat → ClassId} {B b N : Nat} {h : EHp} {c : ECell} : wl tc B b N h ++ [(B + N, ce tc B b c)] = wl tc B b (N + 1) (ueh h N c) := by
  unfold wl
  rw [List.range_succ, List.map_append]
  congr 1
  · apply List.map_congr_left
    intro i hi
    have : i ≠ N := Nat.ne_of_lt (List.mem_range.mp hi)
    rw [ueh_n this]
  · simp [ueh_s]
theorem wl_D {tc : Nat → ClassId} {B b N : Nat} {h : EHp} : va_D (fun q => B ≤ q) (wl tc B b N h) := by
  refine ⟨fun i j p q hp hq e => ?_, fun k q hk => ?_⟩
  · obtain ⟨-, rfl⟩ := wl_get hp
    obtain ⟨-, rfl⟩ := wl_get hq
    have e' : B + i = B + j := e
    omega
  · obtain ⟨-, rfl⟩ := wl_get hk
    exact Nat.le_add_right _ _
def tyl (tc : Nat → ClassId) : List (ClassId × FieldType) := [(tc 0, .int), (tc 1, .boolean), (tc 2, .long), (tc 3, .double), (tc 4, .object RX4), (tc 5, .object RX6)]
/-- methods: name, code, locals, what it returns, its table -/
abbrev MD : Type := MethodName × ByteArray × Nat × Option FieldType × List (Nat × Nat × Nat × Nat)
abbrev Out : Type := Option Value ⊕ String
abbrev rmo (d mc ms : Nat) : Room := { frames := d, cells := mc, slots := ms, locals := 37 * d }
def strL : List (Nat × String) := [(195, "no such list or index"), (198, "out of range"), (64, "not greater than the last document"), (75, "the list is full"), (142, "the union is too long"), (170, "no saved state")]
abbrev eIO : String := "java/lang/IndexOutOfBoundsException"
abbrev eIA : String := "java/lang/IllegalArgumentException"
abbrev eIS : String := "java/lang/IllegalStateException"
def nwC : List (String × String) := [(eIO, eIO), (eIA, eIA), (eIS, eIS)]
def nwM : List (String × Nat × MethodName × String) := [(RX7, 25, yX3_init, RX7), (RX7, 32, yX1_init, RX7), (RX6, 19, yX0_init, RX7), (RX6, 31, yX4_init, RX7)]
def nwD : List MethodName := [Bundle.initS "java/lang/RuntimeException", Bundle.initS "java/lang/Exception", Bundle.initS "java/lang/Throwable"]
def ncL : List (String × String) := [(eIO, eIA), (eIO, eIS), (eIA, eIO), (eIA, eIS), (eIS, eIO), (eIS, eIA)]
/-- what the machine's tables and old cells give for throws, nest mates and arrays of objects -/
def EV (l : Launch) (B : Nat) (s : State) : Prop :=
  l.stackTraces = false ∧ vx_Zq Bundle.tN "UNASSIGNED_STACK" Bundle.steD (fun q => B ≤ q) s s.heap ∧ vx_Zq Bundle.tN "SUPPRESSED_SENTINEL" Bundle.listD (fun q => B ≤ q) s s.heap ∧
  (∀ q ∈ strL, ∃ sa, vk_R RX7 q.1 q.2 sa s) ∧ (∀ q ∈ nwC, va_Nw (.castable q.1 q.2) s) ∧ (∀ q ∈ nwM, va_Nw (.methodLinkNest q.1 q.2.1 q.2.2.1 q.2.2.2) s) ∧ (∀ q ∈ ncL, va_Nc q.1 q.2 s) ∧ va_AO RX4 s ∧ va_AO RX6 s ∧ (∀ y ∈ nwD, va_Nw (.declares y) s)
theorem EV.warm {l : Launch} {B : Nat} {s U : State} (h : EV l B s) (hW : s.WarmedH U.vm) (hq : ∀ a : Nat, a < s.heap.size → ¬ B ≤ a → U.heap[a]? = s.heap[a]?) : EV l B U := by
  obtain ⟨h1, h2, h3, h4, h5, h6, h7, h8, h9, h10⟩ := h
  refine ⟨h1, vx_Zq.moved hW.alike (h2.kept hq), vx_Zq.moved hW.alike (h3.kept hq), fun q hm => ?_, fun q hm => va_Nw.warmC hW (h5 q hm), fun q hm => va_Nw.warmM hW (h6 q hm), fun q hm => va_Nc.moved hW.alike (h7 q hm), va_AO.moved hW.alike h8, va_AO.moved hW.alike h9, fun y hy => va_Nw.warmD hW (h10 y hy)⟩
  obtain ⟨sa, hs⟩ := h4 q hm
  exact ⟨sa, vk_R.warm hW hs⟩
def PK (D : va_G) (tc : Nat → ClassId) (B b : Nat) (N : NB) (h : EHp) (t : State) : Prop :=
  va_P D vwCl (wl tc B b N.1 h) t.heap ∧ va_K D vwCl (tyl tc) t ∧ B ≤ t.heap.size ∧ (N.2 = true → t.heap.size = B + N.1)
abbrev Post : Type := Out → NB → EHp → Prop
def QQ (D : va_G) (tc : Nat → ClassId) (B b : Nat) (post : Post) : Array Value → State → Outcome → State → Prop := fun _ st oc t =>
  (∃ (r : Option Value) (N : NB) (h : EHp), oc = .returned (r.map (cv B b)) ∧ post (.inl r) N h ∧ PK D tc B b N h t) ∧ va_F (fun q => B ≤ q) st t
def XX (D : va_G) (tc : Nat → ClassId) (B b : Nat) (post : Post) : String → State → State → Prop := fun E st t =>
  (∃ (N : NB) (h : EHp), post (.inr E) N h ∧ PK D tc B b N h t) ∧ va_F (fun q => B ≤ q) st t
def CX (p : Program) (s : State) (m : MethodId) (args : Array Value) (meth : Method) (c : Code) (md : MD) : Prop :=
  p.tables.exec = Jvm.exec ∧ c.code = md.2.1 ∧ c.maxLocals = md.2.2.1 ∧ meth.sig.returnType = md.2.2.2.1 ∧ s.vm.findClass md.1.cls = some m.cls ∧ (∀ w ∈ LT, w.before args s = true) ∧ meth.locks = false ∧ meth.name = md.1.name ∧ c.exceptionTable.toList = tableOf md.2.2.2.2
def HR (D : va_G) (tc : Nat → ClassId) (B b : Nat) (N : NB) (h : EHp) (s : State) (H : Heap) (locs : List Loc) (k : Nat) : Prop :=
  va_K D vwCl (tyl tc) s ∧ va_P D vwCl (wl tc B b N.1 h) H ∧ va_S (fun q => B ≤ q) s.heap H locs ∧ B ≤ s.heap.size ∧ (N.2 = true → s.heap.size + k ≤ B + N.1)
theorem HR.lt {D : va_G} {tc : Nat → ClassId} {B b : Nat} {N : NB} {h : EHp} {s : State} {H : Heap} {locs : List Loc} {k : Nat} (hH : HR D tc B b N h s H locs k) {i : Nat} (hi : i < N.1) : B + i < H.size := (hH.2.1 i _ (wl_at hi)).lt
theorem HR.tight {D : va_G} {tc : Nat → ClassId} {B b : Nat} {N : NB} {h : EHp} {s : State} {H : Heap} {locs : List Loc} {k : Nat} (hH : HR D tc B b N h s H locs k) {T : State} (hT : T.heap = H) (hX : T.heap.size ≤ s.heap.size + k) (hz : N.2 = true) : H.size = B + N.1 := by
  have h1 := hH.2.2.2.2 hz
  rw [hT] at hX
  have h2 : B + N.1 ≤ H.size := by
    cases hn : N.1 with
    | zero =>
      have := hH.2.2.1.1
      have := hH.2.2.2.1
      omega
    | succ j =>
      have := hH.lt (i := j) (by omega)
      omega
  omega
def LR (B b nL : Nat) (al : List (Option Value)) (ls : Array Slot) : Prop :=
  ls.size = nL ∧ lv_wf ls ∧ ∀ (i : Nat) (v : Value), al[i]? = some (some v) → ls[i]? = some (.val (cv B b v))
def rIns : Option Value → Instr
  | none => .return_
  | some (.int _) => .ireturn
  | some (.long _) => .lreturn
  | some (.double _) => .dreturn
  | some _ => .areturn
def rOk (ret : Option FieldType) : Option Value → Prop
  | none => ret = none
  | some (.int v) => ∃ ty, ret = some ty ∧ narrow ty (.int v) = .int v
  | some (.long _) => ret = some .long
  | some (.double _) => ret = some .double
  | some (.ref _) => ∃ n, ret = some (.object n)
  | some _ => False
/-- from this point of the method's body, with these locals, this stack and this picture of the heap, the method ends as 'post' says -/
def G (l : Launch) (X : State → Nat → Nat → Prop) (md : MD) (d mc ms : Nat) (post : Post) (k n pc : Nat) (al : List (Option Value)) (st : List Value) (N : NB) (h : EHp) : Prop :=
  ∀ (p : Program) (e : Env) (s : State) (m : MethodId) (args : Array Value) (below : List Frame) (meth : Method) (c : Code) (D : va_G) (tc : Nat → ClassId) (B b : Nat) (H : Heap) (locs : List Loc) (ls : Array Slot) (Q : State → Prop),
    CX p s m args meth c md → EV l B s → X s B b → HR D tc B b N h s H locs k → LR B b md.2.2.1 al ls →
    (∀ (r : Option Value) (N' : NB) (h' : EHp) (H' : Heap) (locs' : List Loc) (pc' : Nat) (ls' : Array Slot), post (.inl r) N' h' → HR D tc B b N' h' s H' locs' mc → rOk md.2.2.2.1 r → decode md.2.1 pc' = .ok (rIns r, 1) → W p l e (rmo d mc ms) s m args below meth c H' locs' mc ms Q (F0 m pc' ls' (r.map (cv B b)).toList)) →
    (Q = vx_MQ below (QQ D tc B b post) (XX D tc B b post) args s mc ms (fun q => B ≤ q) ∨ ∀ E N' h', ¬ post (.inr E) N' h') →
    W p l e (rmo d mc ms) s m args below meth c H locs k n Q (F0 m pc ls (st.map (cv B b)))
def wsM (md : MD) : List Cond := (match md.2.2.2.2 with
  | [] => Cond.code md.1 md.2.1 md.2.2.1 md.2.2.2.1
  | hh => Cond.codeWith md.1 md.2.1 md.2.2.1 md.2.2.2.1 hh) :: LT
/-- a method's contract over the picture -/
def CT (l : Launch) (md : MD) (d mc ms : Nat) (av : List Value) (N : NB) (h : EHp) (post : Post) : Prop :=
  ∀ (D : va_G) (tc : Nat → ClassId) (B b : Nat), vx_Met l md.1 (wsM md) (rmo d mc ms) (va_Pc (av.map (cv B b)) (fun U => PK D tc B b N h U ∧ EV l B U)) (QQ D tc B b post) (XX D tc B b post) mc ms (fun q => B ≤ q)
def noX : State → Nat → Nat → Prop := fun _ _ _ => True
def lvl : List Value → List (Option Value)
  | [] => []
  | v :: vs => if v.category = 2 then some v :: none :: lvl vs else some v :: lvl vs
theorem cv_cat (B b : Nat) : ∀ v : Value, (cv B b v).category = v.category := by intro v; cases v <;> rfl
theorem lvl_at (B b : Nat) : ∀ (vs : List Value) (i0 i : Nat) (v : Value), (lvl vs)[i]? = some (some v) → (i0 + i, cv B b v) ∈ lv_args i0 (vs.map (cv B b)) := by
  intro vs
  induction vs with
  | nil => intro i0 i v h; simp [lvl] at h
  | cons w vs ih =>
    intro i0 i v h
    unfold lvl at h
    simp only [List.map_cons, lv_args, cv_cat]
    by_cases hc : w.category = 2
    · rw [if_pos hc] at h
      rw [if_pos hc]
      match i, h with
      | 0, h =>
        simp at h
        subst h
        exact List.mem_cons_self
      | 1, h => simp at h
      | i + 2, h =>
        simp at h
        have := ih (i0 + 2) i v h
        refine List.mem_cons_of_mem _ ?_
        rw [show i0 + (i + 2) = i0 + 2 + i by omega]
        exact this
    · rw [if_neg hc] at h
      rw [if_neg hc]
      match i, h with
      | 0, h =>
        simp at h
        subst h
        exact List.mem_cons_self
      | i + 1, h =>
        simp at h
        have := ih (i0 + 1) i v h
        refine List.mem_cons_of_mem _ ?_
        rw [show i0 + (i + 1) = i0 + 1 + i by omega]
        exact this
theorem lvl_pad (vs : List Value) (n : Nat) (i : Nat) (v : Value) (h : (lvl vs ++ List.replicate n none)[i]? = some (some v)) : (lvl vs)[i]? = some (some v) := by
  by_cases hi : i < (lvl vs).length
  · rwa [List.getElem?_append_left hi] at h
  · rw [List.getElem?_append_right (by omega)] at h
    have := List.mem_of_getElem? h
    have := List.eq_of_mem_replicate this
    cases this
theorem G.ret {l : Launch} {p : Program} {e : Env} {s : State} {m : MethodId} {args : Array Value} {below : List Frame} {meth : Method} {c : Code} {D : va_G} {tc : Nat → ClassId} {B b : Nat} {md : MD} {d mc ms : Nat} {post : Post} (hC : CX p s m args meth c md) :
    ∀ (r : Option Value) (N' : NB) (h' : EHp) (H' : Heap) (locs' : List Loc) (pc' : Nat) (ls' : Array Slot), post (.inl r) N' h' → HR D tc B b N' h' s H' locs' mc → rOk md.2.2.2.1 r → decode md.2.1 pc' = .ok (rIns r, 1) → W p l e (rmo d mc ms) s m args below meth c H' locs' mc ms (vx_MQ below (QQ D tc B b post) (XX D tc B b post) args s mc ms (fun q => B ≤ q)) (F0 m pc' ls' (r.map (cv B b)).toList) := by
  intro r N' h' H' locs' pc' ls' hp hH hr hd T hT hX
  have hsz := fun z => hH.tight hT hX.heapSize z
  obtain ⟨hx, hb, -, hrt, -, -, hlk, -, -⟩ := hC
  obtain ⟨hK, hP, hS, hB, -⟩ := hH
  have hq : ∀ t : State, t.heap = H' → s.WarmedH t.vm → QQ D tc B b post args s (.returned (r.map (cv B b))) t := by
    intro t ht hW
    refine ⟨⟨r, N', h', rfl, hp, ?_⟩, hS.F ht⟩
    refine ⟨by rw [ht]; exact hP, va_K.moved hW.alike hK, ?_, by rw [ht]; exact hsz⟩
    rw [ht]; exact Nat.le_trans hB hS.1
  refine vx_ret ?_ T hT hX
  match r, hr, hd, hq with
  | none, hr, hd, hq => exact W.vret hx hb (hrt.trans hr) hq hS.2.2 hd hlk
  | some (.int v), hr, hd, hq =>
    obtain ⟨ty, e1, e2⟩ := hr
    exact W.zret hx hb (hrt.trans e1) e2 hq hS.2.2 hd hlk
  | some (.long v), hr, hd, hq => exact W.lret hx hb (hrt.trans hr) hq hS.2.2 hd hlk
  | some (.double v), hr, hd, hq => exact W.dret hx hb (hrt.trans hr) hq hS.2.2 hd hlk
  | some (.ref v), hr, hd, hq =>
    obtain ⟨n, e1⟩ := hr
    exact W.aret hx hb (hrt.trans e1) (Or.inl ⟨n, rfl⟩) (Or.inr ⟨_, rfl⟩) hq hS.2.2 hd hlk
theorem CT.of {l : Launch} {md : MD} {d mc ms : Nat} {av : List Value} {N : NB} {h : EHp} {post : Post} (hy : plainName md.1.cls = true) (hlen : (lg_sl av).length ≤ md.2.2.1)
    (g : G l noX md d mc ms post 0 0 0 (lvl av ++ List.replicate (md.2.2.1 - (lg_sl av).length) none) [] N h) : CT l md d mc ms av N h post := by
  intro D tc B b
  have hsl : ∀ vs : List Value, (lg_sl (vs.map (cv B b))).length = (lg_sl vs).length := by
    intro vs
    induction vs with
    | nil => rfl
    | cons w vs ih =>
      simp only [lg_sl, List.map_cons, List.flatMap_cons, List.length_append] at ih ⊢
      rw [ih, cv_cat]
      by_cases hc : w.category = 2 <;> simp [hc]
  have body : ∀ (p : Program) (e : Env) (s : State) (m : MethodId) (args : Array Value) (below : List Frame) (meth : Method) (c : Code), CX p s m args meth c md → va_Pc (av.map (cv B b)) (fun U => PK D tc B b N h U ∧ EV l B U) args s → W p l e (rmo d mc ms) s m args below meth c s.heap [] 0 0 (vx_MQ below (QQ D tc B b post) (XX D tc B b post) args s mc ms (fun q => B ≤ q)) (entryFrame m args md.2.2.1) := by
    intro p e s m args below meth c hC hv
    obtain ⟨rfl, hPK, hE⟩ := hv
    obtain ⟨hP, hK, hB, hz⟩ := hPK
    have hl := lv_entry (av.map (cv B b)) (n := md.2.2.1) (by rw [hsl]; exact hlen)
    rw [lg_entry_eq]
    generalize (lg_sl (av.map (cv B b)) ++ List.replicate (md.2.2.1 - (lg_sl (av.map (cv B b))).length) Slot.unset).toArray = ls at hl ⊢
    exact g p e s m _ below meth c D tc B b s.heap [] ls _ hC hE trivial ⟨hK, hP, va_S.rf, hB, fun z => Nat.le_of_eq (hz z)⟩ ⟨hl.1, hl.2.1, fun i v hi => by
      have := lvl_at B b av 0 i v (lvl_pad av _ i v hi)
      rw [Nat.zero_add] at this
      exact hl.2.2 _ this⟩ (G.ret hC) (Or.inl rfl)
  obtain ⟨y, cc, nL, rt, hh⟩ := md
  cases hh with
  | nil =>
    refine vx_ofW (cc := cc) (maxL := nL) (ret := rt) hy rfl ?_
    intro p e s m args below meth c s₁ Bd hml htab hv
    have hts := atoms_spec (ws := wsM (y, cc, nL, rt, [])) Bd.pre
    refine body p e s m args below meth c ⟨Bd.exec, Bd.bytes, hml, Bd.returns, findClass_of_methodNamed Bd.named, fun w hw => hts w (List.mem_cons_of_mem _ hw), Bd.notSynchronized, (name_of_methodNamed Bd.named Bd.method).1, ?_⟩ hv
    have : c.exceptionTable.toList = [] := List.eq_nil_iff_forall_not_mem.mpr (fun x hx => htab x hx)
    rw [this]; rfl
  | cons z hh =>
    refine vx_ofWH (cc := cc) (maxL := nL) (ret := rt) (hh := z :: hh) hy rfl ?_
    intro p e s m args below meth c s₁ Bd hml hv
    have hts := atoms_spec (ws := wsM (y, cc, nL, rt, z :: hh)) Bd.pre
    refine body p e s m args below meth c ⟨Bd.exec, Bd.bytes, hml, Bd.returns, findClass_of_methodNamed Bd.named, fun w hw => hts w (List.mem_cons_of_mem _ hw), Bd.notSynchronized, (name_of_methodNamed Bd.named Bd.method).1, ?_⟩ hv
    exact vx_table (x := y) Bd (hts _ List.mem_cons_self)
end
section
/-! ===== the engine's rows: one for each instruction ===== -/
def asl (B b : Nat) (al : List (Option Value)) : List (Nat × Value) := (List.range al.length).filterMap (fun i => match al[i]? with
  | some (some v) => some (i, cv B b v)
  | _ => none)
theorem asl_mem {B b : Nat} {al : List (Option Value)} {i : Nat} {w : Value} : (i, w) ∈ asl B b al ↔ ∃ v, al[i]? = some (some v) ∧ w = cv B b v := by
  unfold asl
  rw [List.mem_filterMap]
  constructor
  · rintro ⟨j, -, hj⟩
    split at hj
    next v hv =>
      have := Option.some.inj hj
      cases this
      exact ⟨v, hv, rfl⟩
    next => cases hj
  · rintro ⟨v, hv, rfl⟩
    refine ⟨i, List.mem_range.mpr (List.getElem?_eq_some_iff.mp hv).1, ?_⟩
    rw [hv]
theorem LR.has {B b nL : Nat} {al : List (Option Value)} {ls : Array Slot} (h : LR B b nL al ls) : lv_has ls nL (asl B b al) := by
  refine ⟨h.1, h.2.1, fun q hq => ?_⟩
  obtain ⟨i, w⟩ := q
  obtain ⟨v, hv, rfl⟩ := asl_mem.mp hq
  exact h.2.2 i v hv
def okS (al : List (Option Value)) (i : Nat) : Bool := match i with
  | 0 => true
  | j + 1 => match al[j]? with
    | some (some w) => w.category != 2
    | _ => true
theorem okS_not {al : List (Option Value)} {i j : Nat} {v : Value} (h : okS al i = true) (hj : al[j]? = some (some v)) : ¬ (j + 1 = i ∧ v.category = 2) := by
  rintro ⟨rfl, hc⟩
  simp [okS, hj, hc] at h
theorem LR.put1 {B b nL i : Nat} {al : List (Option Value)} {ls : Array Slot} {v : Value} (hk : okS al i = true) (h : lv_has ls nL ((i, cv B b v) :: (asl B b al).filter (fun q => !(q.1 == i) && !(q.1 + 1 == i && q.2.category == 2)))) : LR B b nL (al.set i (some v)) ls := by
  refine ⟨h.1, h.2.1, fun j w hj => ?_⟩
  by_cases e : j = i
  · subst e
    rw [List.getElem?_set_self'] at hj
    have hw : w = v := by
      cases ha : al[j]? with
      | none => rw [ha] at hj; cases hj
      | some x => rw [ha] at hj; simp at hj; exact hj.symm
    subst hw
    exact h.2.2 _ List.mem_cons_self
  · rw [List.getElem?_set_ne (fun z => e z.symm)] at hj
    refine h.2.2 (j, cv B b w) (List.mem_cons_of_mem _ (List.mem_filter.mpr ⟨asl_mem.mpr ⟨w, hj, rfl⟩, ?_⟩))
    have := okS_not hk hj
    simp only [cv_cat]
    by_cases hc : w.category = 2
    · have : ¬ j + 1 = i := fun z => this ⟨z, hc⟩
      simp [e, this]
    · simp [e, hc]
theorem LR.put2 {B b nL i : Nat} {al : List (Option Value)} {ls : Array Slot} {v : Value} (hk : okS al i = true) (h : lv_has ls nL ((i, cv B b v) :: (asl B b al).filter (fun q => !(q.1 == i) && (!(q.1 == i + 1) && !(q.1 + 1 == i && q.2.category == 2))))) : LR B b nL ((al.set i (some v)).set (i + 1) none) ls := by
  refine ⟨h.1, h.2.1, fun j w hj => ?_⟩
  by_cases e1 : j = i + 1
  · subst e1
    rw [List.getElem?_set_self'] at hj
    cases ha : (al.set i (some v))[i + 1]? with
    | none => rw [ha] at hj; cases hj
    | some x => rw [ha] at hj; simp at hj
  · rw [List.getElem?_set_ne (fun z => e1 z.symm)] at hj
    by_cases e : j = i
    · subst e
      rw [List.getElem?_set_self'] at hj
      have hw : w = v := by
        cases ha : al[j]? with
        | none => rw [ha] at hj; cases hj
        | some x => rw [ha] at hj; simp at hj; exact hj.symm
      subst hw
      exact h.2.2 _ List.mem_cons_self
    · rw [List.getElem?_set_ne (fun z => e z.symm)] at hj
      refine h.2.2 (j, cv B b w) (List.mem_cons_of_mem _ (List.mem_filter.mpr ⟨asl_mem.mpr ⟨w, hj, rfl⟩, ?_⟩))
      have := okS_not hk hj
      simp only [cv_cat]
      by_cases hc : w.category = 2
      · have : ¬ j + 1 = i := fun z => this ⟨z, hc⟩
        simp [e, e1, this]
      · simp [e, e1, hc]
theorem LR.drop {B b nL i : Nat} {al : List (Option Value)} {ls : Array Slot} (h : LR B b nL al ls) : LR B b nL (al.set i none) ls := by
  refine ⟨h.1, h.2.1, fun j w hj => ?_⟩
  by_cases e : j = i
  · subst e
    rw [List.getElem?_set_self'] at hj
    cases ha : al[j]? with
    | none => rw [ha] at hj; cases hj
    | some x => rw [ha] at hj; simp at hj
  · rw [List.getElem?_set_ne (fun z => e z.symm)] at hj
    exact h.2.2 j w hj
theorem LR.put0 {B b nL i a : Nat} {al : List (Option Value)} {ls : Array Slot} (hk : okS al i = true) (h : lv_has ls nL ((i, .ref a) :: (asl B b al).filter (fun q => !(q.1 == i) && !(q.1 + 1 == i && q.2.category == 2)))) : LR B b nL (al.set i none) ls := by
  refine ⟨h.1, h.2.1, fun j w hj => ?_⟩
  by_cases e : j = i
  · subst e
    rw [List.getElem?_set_self'] at hj
    cases ha : al[j]? with
    | none => rw [ha] at hj; cases hj
    | some x => rw [ha] at hj; simp at hj
  · rw [List.getElem?_set_ne (fun z => e z.symm)] at hj
    refine h.2.2 (j, cv B b w) (List.mem_cons_of_mem _ (List.mem_filter.mpr ⟨asl_mem.mpr ⟨w, hj, rfl⟩, ?_⟩))
    have := okS_not hk hj
    simp only [cv_cat]
    by_cases hc : w.category = 2
    · have : ¬ j + 1 = i := fun z => this ⟨z, hc⟩
      simp [e, this]
    · simp [e, hc]
section GRows
variable {l : Launch} {X : State → Nat → Nat → Prop} {md : MD} {d mc ms : Nat} {post : Post} {k n pc q : Nat} {al : List (Option Value)} {st : List Value} {N : NB} {h : EHp}

theorem g_iload_n {j : Fin 4} {i : Nat} {x : Int32} (hi : (j : Nat) = i) (hl : al[i]? = some (some (.int x))) (hd : decode md.2.1 pc = .ok (.iload_n j, 1)) (hq : pc + 1 = q) (kk : G l X md d mc ms post k n q al (.int x :: st) N h) : G l X md d mc ms post k n pc al (st) N h := by
  subst hq
  intro p e s m args below meth c D tc B b H locs ls Q hC hE hX hH hL hK hQ
  exact lv_iload_n hC.1 hC.2.1 hd hi (hL.2.2 i _ hl) (kk p e s m args below meth c D tc B b H locs ls Q hC hE hX hH hL hK hQ)
theorem g_iload {i : Nat} {x : Int32} (hl : al[i]? = some (some (.int x))) (hd : decode md.2.1 pc = .ok (.iload i, 2)) (hq : pc + 2 = q) (kk : G l X md d mc ms post k n q al (.int x :: st) N h) : G l X md d mc ms post k n pc al (st) N h := by
  subst hq
  intro p e s m args below meth c D tc B b H locs ls Q hC hE hX hH hL hK hQ
  exact lv_iload hC.1 hC.2.1 hd (hL.2.2 i _ hl) (kk p e s m args below meth c D tc B b H locs ls Q hC hE hX hH hL hK hQ)
theorem g_lload_n {j : Fin 4} {i : Nat} {x : Int64} (hi : (j : Nat) = i) (hl : al[i]? = some (some (.long x))) (hd : decode md.2.1 pc = .ok (.lload_n j, 1)) (hq : pc + 1 = q) (kk : G l X md d mc ms post k n q al (.long x :: st) N h) : G l X md d mc ms post k n pc al (st) N h := by
  subst hq
  intro p e s m args below meth c D tc B b H locs ls Q hC hE hX hH hL hK hQ
  exact lv_lload_n hC.1 hC.2.1 hd hi (hL.2.2 i _ hl) (kk p e s m args below meth c D tc B b H locs ls Q hC hE hX hH hL hK hQ)
theorem g_lload {i : Nat} {x : Int64} (hl : al[i]? = some (some (.long x))) (hd : decode md.2.1 pc = .ok (.lload i, 2)) (hq : pc + 2 = q) (kk : G l X md d mc ms post k n q al (.long x :: st) N h) : G l X md d mc ms post k n pc al (st) N h := by
  subst hq
  intro p e s m args below meth c D tc B b H locs ls Q hC hE hX hH hL hK hQ
  exact lv_lload hC.1 hC.2.1 hd (hL.2.2 i _ hl) (kk p e s m args below meth c D tc B b H locs ls Q hC hE hX hH hL hK hQ)
theorem g_dload {i : Nat} {x : UInt64} (hl : al[i]? = some (some (.double x))) (hd : decode md.2.1 pc = .ok (.dload i, 2)) (hq : pc + 2 = q) (kk : G l X md d mc ms post k n q al (.double x :: st) N h) : G l X md d mc ms post k n pc al (st) N h := by
  subst hq
  intro p e s m args below meth c D tc B b H locs ls Q hC hE hX hH hL hK hQ
  exact lv_dload hC.1 hC.2.1 hd (hL.2.2 i _ hl) (kk p e s m args below meth c D tc B b H locs ls Q hC hE hX hH hL hK hQ)
theorem g_aload_n {j : Fin 4} {i : Nat} {x : Nat} (hi : (j : Nat) = i) (hl : al[i]? = some (some (.ref x))) (hd : decode md.2.1 pc = .ok (.aload_n j, 1)) (hq : pc + 1 = q) (kk : G l X md d mc ms post k n q al (.ref x :: st) N h) : G l X md d mc ms post k n pc al (st) N h := by
  subst hq
  intro p e s m args below meth c D tc B b H locs ls Q hC hE hX hH hL hK hQ
  exact lv_aload_n hC.1 hC.2.1 hd hi (hL.2.2 i _ hl) (kk p e s m args below meth c D tc B b H locs ls Q hC hE hX hH hL hK hQ)
theorem g_aload {i : Nat} {x : Nat} (hl : al[i]? = some (some (.ref x))) (hd : decode md.2.1 pc = .ok (.aload i, 2)) (hq : pc + 2 = q) (kk : G l X md d mc ms post k n q al (.ref x :: st) N h) : G l X md d mc ms post k n pc al (st) N h := by
  subst hq
  intro p e s m args below meth c D tc B b H locs ls Q hC hE hX hH hL hK hQ
  exact lv_aload hC.1 hC.2.1 hd (hL.2.2 i _ hl) (kk p e s m args below meth c D tc B b H locs ls Q hC hE hX hH hL hK hQ)
theorem g_aload_s {j : Fin 4} {i : Nat} {x : UInt32} (hi : (j : Nat) = i) (hl : al[i]? = some (some (.float x))) (hd : decode md.2.1 pc = .ok (.aload_n j, 1)) (hq : pc + 1 = q) (kk : G l X md d mc ms post k n q al (.float x :: st) N h) : G l X md d mc ms post k n pc al (st) N h := by
  subst hq
  intro p e s m args below meth c D tc B b H locs ls Q hC hE hX hH hL hK hQ
  exact lv_aload_n hC.1 hC.2.1 hd hi (hL.2.2 i _ hl) (kk p e s m args below meth c D tc B b H locs ls Q hC hE hX hH hL hK hQ)
theorem g_iconst {z : Int} (hd : decode md.2.1 pc = .ok (.iconst z, 1)) (hq : pc + 1 = q) (kk : G l X md d mc ms post k n q al (.int (iI z) :: st) N h) : G l X md d mc ms post k n pc al (st) N h := by
  subst hq
  intro p e s m args below meth c D tc B b H locs ls Q hC hE hX hH hL hK hQ
  exact lv_iconst hC.1 hC.2.1 hd rfl (kk p e s m args below meth c D tc B b H locs ls Q hC hE hX hH hL hK hQ)
theorem g_bipush {z : Int} (hz : (Int8.ofInt z).toInt32 = iI z) (hd : decode md.2.1 pc = .ok (.bipush z, 2)) (hq : pc + 2 = q) (kk : G l X md d mc ms post k n q al (.int (iI z) :: st) N h) : G l X md d mc ms post k n pc al (st) N h := by
  subst hq
  intro p e s m args below meth c D tc B b H locs ls Q hC hE hX hH hL hK hQ
  exact lv_bipush hC.1 hC.2.1 hd hz (kk p e s m args below meth c D tc B b H locs ls Q hC hE hX hH hL hK hQ)
theorem g_sipush {z : Int} (hz : (Int16.ofInt z).toInt32 = iI z) (hd : decode md.2.1 pc = .ok (.sipush z, 3)) (hq : pc + 3 = q) (kk : G l X md d mc ms post k n q al (.int (iI z) :: st) N h) : G l X md d mc ms post k n pc al (st) N h := by
  subst hq
  intro p e s m args below meth c D tc B b H locs ls Q hC hE hX hH hL hK hQ
  exact lv_sipush hC.1 hC.2.1 hd hz (kk p e s m args below meth c D tc B b H locs ls Q hC hE hX hH hL hK hQ)
theorem g_ldc {ix : Nat} {z : Int} (hw : Cond.constant md.1.cls ix (iI z) ∈ LT) (hd : decode md.2.1 pc = .ok (.ldc ix, 2)) (hq : pc + 2 = q) (kk : G l X md d mc ms post k n q al (.int (iI z) :: st) N h) : G l X md d mc ms post k n pc al (st) N h := by
  subst hq
  intro p e s m args below meth c D tc B b H locs ls Q hC hE hX hH hL hK hQ
  exact lv_ldc hC.1 hC.2.1 hC.2.2.2.2.1 (hC.2.2.2.2.2.1 _ hw) hd (kk p e s m args below meth c D tc B b H locs ls Q hC hE hX hH hL hK hQ)
theorem g_ldc2 {ix : Nat} {z : Int64} (hw : Cond.constantLong md.1.cls ix z ∈ LT) (hd : decode md.2.1 pc = .ok (.ldc2_w ix, 3)) (hq : pc + 3 = q) (kk : G l X md d mc ms post k n q al (.long z :: st) N h) : G l X md d mc ms post k n pc al (st) N h := by
  subst hq
  intro p e s m args below meth c D tc B b H locs ls Q hC hE hX hH hL hK hQ
  exact lv_ldc2 hC.1 hC.2.1 hC.2.2.2.2.1 (hC.2.2.2.2.2.1 _ hw) hd (kk p e s m args below meth c D tc B b H locs ls Q hC hE hX hH hL hK hQ)
theorem g_dconst0  (hd : decode md.2.1 pc = .ok (.dconst 0, 1)) (hq : pc + 1 = q) (kk : G l X md d mc ms post k n q al (.double FP.dconst0 :: st) N h) : G l X md d mc ms post k n pc al (st) N h := by
  subst hq
  intro p e s m args below meth c D tc B b H locs ls Q hC hE hX hH hL hK hQ
  exact lv_dconst0 hC.1 hC.2.1 hd (kk p e s m args below meth c D tc B b H locs ls Q hC hE hX hH hL hK hQ)
theorem g_iadd {x y : Int} (hd : decode md.2.1 pc = .ok (.iadd, 1)) (hq : pc + 1 = q) (kk : G l X md d mc ms post k n q al (.int (iI (x + y)) :: st) N h) : G l X md d mc ms post k n pc al (.int (iI y) :: .int (iI x) :: st) N h := by
  subst hq
  intro p e s m args below meth c D tc B b H locs ls Q hC hE hX hH hL hK hQ
  refine lv_iadd hC.1 hC.2.1 hd ?_
  rw [iI_add]
  exact kk p e s m args below meth c D tc B b H locs ls Q hC hE hX hH hL hK hQ
theorem g_isub {x y : Int} (hd : decode md.2.1 pc = .ok (.isub, 1)) (hq : pc + 1 = q) (kk : G l X md d mc ms post k n q al (.int (iI (x - y)) :: st) N h) : G l X md d mc ms post k n pc al (.int (iI y) :: .int (iI x) :: st) N h := by
  subst hq
  intro p e s m args below meth c D tc B b H locs ls Q hC hE hX hH hL hK hQ
  refine lv_isub hC.1 hC.2.1 hd ?_
  rw [iI_sub]
  exact kk p e s m args below meth c D tc B b H locs ls Q hC hE hX hH hL hK hQ
theorem g_imul {x y : Int} (hd : decode md.2.1 pc = .ok (.imul, 1)) (hq : pc + 1 = q) (kk : G l X md d mc ms post k n q al (.int (iI (x * y)) :: st) N h) : G l X md d mc ms post k n pc al (.int (iI y) :: .int (iI x) :: st) N h := by
  subst hq
  intro p e s m args below meth c D tc B b H locs ls Q hC hE hX hH hL hK hQ
  refine lv_imul hC.1 hC.2.1 hd ?_
  rw [iI_mul]
  exact kk p e s m args below meth c D tc B b H locs ls Q hC hE hX hH hL hK hQ
theorem g_idiv {x y : Int} (hx0 : 0 ≤ x) (hx1 : x < 2147483648) (hy0 : 0 < y) (hy1 : y < 2147483648) (hd : decode md.2.1 pc = .ok (.idiv, 1)) (hq : pc + 1 = q) (kk : G l X md d mc ms post k n q al (.int (iI (x / y)) :: st) N h) : G l X md d mc ms post k n pc al (.int (iI y) :: .int (iI x) :: st) N h := by
  subst hq
  intro p e s m args below meth c D tc B b H locs ls Q hC hE hX hH hL hK hQ
  refine lv_idiv hC.1 hC.2.1 hd (fun z => by rw [iI_0, iI_eq ⟨by omega, hy1⟩ (by decide)] at z; omega) ?_
  rw [iI_div hx0 hx1 hy0 hy1]
  exact kk p e s m args below meth c D tc B b H locs ls Q hC hE hX hH hL hK hQ
theorem g_irem {x y : Int} (hx0 : 0 ≤ x) (hx1 : x < 2147483648) (hy0 : 0 < y) (hy1 : y < 2147483648) (hd : decode md.2.1 pc = .ok (.irem, 1)) (hq : pc + 1 = q) (kk : G l X md d mc ms post k n q al (.int (iI (x % y)) :: st) N h) : G l X md d mc ms post k n pc al (.int (iI y) :: .int (iI x) :: st) N h := by
  subst hq
  intro p e s m args below meth c D tc B b H locs ls Q hC hE hX hH hL hK hQ
  refine lv_irem hC.1 hC.2.1 hd (fun z => by rw [iI_0, iI_eq ⟨by omega, hy1⟩ (by decide)] at z; omega) ?_
  rw [iI_rem hx0 hx1 hy0 hy1]
  exact kk p e s m args below meth c D tc B b H locs ls Q hC hE hX hH hL hK hQ
theorem g_ishr {x : Int} {y : Nat} (hx0 : 0 ≤ x) (hx1 : x < 2147483648) (hy : y < 32) (hd : decode md.2.1 pc = .ok (.ishr, 1)) (hq : pc + 1 = q) (kk : G l X md d mc ms post k n q al (.int (iI (x / 2 ^ y)) :: st) N h) : G l X md d mc ms post k n pc al (.int (iI y) :: .int (iI x) :: st) N h := by
  subst hq
  intro p e s m args below meth c D tc B b H locs ls Q hC hE hX hH hL hK hQ
  refine lv_ishr hC.1 hC.2.1 hd ?_
  rw [iI_shr hx0 hx1 hy]
  exact kk p e s m args below meth c D tc B b H locs ls Q hC hE hX hH hL hK hQ
theorem g_ishl {x : Int} {y : Nat} (hx0 : 0 ≤ x) (hx1 : x * 2 ^ y < 2147483648) (hy : y < 32) (hd : decode md.2.1 pc = .ok (.ishl, 1)) (hq : pc + 1 = q) (kk : G l X md d mc ms post k n q al (.int (iI (x * 2 ^ y)) :: st) N h) : G l X md d mc ms post k n pc al (.int (iI y) :: .int (iI x) :: st) N h := by
  subst hq
  intro p e s m args below meth c D tc B b H locs ls Q hC hE hX hH hL hK hQ
  refine lv_ishl hC.1 hC.2.1 hd ?_
  rw [iI_shl hx0 hx1 hy]
  exact kk p e s m args below meth c D tc B b H locs ls Q hC hE hX hH hL hK hQ
theorem g_iand1 {x : Int} (hx0 : 0 ≤ x) (hx1 : x < 2147483648) (hd : decode md.2.1 pc = .ok (.iand, 1)) (hq : pc + 1 = q) (kk : G l X md d mc ms post k n q al (.int (iI (x % 2)) :: st) N h) : G l X md d mc ms post k n pc al (.int (iI 1) :: .int (iI x) :: st) N h := by
  subst hq
  intro p e s m args below meth c D tc B b H locs ls Q hC hE hX hH hL hK hQ
  refine lv_iand hC.1 hC.2.1 hd ?_
  rw [iI_and1 hx0 hx1]
  exact kk p e s m args below meth c D tc B b H locs ls Q hC hE hX hH hL hK hQ
theorem g_iand {x y : Int32} (hd : decode md.2.1 pc = .ok (.iand, 1)) (hq : pc + 1 = q) (kk : G l X md d mc ms post k n q al (.int (x &&& y) :: st) N h) : G l X md d mc ms post k n pc al (.int y :: .int x :: st) N h := by
  subst hq
  intro p e s m args below meth c D tc B b H locs ls Q hC hE hX hH hL hK hQ
  exact lv_iand hC.1 hC.2.1 hd (kk p e s m args below meth c D tc B b H locs ls Q hC hE hX hH hL hK hQ)
theorem g_ior01 {x y : Int} (hx0 : x = 0 ∨ x = 1) (hy0 : y = 0 ∨ y = 1) (hd : decode md.2.1 pc = .ok (.ior, 1)) (hq : pc + 1 = q) (kk : G l X md d mc ms post k n q al (.int (iI (if x = 0 then y else 1)) :: st) N h) : G l X md d mc ms post k n pc al (.int (iI y) :: .int (iI x) :: st) N h := by
  subst hq
  intro p e s m args below meth c D tc B b H locs ls Q hC hE hX hH hL hK hQ
  refine lv_ior hC.1 hC.2.1 hd ?_
  rw [iI_or01 hx0 hy0]
  exact kk p e s m args below meth c D tc B b H locs ls Q hC hE hX hH hL hK hQ
theorem g_i2l {x : Int32} (hd : decode md.2.1 pc = .ok (.i2l, 1)) (hq : pc + 1 = q) (kk : G l X md d mc ms post k n q al (.long x.toInt64 :: st) N h) : G l X md d mc ms post k n pc al (.int x :: st) N h := by
  subst hq
  intro p e s m args below meth c D tc B b H locs ls Q hC hE hX hH hL hK hQ
  exact lv_i2l hC.1 hC.2.1 hd rfl (kk p e s m args below meth c D tc B b H locs ls Q hC hE hX hH hL hK hQ)
theorem g_i2d {x : Int32} (hd : decode md.2.1 pc = .ok (.i2d, 1)) (hq : pc + 1 = q) (kk : G l X md d mc ms post k n q al (.double (FP.i2d x) :: st) N h) : G l X md d mc ms post k n pc al (.int x :: st) N h := by
  subst hq
  intro p e s m args below meth c D tc B b H locs ls Q hC hE hX hH hL hK hQ
  exact lv_i2d hC.1 hC.2.1 hd (kk p e s m args below meth c D tc B b H locs ls Q hC hE hX hH hL hK hQ)
theorem g_ladd {x y : Int64} (hd : decode md.2.1 pc = .ok (.ladd, 1)) (hq : pc + 1 = q) (kk : G l X md d mc ms post k n q al (.long (x + y) :: st) N h) : G l X md d mc ms post k n pc al (.long y :: .long x :: st) N h := by
  subst hq
  intro p e s m args below meth c D tc B b H locs ls Q hC hE hX hH hL hK hQ
  exact lv_ladd hC.1 hC.2.1 hd (kk p e s m args below meth c D tc B b H locs ls Q hC hE hX hH hL hK hQ)
theorem g_lmul {x y : Int64} (hd : decode md.2.1 pc = .ok (.lmul, 1)) (hq : pc + 1 = q) (kk : G l X md d mc ms post k n q al (.long (x * y) :: st) N h) : G l X md d mc ms post k n pc al (.long y :: .long x :: st) N h := by
  subst hq
  intro p e s m args below meth c D tc B b H locs ls Q hC hE hX hH hL hK hQ
  exact lv_lmul hC.1 hC.2.1 hd (kk p e s m args below meth c D tc B b H locs ls Q hC hE hX hH hL hK hQ)
theorem g_lcmp {x y : Int64} (hd : decode md.2.1 pc = .ok (.lcmp, 1)) (hq : pc + 1 = q) (kk : G l X md d mc ms post k n q al (.int (lg_cmp x y) :: st) N h) : G l X md d mc ms post k n pc al (.long y :: .long x :: st) N h := by
  subst hq
  intro p e s m args below meth c D tc B b H locs ls Q hC hE hX hH hL hK hQ
  exact W.lcmp hC.1 hC.2.1 hd (kk p e s m args below meth c D tc B b H locs ls Q hC hE hX hH hL hK hQ)
theorem g_ddiv {x y : UInt64} (hn : vf_n64 (FP.ddiv x y)) (hd : decode md.2.1 pc = .ok (.ddiv, 1)) (hq : pc + 1 = q) (kk : G l X md d mc ms post k n q al (.double (FP.ddiv x y) :: st) N h) : G l X md d mc ms post k n pc al (.double y :: .double x :: st) N h := by
  subst hq
  intro p e s m args below meth c D tc B b H locs ls Q hC hE hX hH hL hK hQ
  exact lv_ddiv hC.1 hC.2.1 hd hn (kk p e s m args below meth c D tc B b H locs ls Q hC hE hX hH hL hK hQ)
theorem g_dcmp {x y : UInt64} {op : CmpOp} (hd : decode md.2.1 pc = .ok (.dcmp op, 1)) (hq : pc + 1 = q) (kk : G l X md d mc ms post k n q al (.int (Op.cmpValue (FP.dcmp x y) op) :: st) N h) : G l X md d mc ms post k n pc al (.double y :: .double x :: st) N h := by
  subst hq
  intro p e s m args below meth c D tc B b H locs ls Q hC hE hX hH hL hK hQ
  exact lv_dcmp hC.1 hC.2.1 hd (kk p e s m args below meth c D tc B b H locs ls Q hC hE hX hH hL hK hQ)
theorem g_dup {v : Value} (hv : v.category = 1) (hd : decode md.2.1 pc = .ok (.dup, 1)) (hq : pc + 1 = q) (kk : G l X md d mc ms post k n q al (v :: v :: st) N h) : G l X md d mc ms post k n pc al (v :: st) N h := by
  subst hq
  intro p e s m args below meth c D tc B b H locs ls Q hC hE hX hH hL hK hQ
  exact lv_dup hC.1 hC.2.1 hd ((cv_cat B b v).trans hv) (kk p e s m args below meth c D tc B b H locs ls Q hC hE hX hH hL hK hQ)
theorem g_dup2 {v u : Value} (hv : v.category = 1) (hu : u.category = 1) (hd : decode md.2.1 pc = .ok (.dup2, 1)) (hq : pc + 1 = q) (kk : G l X md d mc ms post k n q al (v :: u :: v :: u :: st) N h) : G l X md d mc ms post k n pc al (v :: u :: st) N h := by
  subst hq
  intro p e s m args below meth c D tc B b H locs ls Q hC hE hX hH hL hK hQ
  exact lv_dup2_11 hC.1 hC.2.1 hd ((cv_cat B b v).trans hv) ((cv_cat B b u).trans hu) (kk p e s m args below meth c D tc B b H locs ls Q hC hE hX hH hL hK hQ)
theorem g_pop {v : Value} (hv : v.category = 1) (hd : decode md.2.1 pc = .ok (.pop, 1)) (hq : pc + 1 = q) (kk : G l X md d mc ms post k n q al (st) N h) : G l X md d mc ms post k n pc al (v :: st) N h := by
  subst hq
  intro p e s m args below meth c D tc B b H locs ls Q hC hE hX hH hL hK hQ
  exact lv_pop hC.1 hC.2.1 hd ((cv_cat B b v).trans hv) (kk p e s m args below meth c D tc B b H locs ls Q hC hE hX hH hL hK hQ)
theorem g_istore_n {j : Fin 4} {i : Nat} {x : Int32} {al2 : List (Option Value)} (hi : (j : Nat) = i) (hi2 : i < md.2.2.1) (hk : okS al i = true) (ha : (al.set i (some (.int x))) = al2) (hd : decode md.2.1 pc = .ok (.istore_n j, 1)) (hq : pc + 1 = q) (kk : G l X md d mc ms post k n q al2 st N h) : G l X md d mc ms post k n pc al (.int x :: st) N h := by
  subst hq ha
  intro p e s m args below meth c D tc B b H locs ls Q hC hE hX hH hL hK hQ
  exact lv_istore_n hC.1 hC.2.1 hd hi hL.has hi2 rfl (fun ls' hl' => kk p e s m args below meth c D tc B b H locs ls' Q hC hE hX hH (LR.put1 (v := .int x) hk hl') hK hQ)
theorem g_istore {i : Nat} {x : Int32} {al2 : List (Option Value)} (hi2 : i < md.2.2.1) (hk : okS al i = true) (ha : (al.set i (some (.int x))) = al2) (hd : decode md.2.1 pc = .ok (.istore i, 2)) (hq : pc + 2 = q) (kk : G l X md d mc ms post k n q al2 st N h) : G l X md d mc ms post k n pc al (.int x :: st) N h := by
  subst hq ha
  intro p e s m args below meth c D tc B b H locs ls Q hC hE hX hH hL hK hQ
  exact lv_istore hC.1 hC.2.1 hd hL.has hi2 rfl (fun ls' hl' => kk p e s m args below meth c D tc B b H locs ls' Q hC hE hX hH (LR.put1 (v := .int x) hk hl') hK hQ)
theorem g_astore_n {j : Fin 4} {i : Nat} {x : Nat} {al2 : List (Option Value)} (hi : (j : Nat) = i) (hi2 : i < md.2.2.1) (hk : okS al i = true) (ha : (al.set i (some (.ref x))) = al2) (hd : decode md.2.1 pc = .ok (.astore_n j, 1)) (hq : pc + 1 = q) (kk : G l X md d mc ms post k n q al2 st N h) : G l X md d mc ms post k n pc al (.ref x :: st) N h := by
  subst hq ha
  intro p e s m args below meth c D tc B b H locs ls Q hC hE hX hH hL hK hQ
  exact lv_astore_n hC.1 hC.2.1 hd hi hL.has hi2 rfl (fun ls' hl' => kk p e s m args below meth c D tc B b H locs ls' Q hC hE hX hH (LR.put1 (v := .ref x) hk hl') hK hQ)
theorem g_astore {i : Nat} {x : Nat} {al2 : List (Option Value)} (hi2 : i < md.2.2.1) (hk : okS al i = true) (ha : (al.set i (some (.ref x))) = al2) (hd : decode md.2.1 pc = .ok (.astore i, 2)) (hq : pc + 2 = q) (kk : G l X md d mc ms post k n q al2 st N h) : G l X md d mc ms post k n pc al (.ref x :: st) N h := by
  subst hq ha
  intro p e s m args below meth c D tc B b H locs ls Q hC hE hX hH hL hK hQ
  exact lv_astore hC.1 hC.2.1 hd hL.has hi2 rfl (fun ls' hl' => kk p e s m args below meth c D tc B b H locs ls' Q hC hE hX hH (LR.put1 (v := .ref x) hk hl') hK hQ)
theorem g_lstore_n {j : Fin 4} {i : Nat} {x : Int64} {al2 : List (Option Value)} (hi : (j : Nat) = i) (hi2 : i + 1 < md.2.2.1) (hk : okS al i = true) (ha : ((al.set i (some (.long x))).set (i + 1) none) = al2) (hd : decode md.2.1 pc = .ok (.lstore_n j, 1)) (hq : pc + 1 = q) (kk : G l X md d mc ms post k n q al2 st N h) : G l X md d mc ms post k n pc al (.long x :: st) N h := by
  subst hq ha
  intro p e s m args below meth c D tc B b H locs ls Q hC hE hX hH hL hK hQ
  exact lv_lstore_n hC.1 hC.2.1 hd hi hL.has hi2 rfl (fun ls' hl' => kk p e s m args below meth c D tc B b H locs ls' Q hC hE hX hH (LR.put2 (v := .long x) hk hl') hK hQ)
theorem g_lstore {i : Nat} {x : Int64} {al2 : List (Option Value)} (hi2 : i + 1 < md.2.2.1) (hk : okS al i = true) (ha : ((al.set i (some (.long x))).set (i + 1) none) = al2) (hd : decode md.2.1 pc = .ok (.lstore i, 2)) (hq : pc + 2 = q) (kk : G l X md d mc ms post k n q al2 st N h) : G l X md d mc ms post k n pc al (.long x :: st) N h := by
  subst hq ha
  intro p e s m args below meth c D tc B b H locs ls Q hC hE hX hH hL hK hQ
  exact lv_lstore hC.1 hC.2.1 hd hL.has hi2 rfl (fun ls' hl' => kk p e s m args below meth c D tc B b H locs ls' Q hC hE hX hH (LR.put2 (v := .long x) hk hl') hK hQ)
theorem g_dstore {i : Nat} {x : UInt64} {al2 : List (Option Value)} (hi2 : i + 1 < md.2.2.1) (hk : okS al i = true) (ha : ((al.set i (some (.double x))).set (i + 1) none) = al2) (hd : decode md.2.1 pc = .ok (.dstore i, 2)) (hq : pc + 2 = q) (kk : G l X md d mc ms post k n q al2 st N h) : G l X md d mc ms post k n pc al (.double x :: st) N h := by
  subst hq ha
  intro p e s m args below meth c D tc B b H locs ls Q hC hE hX hH hL hK hQ
  exact lv_dstore hC.1 hC.2.1 hd hL.has hi2 rfl (fun ls' hl' => kk p e s m args below meth c D tc B b H locs ls' Q hC hE hX hH (LR.put2 (v := .double x) hk hl') hK hQ)
theorem g_iinc {i : Nat} {x z : Int} {al2 : List (Option Value)} (hl : al[i]? = some (some (.int (iI x)))) (hi2 : i < md.2.2.1) (hk : okS al i = true) (ha : al.set i (some (.int (iI (x + z)))) = al2) (hd : decode md.2.1 pc = .ok (.iinc i z, 3)) (hq : pc + 3 = q) (kk : G l X md d mc ms post k n q al2 st N h) : G l X md d mc ms post k n pc al st N h := by
  subst hq ha
  intro p e s m args below meth c D tc B b H locs ls Q hC hE hX hH hL hK hQ
  obtain ⟨j, hj⟩ := List.getElem?_of_mem (asl_mem (B := B) (b := b) (w := .int (iI x)) |>.mpr ⟨_, hl, rfl⟩)
  exact lv_iinc (v := iI (x + z)) hC.1 hC.2.1 hd hL.has hj (iI_add x z) hi2 rfl (fun ls' hl' => kk p e s m args below meth c D tc B b H locs ls' Q hC hE hX hH (LR.put1 (v := .int (iI (x + z))) hk hl') hK hQ)
theorem g_goto {off : Int} (hd : decode md.2.1 pc = .ok (.goto off, 3)) (hq : (pc : Int) + off = (q : Int)) (kk : G l X md d mc ms post k n q al st N h) : G l X md d mc ms post k n pc al st N h := by
  intro p e s m args below meth c D tc B b H locs ls Q hC hE hX hH hL hK hQ
  exact lv_goto hC.1 hC.2.1 hd hq (kk p e s m args below meth c D tc B b H locs ls Q hC hE hX hH hL hK hQ)
theorem g_icmp_lt {off : Int} {t : Nat} {x y : Int} (hx : IR x) (hy : IR y) (hd : decode md.2.1 pc = .ok (.if_icmp .lt off, 3)) (ht : (pc : Int) + off = (t : Int)) (hq : pc + 3 = q) (kt : x < y → G l X md d mc ms post k n t al st N h) (kf : y ≤ x → G l X md d mc ms post k n q al st N h) : G l X md d mc ms post k n pc al (.int (iI y) :: .int (iI x) :: st) N h := by
  subst hq
  intro p e s m args below meth c D tc B b H locs ls Q hC hE hX hH hL hK hQ
  exact lv_icmp_lt hC.1 hC.2.1 hd ht (fun z => kt ((iI_lt hx hy).mp z) p e s m args below meth c D tc B b H locs ls Q hC hE hX hH hL hK hQ) (fun z => kf (Int.not_lt.mp (fun y9 => z ((iI_lt hx hy).mpr y9))) p e s m args below meth c D tc B b H locs ls Q hC hE hX hH hL hK hQ)
theorem g_icmp_le {off : Int} {t : Nat} {x y : Int} (hx : IR x) (hy : IR y) (hd : decode md.2.1 pc = .ok (.if_icmp .le off, 3)) (ht : (pc : Int) + off = (t : Int)) (hq : pc + 3 = q) (kt : x ≤ y → G l X md d mc ms post k n t al st N h) (kf : y < x → G l X md d mc ms post k n q al st N h) : G l X md d mc ms post k n pc al (.int (iI y) :: .int (iI x) :: st) N h := by
  subst hq
  intro p e s m args below meth c D tc B b H locs ls Q hC hE hX hH hL hK hQ
  exact lv_icmp_le hC.1 hC.2.1 hd ht (fun z => kt ((iI_le hx hy).mp z) p e s m args below meth c D tc B b H locs ls Q hC hE hX hH hL hK hQ) (fun z => kf (Int.not_le.mp (fun y9 => z ((iI_le hx hy).mpr y9))) p e s m args below meth c D tc B b H locs ls Q hC hE hX hH hL hK hQ)
theorem g_icmp_gt {off : Int} {t : Nat} {x y : Int} (hx : IR x) (hy : IR y) (hd : decode md.2.1 pc = .ok (.if_icmp .gt off, 3)) (ht : (pc : Int) + off = (t : Int)) (hq : pc + 3 = q) (kt : y < x → G l X md d mc ms post k n t al st N h) (kf : x ≤ y → G l X md d mc ms post k n q al st N h) : G l X md d mc ms post k n pc al (.int (iI y) :: .int (iI x) :: st) N h := by
  subst hq
  intro p e s m args below meth c D tc B b H locs ls Q hC hE hX hH hL hK hQ
  exact lv_icmp_gt hC.1 hC.2.1 hd ht (fun z => kt ((iI_lt hy hx).mp z) p e s m args below meth c D tc B b H locs ls Q hC hE hX hH hL hK hQ) (fun z => kf (Int.not_lt.mp (fun y9 => z ((iI_lt hy hx).mpr y9))) p e s m args below meth c D tc B b H locs ls Q hC hE hX hH hL hK hQ)
theorem g_icmp_ge {off : Int} {t : Nat} {x y : Int} (hx : IR x) (hy : IR y) (hd : decode md.2.1 pc = .ok (.if_icmp .ge off, 3)) (ht : (pc : Int) + off = (t : Int)) (hq : pc + 3 = q) (kt : y ≤ x → G l X md d mc ms post k n t al st N h) (kf : x < y → G l X md d mc ms post k n q al st N h) : G l X md d mc ms post k n pc al (.int (iI y) :: .int (iI x) :: st) N h := by
  subst hq
  intro p e s m args below meth c D tc B b H locs ls Q hC hE hX hH hL hK hQ
  exact lv_icmp_ge hC.1 hC.2.1 hd ht (fun z => kt ((iI_le hy hx).mp z) p e s m args below meth c D tc B b H locs ls Q hC hE hX hH hL hK hQ) (fun z => kf (Int.not_le.mp (fun y9 => z ((iI_le hy hx).mpr y9))) p e s m args below meth c D tc B b H locs ls Q hC hE hX hH hL hK hQ)
theorem g_icmp_eq {off : Int} {t : Nat} {x y : Int} (hx : IR x) (hy : IR y) (hd : decode md.2.1 pc = .ok (.if_icmp .eq off, 3)) (ht : (pc : Int) + off = (t : Int)) (hq : pc + 3 = q) (kt : x = y → G l X md d mc ms post k n t al st N h) (kf : x ≠ y → G l X md d mc ms post k n q al st N h) : G l X md d mc ms post k n pc al (.int (iI y) :: .int (iI x) :: st) N h := by
  subst hq
  intro p e s m args below meth c D tc B b H locs ls Q hC hE hX hH hL hK hQ
  exact lv_icmp_eq hC.1 hC.2.1 hd ht (fun z => kt ((iI_eq hx hy).mp z) p e s m args below meth c D tc B b H locs ls Q hC hE hX hH hL hK hQ) (fun z => kf (fun y9 => z ((iI_eq hx hy).mpr y9)) p e s m args below meth c D tc B b H locs ls Q hC hE hX hH hL hK hQ)
theorem g_icmp_ne {off : Int} {t : Nat} {x y : Int} (hx : IR x) (hy : IR y) (hd : decode md.2.1 pc = .ok (.if_icmp .ne off, 3)) (ht : (pc : Int) + off = (t : Int)) (hq : pc + 3 = q) (kt : x ≠ y → G l X md d mc ms post k n t al st N h) (kf : x = y → G l X md d mc ms post k n q al st N h) : G l X md d mc ms post k n pc al (.int (iI y) :: .int (iI x) :: st) N h := by
  subst hq
  intro p e s m args below meth c D tc B b H locs ls Q hC hE hX hH hL hK hQ
  exact lv_icmp_ne hC.1 hC.2.1 hd ht (fun z => kt (fun y9 => z ((iI_eq hx hy).mpr y9)) p e s m args below meth c D tc B b H locs ls Q hC hE hX hH hL hK hQ) (fun z => kf ((iI_eq hx hy).mp z) p e s m args below meth c D tc B b H locs ls Q hC hE hX hH hL hK hQ)
theorem g_if_eq {off : Int} {t : Nat} {x : Int} (hx : IR x) (hd : decode md.2.1 pc = .ok (.ifCond .eq off, 3)) (ht : (pc : Int) + off = (t : Int)) (hq : pc + 3 = q) (kt : x = 0 → G l X md d mc ms post k n t al st N h) (kf : x ≠ 0 → G l X md d mc ms post k n q al st N h) : G l X md d mc ms post k n pc al (.int (iI x) :: st) N h := by
  subst hq
  intro p e s m args below meth c D tc B b H locs ls Q hC hE hX hH hL hK hQ
  exact lv_if_eq hC.1 hC.2.1 hd ht (fun z => kt ((iI_eq0 hx).mp z) p e s m args below meth c D tc B b H locs ls Q hC hE hX hH hL hK hQ) (fun z => kf (fun y9 => z ((iI_eq0 hx).mpr y9)) p e s m args below meth c D tc B b H locs ls Q hC hE hX hH hL hK hQ)
theorem g_if_ne {off : Int} {t : Nat} {x : Int} (hx : IR x) (hd : decode md.2.1 pc = .ok (.ifCond .ne off, 3)) (ht : (pc : Int) + off = (t : Int)) (hq : pc + 3 = q) (kt : x ≠ 0 → G l X md d mc ms post k n t al st N h) (kf : x = 0 → G l X md d mc ms post k n q al st N h) : G l X md d mc ms post k n pc al (.int (iI x) :: st) N h := by
  subst hq
  intro p e s m args below meth c D tc B b H locs ls Q hC hE hX hH hL hK hQ
  exact lv_if_ne hC.1 hC.2.1 hd ht (fun z => kt (fun y9 => z ((iI_eq0 hx).mpr y9)) p e s m args below meth c D tc B b H locs ls Q hC hE hX hH hL hK hQ) (fun z => kf ((iI_eq0 hx).mp z) p e s m args below meth c D tc B b H locs ls Q hC hE hX hH hL hK hQ)
theorem g_if_lt {off : Int} {t : Nat} {x : Int} (hx : IR x) (hd : decode md.2.1 pc = .ok (.ifCond .lt off, 3)) (ht : (pc : Int) + off = (t : Int)) (hq : pc + 3 = q) (kt : x < 0 → G l X md d mc ms post k n t al st N h) (kf : 0 ≤ x → G l X md d mc ms post k n q al st N h) : G l X md d mc ms post k n pc al (.int (iI x) :: st) N h := by
  subst hq
  intro p e s m args below meth c D tc B b H locs ls Q hC hE hX hH hL hK hQ
  exact lv_if_lt hC.1 hC.2.1 hd ht (fun z => kt ((iI_lt0 hx).mp z) p e s m args below meth c D tc B b H locs ls Q hC hE hX hH hL hK hQ) (fun z => kf (Int.not_lt.mp (fun y9 => z ((iI_lt0 hx).mpr y9))) p e s m args below meth c D tc B b H locs ls Q hC hE hX hH hL hK hQ)
theorem g_if_le {off : Int} {t : Nat} {x : Int} (hx : IR x) (hd : decode md.2.1 pc = .ok (.ifCond .le off, 3)) (ht : (pc : Int) + off = (t : Int)) (hq : pc + 3 = q) (kt : x ≤ 0 → G l X md d mc ms post k n t al st N h) (kf : 0 < x → G l X md d mc ms post k n q al st N h) : G l X md d mc ms post k n pc al (.int (iI x) :: st) N h := by
  subst hq
  intro p e s m args below meth c D tc B b H locs ls Q hC hE hX hH hL hK hQ
  exact lv_if_le hC.1 hC.2.1 hd ht (fun z => kt ((iI_le0 hx).mp z) p e s m args below meth c D tc B b H locs ls Q hC hE hX hH hL hK hQ) (fun z => kf (Int.not_le.mp (fun y9 => z ((iI_le0 hx).mpr y9))) p e s m args below meth c D tc B b H locs ls Q hC hE hX hH hL hK hQ)
theorem g_ifr_eq {off : Int} {t : Nat} {x : Int32} (hd : decode md.2.1 pc = .ok (.ifCond .eq off, 3)) (ht : (pc : Int) + off = (t : Int)) (hq : pc + 3 = q) (kt : x = 0 → G l X md d mc ms post k n t al st N h) (kf : ¬ x = 0 → G l X md d mc ms post k n q al st N h) : G l X md d mc ms post k n pc al (.int x :: st) N h := by
  subst hq
  intro p e s m args below meth c D tc B b H locs ls Q hC hE hX hH hL hK hQ
  exact lv_if_eq hC.1 hC.2.1 hd ht (fun z => kt z p e s m args below meth c D tc B b H locs ls Q hC hE hX hH hL hK hQ) (fun z => kf z p e s m args below meth c D tc B b H locs ls Q hC hE hX hH hL hK hQ)
theorem g_ifr_ne {off : Int} {t : Nat} {x : Int32} (hd : decode md.2.1 pc = .ok (.ifCond .ne off, 3)) (ht : (pc : Int) + off = (t : Int)) (hq : pc + 3 = q) (kt : ¬ x = 0 → G l X md d mc ms post k n t al st N h) (kf : x = 0 → G l X md d mc ms post k n q al st N h) : G l X md d mc ms post k n pc al (.int x :: st) N h := by
  subst hq
  intro p e s m args below meth c D tc B b H locs ls Q hC hE hX hH hL hK hQ
  exact lv_if_ne hC.1 hC.2.1 hd ht (fun z => kt z p e s m args below meth c D tc B b H locs ls Q hC hE hX hH hL hK hQ) (fun z => kf z p e s m args below meth c D tc B b H locs ls Q hC hE hX hH hL hK hQ)
theorem g_tableIn {dflt lo hi : Int} {offs : Array Int} {len : Nat} {x off : Int} (hx : IR x) (hd : decode md.2.1 pc = .ok (.tableswitch dflt lo hi offs, len)) (h1 : lo ≤ x) (h2 : x ≤ hi) (ho : offs[(x - lo).toNat]? = some off) (ht : (pc : Int) + off = (q : Int)) (kk : G l X md d mc ms post k n q al st N h) : G l X md d mc ms post k n pc al (.int (iI x) :: st) N h := by
  intro p e s m args below meth c D tc B b H locs ls Q hC hE hX hH hL hK hQ
  exact lv_tableIn hC.1 hC.2.1 hd (by rw [iI_toInt hx]; omega) (by rw [iI_toInt hx]; omega) (by rw [iI_toInt hx]; exact ho) ht (kk p e s m args below meth c D tc B b H locs ls Q hC hE hX hH hL hK hQ)
theorem g_tableOut {dflt lo hi : Int} {offs : Array Int} {len : Nat} {x : Int} (hx : IR x) (hd : decode md.2.1 pc = .ok (.tableswitch dflt lo hi offs, len)) (h1 : x < lo ∨ hi < x) (ht : (pc : Int) + dflt = (q : Int)) (kk : G l X md d mc ms post k n q al st N h) : G l X md d mc ms post k n pc al (.int (iI x) :: st) N h := by
  intro p e s m args below meth c D tc B b H locs ls Q hC hE hX hH hL hK hQ
  exact lv_tableOut hC.1 hC.2.1 hd (by rw [iI_toInt hx]; exact h1) ht (kk p e s m args below meth c D tc B b H locs ls Q hC hE hX hH hL hK hQ)
theorem g_ret (r : Option Value) (hz : N.2 = true → k = mc) (hk : k ≤ mc) (hn : n ≤ ms) (hd : decode md.2.1 pc = .ok (rIns r, 1)) (hr : rOk md.2.2.2.1 r) (hs : st = r.toList) (hp : post (.inl r) N h) : G l X md d mc ms post k n pc al st N h := by
  intro p e s m args below meth c D tc B b H locs ls Q hC hE hX hH hL hK hQ
  refine W.widen hk hn ?_
  have := hK r N h H locs pc ls hp ⟨hH.1, hH.2.1, hH.2.2.1, hH.2.2.2.1, fun z => hz z ▸ hH.2.2.2.2 z⟩ hr hd
  rw [hs]
  cases r <;> exact this
theorem g_ireturn {x : Int32} (hz : N.2 = true → k = mc) (hk : k ≤ mc) (hn : n ≤ ms) (hd : decode md.2.1 pc = .ok (.ireturn, 1)) (hr : md.2.2.2.1 = some .int) (hp : post (.inl (some (.int x))) N h) : G l X md d mc ms post k n pc al [.int x] N h := g_ret (some (.int x)) hz hk hn hd ⟨.int, hr, rfl⟩ rfl hp
theorem g_zreturn {x : Int} (hz : N.2 = true → k = mc) (hk : k ≤ mc) (hn : n ≤ ms) (hd : decode md.2.1 pc = .ok (.ireturn, 1)) (hr : md.2.2.2.1 = some .boolean) (hx : x = 0 ∨ x = 1) (hp : post (.inl (some (.int (iI x)))) N h) : G l X md d mc ms post k n pc al [.int (iI x)] N h := g_ret (some (.int (iI x))) hz hk hn hd ⟨.boolean, hr, by rcases hx with rfl | rfl <;> decide⟩ rfl hp
theorem g_lreturn {x : Int64} (hz : N.2 = true → k = mc) (hk : k ≤ mc) (hn : n ≤ ms) (hd : decode md.2.1 pc = .ok (.lreturn, 1)) (hr : md.2.2.2.1 = some .long) (hp : post (.inl (some (.long x))) N h) : G l X md d mc ms post k n pc al [.long x] N h := g_ret (some (.long x)) hz hk hn hd hr rfl hp
theorem g_dreturn {x : UInt64} (hz : N.2 = true → k = mc) (hk : k ≤ mc) (hn : n ≤ ms) (hd : decode md.2.1 pc = .ok (.dreturn, 1)) (hr : md.2.2.2.1 = some .double) (hp : post (.inl (some (.double x))) N h) : G l X md d mc ms post k n pc al [.double x] N h := g_ret (some (.double x)) hz hk hn hd hr rfl hp
theorem g_areturn {x : Nat} {C : String} (hz : N.2 = true → k = mc) (hk : k ≤ mc) (hn : n ≤ ms) (hd : decode md.2.1 pc = .ok (.areturn, 1)) (hr : md.2.2.2.1 = some (.object C)) (hp : post (.inl (some (.ref x))) N h) : G l X md d mc ms post k n pc al [.ref x] N h := g_ret (some (.ref x)) hz hk hn hd ⟨C, hr⟩ rfl hp
theorem g_vreturn (hz : N.2 = true → k = mc) (hk : k ≤ mc) (hn : n ≤ ms) (hd : decode md.2.1 pc = .ok (.return_, 1)) (hr : md.2.2.2.1 = none) (hp : post (.inl none) N h) : G l X md d mc ms post k n pc al [] N h := g_ret none hz hk hn hd hr rfl hp
end GRows
end
section
/-! ===== rows that read and write the picture ===== -/
/-- a field by the pool of 'own': class ci's field kf, of the type ty, final or not -/
def FLd (own : String) (ix ci kf : Nat) (ty : FieldType) (fin : Bool) : Prop := ∃ (C : String) (T : u_T) (NF : Nat) (ty0 : Nat → FieldType), vwCl[ci]? = some (C, T, NF) ∧ kf < NF ∧ (∀ w ∈ u_ws C T NF, w ∈ LT) ∧ Cond.fieldLink own ix (T kf).1 (T kf).2.1 (T kf).2.2.1 ∈ LT ∧ (∀ k, k < NF → parseFieldDescriptor (T k).2.2.1 = some (ty0 k)) ∧ (∀ a, a < NF → ∀ b, b < NF → a ≠ b → (T a).2.1 ≠ (T b).2.1) ∧ parseFieldDescriptor (T kf).2.2.1 = some ty ∧ (T kf).2.2.2 = fin ∧ (fin = true → (T kf).1 = own)
/-- .. to be read alone -/
def FLr (own : String) (ix ci kf : Nat) : Prop := ∃ (C : String) (T : u_T) (NF : Nat), vwCl[ci]? = some (C, T, NF) ∧ kf < NF ∧ (∀ w ∈ u_ws C T NF, w ∈ LT) ∧ Cond.fieldLink own ix (T kf).1 (T kf).2.1 (T kf).2.2.1 ∈ LT
section GHeap
variable {l : Launch} {X : State → Nat → Nat → Prop} {md : MD} {d mc ms : Nat} {post : Post} {k n pc q : Nat} {al : List (Option Value)} {st : List Value} {N : NB} {h : EHp}

theorem g_get {ix ci kf i : Nat} {fs : List Value} {v : Value} (hf : FLr md.1.cls ix ci kf) (hi : i < N.1) (hh : h i = cO ci fs) (hv : fs[kf]? = some v) (hd : decode md.2.1 pc = .ok (.getfield ix, 3)) (hq : pc + 3 = q) (kk : G l X md d mc ms post k n q al (v :: st) N h) : G l X md d mc ms post k n pc al (.ref i :: st) N h := by
  subst hq
  intro p e s m args below meth c D tc B b H locs ls Q hC hE hX hH hL hK hQ
  obtain ⟨C, T, NF, hc, hk9, hin, hlk⟩ := hf
  have he := wl_at (tc := tc) (B := B) (b := b) (h := h) hi
  rw [hh] at he
  refine va_get (Ts := LT) (fs := fs.map (cv B b)) (v := cv B b v) hC.1 hC.2.1 hC.2.2.2.2.2.1 hin hC.2.2.2.2.1 hH.1 hH.2.1 i he hc kf hk9 (hC.2.2.2.2.2.1 _ hlk) (fun _ h9 => h9) (by simp [hv]) hd ?_
  exact kk p e s m args below meth c D tc B b H locs ls Q hC hE hX hH hL hK hQ
theorem g_put {ix ci kf i : Nat} {ty : FieldType} {fs : List Value} {v : Value} (hf : FLd md.1.cls ix ci kf ty false) (hi : i < N.1) (hh : h i = cO ci fs) (hl9 : kf < fs.length) (hnr : ∀ B b : Nat, narrow ty (cv B b v) = cv B b v) (hft : ∀ B b : Nat, fits ty (cv B b v) = true) (hd : decode md.2.1 pc = .ok (.putfield ix, 3)) (hq : pc + 3 = q) (kk : G l X md d mc ms post k n q al st N (ueh h i (cO ci (fs.set kf v)))) : G l X md d mc ms post k n pc al (v :: .ref i :: st) N h := by
  subst hq
  intro p e s m args below meth c D tc B b H locs ls Q hC hE hX hH hL hK hQ
  obtain ⟨C, T, NF, ty0, hc, hk9, hin, hlk, hty, hnm, hpt, hfin, hdcl⟩ := hf
  have he := wl_at (tc := tc) (B := B) (b := b) (h := h) hi
  rw [hh] at he
  refine va_put (Ts := LT) (fs := fs.map (cv B b)) (v := cv B b v) (ty := ty) hC.1 hC.2.1 hC.2.2.2.2.2.1 hin ty0 hty hnm hC.2.2.2.2.1 hH.1 hH.2.1 wl_D hH.2.2.1 i he hc kf hk9 (hC.2.2.2.2.2.1 _ hlk) (fun _ h9 => h9) hfin hpt (hnr B b) (hft B b) (by simpa using hl9) hd (fun H1 locs1 hP1 hD1 hS1 => ?_)
  have e1 : (wl tc B b N.1 h).set i (B + i, .inr (ci, (fs.map (cv B b)).set kf (cv B b v))) = wl tc B b N.1 (ueh h i (cO ci (fs.set kf v))) := by
    rw [← wl_set]
    show _ = (wl tc B b N.1 h).set i (B + i, .inr (ci, (fs.set kf v).map (cv B b)))
    rw [List.map_set]
  rw [e1] at hP1
  exact kk p e s m args below meth c D tc B b H1 locs1 ls Q hC hE hX ⟨hH.1, hP1, hS1, hH.2.2.2⟩ hL hK hQ
theorem g_putF {ix ci kf i : Nat} {ty : FieldType} {fs : List Value} {v : Value} (hf : FLd md.1.cls ix ci kf ty true) (hin2 : md.1.name = "<init>") (hi : i < N.1) (hh : h i = cO ci fs) (hl9 : kf < fs.length) (hnr : ∀ B b : Nat, narrow ty (cv B b v) = cv B b v) (hft : ∀ B b : Nat, fits ty (cv B b v) = true) (hd : decode md.2.1 pc = .ok (.putfield ix, 3)) (hq : pc + 3 = q) (kk : G l X md d mc ms post k n q al st N (ueh h i (cO ci (fs.set kf v)))) : G l X md d mc ms post k n pc al (v :: .ref i :: st) N h := by
  subst hq
  intro p e s m args below meth c D tc B b H locs ls Q hC hE hX hH hL hK hQ
  obtain ⟨C, T, NF, ty0, hc, hk9, hin, hlk, hty, hnm, hpt, hfin, hdcl⟩ := hf
  have he := wl_at (tc := tc) (B := B) (b := b) (h := h) hi
  rw [hh] at he
  refine va_putF (Ts := LT) (fs := fs.map (cv B b)) (v := cv B b v) (ty := ty) hC.1 hC.2.1 hC.2.2.2.2.2.1 hin ty0 hty hnm hC.2.2.2.2.1 hH.1 hH.2.1 wl_D hH.2.2.1 i he hc kf hk9 (hC.2.2.2.2.2.1 _ hlk) (fun _ h9 => h9) hfin (hC.2.2.2.2.2.2.2.1.trans hin2) (hdcl rfl) hpt (hnr B b) (hft B b) (by simpa using hl9) hd (fun H1 locs1 hP1 hD1 hS1 => ?_)
  have e1 : (wl tc B b N.1 h).set i (B + i, .inr (ci, (fs.map (cv B b)).set kf (cv B b v))) = wl tc B b N.1 (ueh h i (cO ci (fs.set kf v))) := by
    rw [← wl_set]
    show _ = (wl tc B b N.1 h).set i (B + i, .inr (ci, (fs.set kf v).map (cv B b)))
    rw [List.map_set]
  rw [e1] at hP1
  exact kk p e s m args below meth c D tc B b H1 locs1 ls Q hC hE hX ⟨hH.1, hP1, hS1, hH.2.2.2⟩ hL hK hQ
theorem iI_upd (f : Nat → Int) (j : Nat) (x : Int) : upd (fun z => iI (f z)) j (iI x) = fun z => iI (va_up f j x z) := by
  funext z
  by_cases hz : z = j
  · subst hz; simp [upd, va_up]
  · simp [upd, va_up, hz]
theorem g_iaload {i nn : Nat} {z : Int} {f : Nat → Int} (hi : i < N.1) (hh : h i = cI nn f) (h0 : 0 ≤ z) (h1 : z < nn) (hnn : nn < 2147483648) (hd : decode md.2.1 pc = .ok (.iaload, 1)) (hq : pc + 1 = q) (kk : G l X md d mc ms post k n q al (.int (iI (f z.toNat)) :: st) N h) : G l X md d mc ms post k n pc al (.int (iI z) :: .ref i :: st) N h := by
  subst hq
  intro p e s m args below meth c D tc B b H locs ls Q hC hE hX hH hL hK hQ
  have he := wl_at (tc := tc) (B := B) (b := b) (h := h) hi
  rw [hh] at he
  refine va_iald (n := nn) (f := fun j => iI (f j)) hC.1 hC.2.1 hH.1 hH.2.1 i 0 he rfl (iI_in h0 h1 hnn) hd ?_
  rw [iI_clamp h0 (by omega)]
  exact kk p e s m args below meth c D tc B b H locs ls Q hC hE hX hH hL hK hQ
theorem g_baload {i nn : Nat} {z : Int} {f : Nat → Int} (hi : i < N.1) (hh : h i = cZ nn f) (h0 : 0 ≤ z) (h1 : z < nn) (hnn : nn < 2147483648) (hd : decode md.2.1 pc = .ok (.baload, 1)) (hq : pc + 1 = q) (kk : G l X md d mc ms post k n q al (.int (iI (f z.toNat)) :: st) N h) : G l X md d mc ms post k n pc al (.int (iI z) :: .ref i :: st) N h := by
  subst hq
  intro p e s m args below meth c D tc B b H locs ls Q hC hE hX hH hL hK hQ
  have he := wl_at (tc := tc) (B := B) (b := b) (h := h) hi
  rw [hh] at he
  refine va_zald (n := nn) (f := fun j => iI (f j)) hC.1 hC.2.1 hH.1 hH.2.1 i 1 he rfl (iI_in h0 h1 hnn) hd ?_
  rw [iI_clamp h0 (by omega)]
  exact kk p e s m args below meth c D tc B b H locs ls Q hC hE hX hH hL hK hQ
theorem g_laload {i nn : Nat} {z : Int} {f : Nat → Int64} (hi : i < N.1) (hh : h i = cJ nn f) (h0 : 0 ≤ z) (h1 : z < nn) (hnn : nn < 2147483648) (hd : decode md.2.1 pc = .ok (.laload, 1)) (hq : pc + 1 = q) (kk : G l X md d mc ms post k n q al (.long (f z.toNat) :: st) N h) : G l X md d mc ms post k n pc al (.int (iI z) :: .ref i :: st) N h := by
  subst hq
  intro p e s m args below meth c D tc B b H locs ls Q hC hE hX hH hL hK hQ
  have he := wl_at (tc := tc) (B := B) (b := b) (h := h) hi
  rw [hh] at he
  refine va_lald (n := nn) (f := f) hC.1 hC.2.1 hH.1 hH.2.1 i 2 he rfl (iI_in h0 h1 hnn) hd ?_
  rw [iI_clamp h0 (by omega)]
  exact kk p e s m args below meth c D tc B b H locs ls Q hC hE hX hH hL hK hQ
theorem g_daload {i nn : Nat} {z : Int} {f : Nat → UInt64} (hi : i < N.1) (hh : h i = cD nn f) (h0 : 0 ≤ z) (h1 : z < nn) (hnn : nn < 2147483648) (hd : decode md.2.1 pc = .ok (.daload, 1)) (hq : pc + 1 = q) (kk : G l X md d mc ms post k n q al (.double (f z.toNat) :: st) N h) : G l X md d mc ms post k n pc al (.int (iI z) :: .ref i :: st) N h := by
  subst hq
  intro p e s m args below meth c D tc B b H locs ls Q hC hE hX hH hL hK hQ
  have he := wl_at (tc := tc) (B := B) (b := b) (h := h) hi
  rw [hh] at he
  refine va_dald (n := nn) (f := f) hC.1 hC.2.1 hH.1 hH.2.1 i 3 he rfl (iI_in h0 h1 hnn) hd ?_
  rw [iI_clamp h0 (by omega)]
  exact kk p e s m args below meth c D tc B b H locs ls Q hC hE hX hH hL hK hQ
theorem g_aaload {i nn t r : Nat} {z : Int} {f : Nat → Option Nat} (hi : i < N.1) (hh : h i = cR t nn f) (ht : t = 4 ∨ t = 5) (h0 : 0 ≤ z) (h1 : z < nn) (hnn : nn < 2147483648) (hr : f z.toNat = some r) (hd : decode md.2.1 pc = .ok (.aaload, 1)) (hq : pc + 1 = q) (kk : G l X md d mc ms post k n q al (.ref r :: st) N h) : G l X md d mc ms post k n pc al (.int (iI z) :: .ref i :: st) N h := by
  subst hq
  intro p e s m args below meth c D tc B b H locs ls Q hC hE hX hH hL hK hQ
  have he := wl_at (tc := tc) (B := B) (b := b) (h := h) hi
  rw [hh] at he
  rcases ht with rfl | rfl
  · refine va_aldq (n := nn) (C := RX4) (f := fun j => (f j).map (B + ·)) hC.1 hC.2.1 hH.1 hH.2.1 i 4 he rfl (iI_in h0 h1 hnn) hd ?_
    rw [iI_clamp h0 (by omega), hr]
    exact kk p e s m args below meth c D tc B b H locs ls Q hC hE hX hH hL hK hQ
  · refine va_aldq (n := nn) (C := RX6) (f := fun j => (f j).map (B + ·)) hC.1 hC.2.1 hH.1 hH.2.1 i 5 he rfl (iI_in h0 h1 hnn) hd ?_
    rw [iI_clamp h0 (by omega), hr]
    exact kk p e s m args below meth c D tc B b H locs ls Q hC hE hX hH hL hK hQ
theorem g_iastore {i nn : Nat} {z : Int} {x : Int} {f : Nat → Int} (hi : i < N.1) (hh : h i = cI nn f) (h0 : 0 ≤ z) (h1 : z < nn) (hnn : nn < 2147483648) (hd : decode md.2.1 pc = .ok (.iastore, 1)) (hq : pc + 1 = q) (kk : G l X md d mc ms post k n q al st N (ueh h i (cI nn (va_up f z.toNat x)))) : G l X md d mc ms post k n pc al (.int (iI x) :: .int (iI z) :: .ref i :: st) N h := by
  subst hq
  intro p e s m args below meth c D tc B b H locs ls Q hC hE hX hH hL hK hQ
  have he := wl_at (tc := tc) (B := B) (b := b) (h := h) hi
  rw [hh] at he
  refine va_iast (n := nn) (f := fun j => iI (f j)) hC.1 hC.2.1 hH.1 hH.2.1 wl_D hH.2.2.1 i 0 he rfl (iI_in h0 h1 hnn) hd (fun H1 locs1 hP1 hD1 hS1 => ?_)
  rw [iI_clamp h0 (by omega), iI_upd] at hP1
  have hP2 : va_P D vwCl (wl tc B b N.1 (ueh h i (cI nn (va_up f z.toNat x)))) H1 := by rw [← wl_set]; exact hP1
  exact kk p e s m args below meth c D tc B b H1 locs1 ls Q hC hE hX ⟨hH.1, hP2, hS1, hH.2.2.2⟩ hL hK hQ
theorem g_bastore {i nn : Nat} {z : Int} {x : Int} {f : Nat → Int} (hx : x = 0 ∨ x = 1) (hi : i < N.1) (hh : h i = cZ nn f) (h0 : 0 ≤ z) (h1 : z < nn) (hnn : nn < 2147483648) (hd : decode md.2.1 pc = .ok (.bastore, 1)) (hq : pc + 1 = q) (kk : G l X md d mc ms post k n q al st N (ueh h i (cZ nn (va_up f z.toNat x)))) : G l X md d mc ms post k n pc al (.int (iI x) :: .int (iI z) :: .ref i :: st) N h := by
  subst hq
  intro p e s m args below meth c D tc B b H locs ls Q hC hE hX hH hL hK hQ
  have he := wl_at (tc := tc) (B := B) (b := b) (h := h) hi
  rw [hh] at he
  refine va_zast (n := nn) (f := fun j => iI (f j)) hC.1 hC.2.1 hH.1 hH.2.1 wl_D hH.2.2.1 i 1 he rfl (iI_in h0 h1 hnn) hd (fun H1 locs1 hP1 hD1 hS1 => ?_)
  rw [iI_clamp h0 (by omega), show vp_nar .boolean (iI x) = iI x from by rcases hx with rfl | rfl <;> decide, iI_upd] at hP1
  have hP2 : va_P D vwCl (wl tc B b N.1 (ueh h i (cZ nn (va_up f z.toNat x)))) H1 := by rw [← wl_set]; exact hP1
  exact kk p e s m args below meth c D tc B b H1 locs1 ls Q hC hE hX ⟨hH.1, hP2, hS1, hH.2.2.2⟩ hL hK hQ
theorem g_lastore {i nn : Nat} {z : Int} {x : Int64} {f : Nat → Int64} (hi : i < N.1) (hh : h i = cJ nn f) (h0 : 0 ≤ z) (h1 : z < nn) (hnn : nn < 2147483648) (hd : decode md.2.1 pc = .ok (.lastore, 1)) (hq : pc + 1 = q) (kk : G l X md d mc ms post k n q al st N (ueh h i (cJ nn (vp_updL f z.toNat x)))) : G l X md d mc ms post k n pc al (.long x :: .int (iI z) :: .ref i :: st) N h := by
  subst hq
  intro p e s m args below meth c D tc B b H locs ls Q hC hE hX hH hL hK hQ
  have he := wl_at (tc := tc) (B := B) (b := b) (h := h) hi
  rw [hh] at he
  refine va_last (n := nn) (f := f) hC.1 hC.2.1 hH.1 hH.2.1 wl_D hH.2.2.1 i 2 he rfl (iI_in h0 h1 hnn) hd (fun H1 locs1 hP1 hD1 hS1 => ?_)
  rw [iI_clamp h0 (by omega)] at hP1
  have hP2 : va_P D vwCl (wl tc B b N.1 (ueh h i (cJ nn (vp_updL f z.toNat x)))) H1 := by rw [← wl_set]; exact hP1
  exact kk p e s m args below meth c D tc B b H1 locs1 ls Q hC hE hX ⟨hH.1, hP2, hS1, hH.2.2.2⟩ hL hK hQ
theorem g_dastore {i nn : Nat} {z : Int} {x : UInt64} {f : Nat → UInt64} (hi : i < N.1) (hh : h i = cD nn f) (h0 : 0 ≤ z) (h1 : z < nn) (hnn : nn < 2147483648) (hd : decode md.2.1 pc = .ok (.dastore, 1)) (hq : pc + 1 = q) (kk : G l X md d mc ms post k n q al st N (ueh h i (cD nn (vf_upd f z.toNat x)))) : G l X md d mc ms post k n pc al (.double x :: .int (iI z) :: .ref i :: st) N h := by
  subst hq
  intro p e s m args below meth c D tc B b H locs ls Q hC hE hX hH hL hK hQ
  have he := wl_at (tc := tc) (B := B) (b := b) (h := h) hi
  rw [hh] at he
  refine va_dast (n := nn) (f := f) hC.1 hC.2.1 hH.1 hH.2.1 wl_D hH.2.2.1 i 3 he rfl (iI_in h0 h1 hnn) hd (fun H1 locs1 hP1 hD1 hS1 => ?_)
  rw [iI_clamp h0 (by omega)] at hP1
  have hP2 : va_P D vwCl (wl tc B b N.1 (ueh h i (cD nn (vf_upd f z.toNat x)))) H1 := by rw [← wl_set]; exact hP1
  exact kk p e s m args below meth c D tc B b H1 locs1 ls Q hC hE hX ⟨hH.1, hP2, hS1, hH.2.2.2⟩ hL hK hQ
theorem g_alen {i nn : Nat} {f : Nat → Int} (hi : i < N.1) (hh : h i = cI nn f) (hd : decode md.2.1 pc = .ok (.arraylength, 1)) (hq : pc + 1 = q) (kk : G l X md d mc ms post k n q al (.int (iI nn) :: st) N h) : G l X md d mc ms post k n pc al (.ref i :: st) N h := by
  subst hq
  intro p e s m args below meth c D tc B b H locs ls Q hC hE hX hH hL hK hQ
  have he := wl_at (tc := tc) (B := B) (b := b) (h := h) hi
  rw [hh] at he
  refine va_alen (x := (nn, .inl (fun j => iI (f j)))) hC.1 hC.2.1 hH.1 hH.2.1 i 0 he rfl rfl hd ?_
  have := kk p e s m args below meth c D tc B b H locs ls Q hC hE hX hH hL hK hQ
  rw [show Int32.ofNat nn = iI nn from (iI_nI nn).symm]
  exact this
theorem iI_cpy (f g : Nat → Int) (sp dp n : Nat) : va_cpy (fun j => iI (f j)) (fun j => iI (g j)) sp dp n = fun j => iI (va_cpy f g sp dp n j) := by
  funext j
  unfold va_cpy
  by_cases hc : dp ≤ j ∧ j < dp + n <;> simp [hc]
def ACp (own : String) (ix : Nat) : Prop := Cond.methodLink own ix arraycopyName ∈ LT ∧ Cond.native arraycopyName ∈ LT ∧ Cond.static arraycopyName ∈ LT ∧ Cond.initialized "java/lang/System" ∈ LT
theorem g_copy {ix i0 i1 n0 n1 sp dp nn : Nat} {f g : Nat → Int} (ha : ACp md.1.cls ix) (hi0 : i0 < N.1) (hh0 : h i0 = cI n0 f) (hi1 : i1 < N.1) (hh1 : h i1 = cI n1 g) (h4 : sp + nn ≤ n0) (h5 : dp + nn ≤ n1) (hb0 : n0 < 2147483648) (hb1 : n1 < 2147483648) (hcat : (st.map Value.category).sum ≤ 8) (hdd : 1 ≤ d) (hd : decode md.2.1 pc = .ok (.invokestatic ix, 3)) (hq : pc + 3 = q) (kk : G l X md d mc ms post k n q al st N (ueh h i1 (cI n1 (va_cpy f g sp dp nn)))) : G l X md d mc ms post k n pc al (.int (iI nn) :: .int (iI dp) :: .ref i1 :: .int (iI sp) :: .ref i0 :: st) N h := by
  subst hq
  intro p e s m args below meth c D tc B b H locs ls Q hC hE hX hH hL hK hQ
  have he0 := wl_at (tc := tc) (B := B) (b := b) (h := h) hi0
  rw [hh0] at he0
  have he1 := wl_at (tc := tc) (B := B) (b := b) (h := h) hi1
  rw [hh1] at he1
  have hts := hC.2.2.2.2.2.1
  have pos : ∀ z : Nat, z < 2147483648 → ¬ iI (z : Int) < 0 := fun z hz => by rw [iI_lt0 ⟨by omega, by omega⟩]; omega
  have cl : ∀ z : Nat, z < 2147483648 → (iI (z : Int)).toNatClampNeg = z := fun z hz => by rw [iI_clamp (by omega) (by omega)]; omega
  have hcat2 : ((st.map (cv B b)).map fun v => v.category).sum ≤ 8 := by
    rw [List.map_map]
    have : (fun v => v.category) ∘ cv B b = Value.category := by funext v; exact cv_cat B b v
    rw [this]; exact hcat
  refine va_copyi (f := fun j => iI (f j)) (g := fun j => iI (g j)) (n0 := n0) (n1 := n1) (ty := .int) hC.1 hC.2.1 (hC.2.2.1.trans hL.1.symm) hC.2.2.2.2.1 (hts _ ha.1) (hts _ ha.2.1) (hts _ ha.2.2.1) (hts _ ha.2.2.2) hH.1 hH.2.1 wl_D hH.2.2.1 i0 i1 0 0 he0 he1 rfl rfl rfl (pos sp (by omega)) (pos dp (by omega)) (pos nn (by omega)) (by rw [cl sp (by omega), cl nn (by omega)]; exact h4) (by rw [cl dp (by omega), cl nn (by omega)]; exact h5) (fun _ _ => rfl) hdd (by
    have e9 : nativeFrameWords "java/lang/System" "arraycopy" 5 + 11 ≤ 29 := by decide +kernel
    show _ ≤ 37 * d
    omega) hd (fun H1 locs1 hP1 hD1 hS1 => ?_)
  rw [cl sp (by omega), cl dp (by omega), cl nn (by omega), iI_cpy] at hP1
  have hP2 : va_P D vwCl (wl tc B b N.1 (ueh h i1 (cI n1 (va_cpy f g sp dp nn)))) H1 := by rw [← wl_set]; exact hP1
  exact kk p e s m args below meth c D tc B b H1 locs1 ls Q hC hE hX ⟨hH.1, hP2, hS1, hH.2.2.2⟩ hL hK hQ
end GHeap
end
section
/-! ===== calls, throws, handlers ===== -/
theorem LT_goodIn {ws : List Cond} (h : ∀ w ∈ ws, w ∈ LT) : GoodIn LT ws := fun w hw => ⟨h w hw, good_of_word (LT_good w (h w hw))⟩
theorem PK_blind {l : Launch} {D : va_G} {tc : Nat → ClassId} {B b : Nat} {N : NB} {h : EHp} {av : List Value} : FrameBlind (va_Pc (av.map (cv B b)) (fun U => PK D tc B b N h U ∧ EV l B U)) := by
  intro a U g mk q
  obtain ⟨q0, ⟨qP, qK, q3, q4⟩, qE⟩ := q
  exact ⟨q0, ⟨qP, va_K.moved (u := U) (U := U.calling g mk a) (Vm.Alike.refl U.vm) qK, q3, q4⟩, EV.warm (U := U.calling g mk a) qE (State.WarmedH.refl U) (fun _ _ _ => rfl)⟩
theorem PK_pre {l : Launch} {D : va_G} {tc : Nat → ClassId} {B b k : Nat} {N : NB} {h : EHp} {s : State} {H : Heap} {locs : List Loc} (hH : HR D tc B b N h s H locs k) (hE : EV l B s) (hsz : N.2 = true → H.size = B + N.1) : ∀ U : State, U.heap = H → s.WarmedH U.vm → PK D tc B b N h U ∧ EV l B U := by
  intro U hU hW
  refine ⟨⟨by rw [hU]; exact hH.2.1, va_K.moved hW.alike hH.1, ?_, by rw [hU]; exact hsz⟩, EV.warm hE hW (fun a h1 h2 => ?_)⟩
  · rw [hU]; exact Nat.le_trans hH.2.2.2.1 hH.2.2.1.1
  · rw [hU]; exact hH.2.2.1.2.1 a h1 h2
/-- what follows a call -/
theorem g_after {p : Program} {l : Launch} {e : Env} {R : Room} {s : State} {m : MethodId} {args : Array Value} {below : List Frame} {meth : Method} {c : Code} {D : va_G} {tc : Nat → ClassId} {B b k n mc' ms' pc : Nat} {N : NB} {h : EHp} {H : Heap} {locs : List Loc} {ls : Array Slot} {st0 rest : List Value} {a : Array Value} {post' : Post} {Q : State → Prop}
    (hH : HR D tc B b N h s H locs k) (hr : vx_Run p l e R s m args below meth c H locs k n mc' ms' (F0 m pc ls st0) rest (QQ D tc B b post' a) (XX D tc B b post') (fun q => B ≤ q))
    (hN : ∀ r N' h', post' (.inl r) N' h' → N'.2 = true → N.2 = true ∧ N'.1 = N.1 + mc') (hNx : ∀ E N' h', post' (.inr E) N' h' → N'.2 = false)
    (kk : ∀ (r : Option Value) (N' : NB) (h' : EHp) (H1 : Heap) (locs1 : List Loc), post' (.inl r) N' h' → HR D tc B b N' h' s H1 locs1 (k + mc') → W p l e R s m args below meth c H1 locs1 (k + mc') (n + ms') Q (F0 m (pc + 3) ls ((r.map (cv B b)).toList ++ rest)))
    (kx : ∀ (E : String) (N' : NB) (h' : EHp) (H1 : Heap) (locs1 : List Loc) (q9 : Addr) (ce : Cell), post' (.inr E) N' h' → HR D tc B b N' h' s H1 locs1 (k + mc') → H1[q9]? = some ce → ce.vm = .none → s.vm.findClass E = some ce.cls → vx_W p l e R s m args below meth c H1 locs1 (k + mc') (n + ms') Q (F0 m pc ls rest) q9) :
    W p l e R s m args below meth c H locs k n Q (F0 m pc ls st0) := by
  intro T hT hX
  rcases hr T hT hX with ⟨v, st₀, t, T', L, h0, X', hL, e1, e2, ⟨⟨r, N', h', hv, hp, hP1, hK1, hB1, hz1⟩, hF⟩, st⟩ | ⟨q, st₀, t, T', L, E, cE, h0, X', hL, e1, e2, ⟨⟨N', h', hp, hP1, hK1, hB1, hz1⟩, hF⟩, hce, hcv, hcl, st⟩
  · cases hv
    obtain ⟨k1, k2, k3⟩ := vx_keep (A0 := fun q => B ≤ q) h0 e1 hH.2.2.1 (fun _ _ z => z) (fun _ z => z) hL hF
    have hA : s.vm.Alike t.vm := by rw [← e2]; exact X'.warmed.alike
    obtain ⟨t2, a1, b1⟩ := kk r N' h' T'.heap (locs ++ L) hp ⟨va_K.moved hA.symm hK1, by rw [e1]; exact hP1, k3, hH.2.2.2.1, fun z => by
      have h1 := hN r N' h' hp z
      have h2 := hH.2.2.2.2 h1.1
      omega⟩ T' rfl X'
    exact ⟨t2, st t2 a1, b1⟩
  · obtain ⟨k1, k2, k3⟩ := vx_keep (A0 := fun q => B ≤ q) h0 e1 hH.2.2.1 (fun _ _ z => z) (fun _ z => z) hL hF
    have hA : s.vm.Alike t.vm := by rw [← e2]; exact X'.warmed.alike
    obtain ⟨t2, a1, b1⟩ := kx E N' h' T'.heap (locs ++ L) q cE hp ⟨va_K.moved hA.symm hK1, by rw [e1]; exact hP1, k3, hH.2.2.2.1, fun z => by rw [hNx E N' h' hp] at z; cases z⟩ (by rw [e1]; exact hce) hcv hcl T' rfl X'
    exact ⟨t2, st.trans a1, b1⟩
/-- an exception goes on to the caller -/
theorem g_outx {p : Program} {l : Launch} {e : Env} {R : Room} {s : State} {m : MethodId} {args : Array Value} {below : List Frame} {meth : Method} {c : Code} {md : MD} {D : va_G} {tc : Nat → ClassId} {B b k n mc ms pc : Nat} {N : NB} {h : EHp} {H : Heap} {locs : List Loc} {ls : Array Slot} {rest : List Value} {post : Post} {Q : State → Prop} {E : String} {q9 : Addr} {ce : Cell}
    (hC : CX p s m args meth c md) (hH : HR D tc B b N h s H locs k) (hQ : Q = vx_MQ below (QQ D tc B b post) (XX D tc B b post) args s mc ms (fun q => B ≤ q) ∨ ∀ E N' h', ¬ post (.inr E) N' h')
    (hp : post (.inr E) N h) (hz : N.2 = false) (hout : ∀ x ∈ tableOf md.2.2.2.2, covers x pc = false) (hc : k ≤ mc) (hs : n ≤ ms) (h1 : H[q9]? = some ce) (h2 : ce.vm = .none) (h3 : s.vm.findClass E = some ce.cls) : vx_W p l e R s m args below meth c H locs k n Q (F0 m pc ls rest) q9 := by
  rcases hQ with rfl | hQ
  · refine vx_out (by rw [hC.2.2.2.2.2.2.2.2]; exact hout) hC.2.2.2.2.2.2.1 h1 h2 h3 (fun t ht hA => ?_) hH.2.2.1.2.2 hc hs
    refine ⟨⟨N, h, hp, by rw [ht]; exact hH.2.1, va_K.moved hA hH.1, ?_, fun z => by rw [hz] at z; cases z⟩, hH.2.2.1.F ht⟩
    rw [ht]; exact Nat.le_trans hH.2.2.2.1 hH.2.2.1.1
  · exact absurd hp (hQ E N h)
def CVd (own : String) (ix ci : Nat) (cd : MD) (nA : Nat) : Prop := (∃ (T : u_T) (NF : Nat), vwCl[ci]? = some (cd.1.cls, T, NF)) ∧ Cond.methodLink own ix cd.1 ∈ LT ∧ Cond.instanceMethod cd.1 ∈ LT ∧ Cond.selects cd.1.cls cd.1 cd.1 ∈ LT ∧ Cond.initialized cd.1.cls ∈ LT ∧ Cond.code cd.1 cd.2.1 cd.2.2.1 cd.2.2.2.1 ∈ LT ∧ cd.2.2.2.2 = [] ∧ (cd.1.cls ≠ "java/lang/invoke/MethodHandle" ∧ cd.1.cls ≠ "java/lang/invoke/VarHandle" ∧ (parseMethodDescriptor cd.1.desc).map (fun d => d.parameters.length) = some nA)
def CSd (own : String) (ix : Nat) (cd : MD) (nA : Nat) : Prop := Cond.methodLink own ix cd.1 ∈ LT ∧ Cond.static cd.1 ∈ LT ∧ Cond.initialized cd.1.cls ∈ LT ∧ Cond.code cd.1 cd.2.1 cd.2.2.1 cd.2.2.2.1 ∈ LT ∧ cd.2.2.2.2 = [] ∧ (cd.1.cls ≠ "java/lang/invoke/MethodHandle" ∧ cd.1.cls ≠ "java/lang/invoke/VarHandle" ∧ (parseMethodDescriptor cd.1.desc).map (fun d => d.parameters.length) = some nA)
def CSw (own : String) (ix : Nat) (cd : MD) (nA : Nat) : Prop := Cond.methodLink own ix cd.1 ∈ LT ∧ Cond.static cd.1 ∈ LT ∧ Cond.initialized cd.1.cls ∈ LT ∧ Cond.codeWith cd.1 cd.2.1 cd.2.2.1 cd.2.2.2.1 cd.2.2.2.2 ∈ LT ∧ cd.2.2.2.2 ≠ [] ∧ (cd.1.cls ≠ "java/lang/invoke/MethodHandle" ∧ cd.1.cls ≠ "java/lang/invoke/VarHandle" ∧ (parseMethodDescriptor cd.1.desc).map (fun d => d.parameters.length) = some nA)
def CId (own : String) (ix : Nat) (cd : MD) (nA : Nat) : Prop := Cond.methodLink own ix cd.1 ∈ LT ∧ Cond.instanceMethod cd.1 ∈ LT ∧ cd.1.name = "<init>" ∧ Cond.initialized cd.1.cls ∈ LT ∧ Cond.code cd.1 cd.2.1 cd.2.2.1 none ∈ LT ∧ cd.2.2.2.1 = none ∧ cd.2.2.2.2 = [] ∧ (cd.1.cls ≠ "java/lang/invoke/MethodHandle" ∧ cd.1.cls ≠ "java/lang/invoke/VarHandle" ∧ (parseMethodDescriptor cd.1.desc).map (fun d => d.parameters.length) = some nA)
def CNd (own : String) (ix : Nat) (cd : MD) (host : String) (nA : Nat) : Prop := (own, ix, cd.1, host) ∈ nwM ∧ Cond.instanceMethod cd.1 ∈ LT ∧ cd.1.name = "<init>" ∧ Cond.initialized cd.1.cls ∈ LT ∧ Cond.code cd.1 cd.2.1 cd.2.2.1 none ∈ LT ∧ cd.2.2.2.1 = none ∧ cd.2.2.2.2 = [] ∧ (cd.1.cls ≠ "java/lang/invoke/MethodHandle" ∧ cd.1.cls ≠ "java/lang/invoke/VarHandle" ∧ (parseMethodDescriptor cd.1.desc).map (fun d => d.parameters.length) = some nA)
theorem wsM_nil {md : MD} (h : md.2.2.2.2 = []) : wsM md = Cond.code md.1 md.2.1 md.2.2.1 md.2.2.2.1 :: LT := by
  unfold wsM
  rw [h]
theorem wsM_cons {md : MD} (h : md.2.2.2.2 ≠ []) : wsM md = Cond.codeWith md.1 md.2.1 md.2.2.1 md.2.2.2.1 md.2.2.2.2 :: LT := by
  unfold wsM
  cases hh : md.2.2.2.2 with
  | nil => exact absurd hh h
  | cons z r => rfl
theorem catsum {B b : Nat} {st : List Value} (hcat : (st.map Value.category).sum ≤ 8) : ((st.map (cv B b)).map fun v => v.category).sum ≤ 8 := by
  rw [List.map_map]
  have : (fun v => v.category) ∘ cv B b = Value.category := by funext v; exact cv_cat B b v
  rw [this]; exact hcat
theorem monroom {m : MethodId} {pc : Nat} {ls : Array Slot} {st0 : List Value} {rest : List Value} (h : (rest.map fun v => v.category).sum ≤ 8) : 2 * (F0 m pc ls st0).monitorRoom + (rest.map fun v => v.category).sum ≤ 8 := lv_room h
section GCall
variable {l : Launch} {X : State → Nat → Nat → Prop} {md : MD} {d mc ms : Nat} {post : Post} {k n pc q : Nat} {al : List (Option Value)} {st st0 : List Value} {N : NB} {h : EHp} {cd : MD} {ix ci nA d' mc' ms' i : Nat} {av : List Value} {fs : List Value} {post' : Post}
/-- a caller without a table: what its callee throws goes on -/
theorem g_callV (hw : CVd md.1.cls ix ci cd nA) (hM : CT l cd d' mc' ms' (.ref i :: av) N h post') (hi : i < N.1) (hh : h i = cO ci fs) (hlen : av.length = nA) (hcat : (st.map Value.category).sum ≤ 8) (hfr : d' + 1 ≤ d ∧ 8 + (cd.2.2.1 + 11) + 37 * d' ≤ 37 * d) (hrm : k + mc' ≤ mc ∧ n + ms' ≤ ms) (htb : md.2.2.2.2 = [])
    (hN : ∀ r N' h', post' (.inl r) N' h' → N'.2 = true → N.2 = true ∧ N'.1 = N.1 + mc') (hNx : ∀ E N' h', post' (.inr E) N' h' → N'.2 = false ∧ post (.inr E) N' h') (hs0 : st0 = av.reverse ++ .ref i :: st) (hd : decode md.2.1 pc = .ok (.invokevirtual ix, 3)) (hq : pc + 3 = q)
    (kk : ∀ r N' h', post' (.inl r) N' h' → G l X md d mc ms post (k + mc') (n + ms') q al (r.toList ++ st) N' h') : G l X md d mc ms post k n pc al st0 N h := by
  subst hq hs0
  intro p e s m args below meth c D tc B b H locs ls Q hC hE hX hH hL hK hQ T hT hS
  have hsz := fun z => hH.tight hT hS.heapSize z
  obtain ⟨⟨TT, NF, hcl⟩, w1, w2, w3, w4, w5, w6, w7⟩ := hw
  have hts := hC.2.2.2.2.2.1
  have he := wl_at (tc := tc) (B := B) (b := b) (h := h) hi
  rw [hh] at he
  refine g_after hH (vx_runV (Ts := LT) (cc := md.2.1) (nL := md.2.2.1) (own := md.1.cls) (As := av.map (cv B b)) (rest := st.map (cv B b)) (b := B + i) ⟨hC.1, hC.2.1, hC.2.2.1, hC.2.2.2.2.1, hts⟩ (hM D tc B b) (cwV (C := cd.1.cls) (index := ix) nA hts (LT_goodIn (by rw [wsM_nil w6]; intro w hw; simp only [wsV, List.cons_append, List.nil_append, List.mem_cons] at hw; rcases hw with rfl | rfl | rfl | rfl | rfl | hw <;> assumption)) (wsM_nil w6) rfl rfl ⟨rfl, w7⟩ hfr) ⟨PK_blind, va_recv hH.1 hH.2.1 hcl he, fun U hU hW => ⟨rfl, PK_pre hH hE hsz U hU hW⟩⟩ rfl (by simpa using hlen) hL.1 (by simp [cv]) (monroom (catsum hcat)) hd hrm) hN (fun E N' h' z => (hNx E N' h' z).1) (fun r N' h' H1 locs1 hp hH1 => ?_) (fun E N' h' H1 locs1 q9 ce hp hH1 g1 g2 g3 => ?_) T hT hS
  · have := kk r N' h' hp p e s m args below meth c D tc B b H1 locs1 ls Q hC hE hX hH1 hL hK hQ
    cases r <;> exact this
  · exact g_outx hC hH1 hQ (hNx E N' h' hp).2 (hNx E N' h' hp).1 (by rw [htb]; intro x hx; cases hx) hrm.1 hrm.2 g1 g2 g3
theorem g_callS (hw : CSd md.1.cls ix cd nA) (hM : CT l cd d' mc' ms' av N h post') (hlen : av.length = nA) (hcat : (st.map Value.category).sum ≤ 8) (hfr : d' + 1 ≤ d ∧ 8 + (cd.2.2.1 + 11) + 37 * d' ≤ 37 * d) (hrm : k + mc' ≤ mc ∧ n + ms' ≤ ms) (htb : md.2.2.2.2 = [])
    (hN : ∀ r N' h', post' (.inl r) N' h' → N'.2 = true → N.2 = true ∧ N'.1 = N.1 + mc') (hNx : ∀ E N' h', post' (.inr E) N' h' → N'.2 = false ∧ post (.inr E) N' h') (hs0 : st0 = av.reverse ++ st) (hd : decode md.2.1 pc = .ok (.invokestatic ix, 3)) (hq : pc + 3 = q)
    (kk : ∀ r N' h', post' (.inl r) N' h' → G l X md d mc ms post (k + mc') (n + ms') q al (r.toList ++ st) N' h') : G l X md d mc ms post k n pc al st0 N h := by
  subst hq hs0
  intro p e s m args below meth c D tc B b H locs ls Q hC hE hX hH hL hK hQ T hT hS
  have hsz := fun z => hH.tight hT hS.heapSize z
  obtain ⟨w1, w2, w4, w5, w6, w7⟩ := hw
  have hts := hC.2.2.2.2.2.1
  refine g_after hH (vx_runS (Ts := LT) (cc := md.2.1) (nL := md.2.2.1) (own := md.1.cls) (As := av.map (cv B b)) (rest := st.map (cv B b)) ⟨hC.1, hC.2.1, hC.2.2.1, hC.2.2.2.2.1, hts⟩ (hM D tc B b) (va_cwS (index := ix) nA hts (LT_goodIn (by rw [wsM_nil w6]; intro w hw; simp only [va_wsS, List.cons_append, List.nil_append, List.mem_cons] at hw; rcases hw with rfl | rfl | rfl | rfl | hw <;> assumption)) (wsM_nil w6) rfl rfl w7 hfr) ⟨PK_blind, fun U hU hW => ⟨rfl, PK_pre hH hE hsz U hU hW⟩⟩ rfl (by simpa using hlen) hL.1 (by simp) (monroom (catsum hcat)) hd hrm) hN (fun E N' h' z => (hNx E N' h' z).1) (fun r N' h' H1 locs1 hp hH1 => ?_) (fun E N' h' H1 locs1 q9 ce hp hH1 g1 g2 g3 => ?_) T hT hS
  · have := kk r N' h' hp p e s m args below meth c D tc B b H1 locs1 ls Q hC hE hX hH1 hL hK hQ
    cases r <;> exact this
  · exact g_outx hC hH1 hQ (hNx E N' h' hp).2 (hNx E N' h' hp).1 (by rw [htb]; intro x hx; cases hx) hrm.1 hrm.2 g1 g2 g3
theorem g_callSw (hw : CSw md.1.cls ix cd nA) (hM : CT l cd d' mc' ms' av N h post') (hlen : av.length = nA) (hcat : (st.map Value.category).sum ≤ 8) (hfr : d' + 1 ≤ d ∧ 8 + (cd.2.2.1 + 11) + 37 * d' ≤ 37 * d) (hrm : k + mc' ≤ mc ∧ n + ms' ≤ ms) (htb : md.2.2.2.2 = [])
    (hN : ∀ r N' h', post' (.inl r) N' h' → N'.2 = true → N.2 = true ∧ N'.1 = N.1 + mc') (hNx : ∀ E N' h', post' (.inr E) N' h' → N'.2 = false ∧ post (.inr E) N' h') (hs0 : st0 = av.reverse ++ st) (hd : decode md.2.1 pc = .ok (.invokestatic ix, 3)) (hq : pc + 3 = q)
    (kk : ∀ r N' h', post' (.inl r) N' h' → G l X md d mc ms post (k + mc') (n + ms') q al (r.toList ++ st) N' h') : G l X md d mc ms post k n pc al st0 N h := by
  subst hq hs0
  intro p e s m args below meth c D tc B b H locs ls Q hC hE hX hH hL hK hQ T hT hS
  have hsz := fun z => hH.tight hT hS.heapSize z
  obtain ⟨w1, w2, w4, w5, w6, w7⟩ := hw
  have hts := hC.2.2.2.2.2.1
  refine g_after hH (vx_runSX (Ts := LT) (cc := md.2.1) (nL := md.2.2.1) (own := md.1.cls) (As := av.map (cv B b)) (rest := st.map (cv B b)) ⟨hC.1, hC.2.1, hC.2.2.1, hC.2.2.2.2.1, hts⟩ (hM D tc B b) (vx_cwSW (index := ix) nA hts (LT_goodIn (by rw [wsM_cons w6]; intro w hw; simp only [va_wsS, List.cons_append, List.nil_append, List.mem_cons] at hw; rcases hw with rfl | rfl | rfl | rfl | hw <;> assumption)) (wsM_cons w6) rfl rfl w7 hfr) ⟨PK_blind, fun U hU hW => ⟨rfl, PK_pre hH hE hsz U hU hW⟩⟩ rfl (by simpa using hlen) hL.1 (by simp) (monroom (catsum hcat)) hd hrm) hN (fun E N' h' z => (hNx E N' h' z).1) (fun r N' h' H1 locs1 hp hH1 => ?_) (fun E N' h' H1 locs1 q9 ce hp hH1 g1 g2 g3 => ?_) T hT hS
  · have := kk r N' h' hp p e s m args below meth c D tc B b H1 locs1 ls Q hC hE hX hH1 hL hK hQ
    cases r <;> exact this
  · exact g_outx hC hH1 hQ (hNx E N' h' hp).2 (hNx E N' h' hp).1 (by rw [htb]; intro x hx; cases hx) hrm.1 hrm.2 g1 g2 g3
/-- a caller with a table: what its callee throws is caught by the row (sp, ep, hp, ct), the rows ahead don't take it; the handler stores it at once into the local j -/
theorem g_callVH {sp ep hp0 ct j q2 : Nat} {pre suf : List (Nat × Nat × Nat × Nat)} {Eh : String} (hw : CVd md.1.cls ix ci cd nA) (hM : CT l cd d' mc' ms' (.ref i :: av) N h post') (hi : i < N.1) (hh : h i = cO ci fs) (hlen : av.length = nA) (hcat : (st.map Value.category).sum ≤ 8) (hfr : d' + 1 ≤ d ∧ 8 + (cd.2.2.1 + 11) + 37 * d' ≤ 37 * d) (hrm : k + mc' ≤ mc ∧ n + ms' ≤ ms)
    (hN : ∀ r N' h', post' (.inl r) N' h' → N'.2 = true → N.2 = true ∧ N'.1 = N.1 + mc') (hNx : ∀ E N' h', post' (.inr E) N' h' → N'.2 = false ∧ E = Eh) (hs0 : st0 = av.reverse ++ .ref i :: st) (hd : decode md.2.1 pc = .ok (.invokevirtual ix, 3)) (hq : pc + 3 = q)
    (htb : md.2.2.2.2 = pre ++ (sp, ep, hp0, ct) :: suf) (hpre : ∀ z ∈ pre, z.2.2.2 ≠ 0 ∧ ∃ nm : String, Cond.classLink md.1.cls z.2.2.2 nm ∈ LT ∧ (Eh, nm) ∈ ncL) (hcov : sp ≤ pc ∧ pc < ep) (hct : ct ≠ 0) (hlk : Cond.classLink md.1.cls ct Eh ∈ LT) (hcs : (Eh, Eh) ∈ nwC)
    (hd2 : (∃ jj : Fin 4, (jj : Nat) = j ∧ decode md.2.1 hp0 = .ok (.astore_n jj, 1) ∧ hp0 + 1 = q2) ∨ (decode md.2.1 hp0 = .ok (.astore j, 2) ∧ hp0 + 2 = q2)) (hj : j < md.2.2.1) (hok : okS al j = true)
    (kk : ∀ r N' h', post' (.inl r) N' h' → G l X md d mc ms post (k + mc') (n + ms') q al (r.toList ++ st) N' h') (kx : ∀ N' h', post' (.inr Eh) N' h' → G l X md d mc ms post (k + mc') (n + ms') q2 (al.set j none) [] N' h') : G l X md d mc ms post k n pc al st0 N h := by
  subst hq hs0
  intro p e s m args below meth c D tc B b H locs ls Q hC hE hX hH hL hK hQ T hT hS
  have hsz := fun z => hH.tight hT hS.heapSize z
  obtain ⟨⟨TT, NF, hcl⟩, w1, w2, w3, w4, w5, w6, w7⟩ := hw
  have hts := hC.2.2.2.2.2.1
  have he := wl_at (tc := tc) (B := B) (b := b) (h := h) hi
  rw [hh] at he
  refine g_after hH (vx_runV (Ts := LT) (cc := md.2.1) (nL := md.2.2.1) (own := md.1.cls) (As := av.map (cv B b)) (rest := st.map (cv B b)) (b := B + i) ⟨hC.1, hC.2.1, hC.2.2.1, hC.2.2.2.2.1, hts⟩ (hM D tc B b) (cwV (C := cd.1.cls) (index := ix) nA hts (LT_goodIn (by rw [wsM_nil w6]; intro w hw; simp only [wsV, List.cons_append, List.nil_append, List.mem_cons] at hw; rcases hw with rfl | rfl | rfl | rfl | rfl | hw <;> assumption)) (wsM_nil w6) rfl rfl ⟨rfl, w7⟩ hfr) ⟨PK_blind, va_recv hH.1 hH.2.1 hcl he, fun U hU hW => ⟨rfl, PK_pre hH hE hsz U hU hW⟩⟩ rfl (by simpa using hlen) hL.1 (by simp [cv]) (monroom (catsum hcat)) hd hrm) hN (fun E N' h' z => (hNx E N' h' z).1) (fun r N' h' H1 locs1 hp hH1 => ?_) (fun E N' h' H1 locs1 q9 ce hp hH1 g1 g2 g3 => ?_) T hT hS
  · have := kk r N' h' hp p e s m args below meth c D tc B b H1 locs1 ls Q hC hE hX hH1 hL hK hQ
    cases r <;> exact this
  · obtain ⟨-, rfl⟩ := hNx E N' h' hp
    refine vx_catch hC.2.2.2.2.1 (tableOf pre) ⟨sp, ep, hp0, ct⟩ (tableOf suf) (by rw [hC.2.2.2.2.2.2.2.2, htb]; simp [tableOf]) (fun z hz => ?_) (by simp [covers, hcov]) hct (hts _ hlk) (va_Nw.use rfl (hE.2.2.2.2.1 _ hcs)) g1 g2 g3 ?_
    · obtain ⟨z0, hz0, rfl⟩ := List.mem_map.mp hz
      obtain ⟨h1, nm, h2, h3⟩ := hpre z0 hz0
      exact Or.inr ⟨h1, nm, hts _ h2, hE.2.2.2.2.2.2.1 _ h3⟩
    · rcases hd2 with ⟨jj, hjj, hd2, rfl⟩ | ⟨hd2, rfl⟩
      · exact lv_astore_n hC.1 hC.2.1 hd2 hjj hL.has hj rfl (fun ls' hl' => kx N' h' hp p e s m args below meth c D tc B b H1 locs1 ls' Q hC hE hX hH1 (LR.put0 hok hl') hK hQ)
      · exact lv_astore hC.1 hC.2.1 hd2 hL.has hj rfl (fun ls' hl' => kx N' h' hp p e s m args below meth c D tc B b H1 locs1 ls' Q hC hE hX hH1 (LR.put0 hok hl') hK hQ)
/-- what 'throw new E("text")' in the class MonotonePostings wants of the tables -/
def THd (ik is ic : Nat) (E text : String) : Prop := Bundle.fit E = true ∧ Cond.classLink RX7 ik E ∈ LT ∧ Cond.initialized E ∈ LT ∧ (is, text) ∈ strL ∧ (E, E) ∈ nwC ∧ (∀ w ∈ (vx_atS RX7 ic E ["java/lang/RuntimeException", "java/lang/Exception"]).filter goodWord, w ∈ LT) ∧ (∀ w ∈ (vx_atS RX7 ic E ["java/lang/RuntimeException", "java/lang/Exception"]).filter (fun w => !goodWord w), w ∈ Cond.castable E E :: nwD.map Cond.declares) ∧ (∀ w ∈ Cond.classLink RX7 ik E :: Cond.initialized E :: vx_atS RX7 ic E ["java/lang/RuntimeException", "java/lang/Exception"], vx_ot w = true)
theorem g_throw {ik is ic : Nat} {E text : String} (ht : THd ik is ic E text) (hm : md.1.cls = RX7) (htb : md.2.2.2.2 = []) (hz : N.2 = false) (hp : post (.inr E) N h) (hcat : (st.map Value.category).sum ≤ 8) (hd5 : 6 ≤ d) (hk : k + 1 ≤ mc) (hn : n + 6 ≤ ms)
    (d0 : decode md.2.1 pc = .ok (.new ik, 3)) (d3 : decode md.2.1 (pc + 3) = .ok (.dup, 1)) (d4 : decode md.2.1 (pc + 4) = .ok (.ldc is, 2)) (d6 : decode md.2.1 (pc + 6) = .ok (.invokespecial ic, 3)) (d9 : decode md.2.1 (pc + 9) = .ok (.athrow, 1)) : G l X md d mc ms post k n pc al st N h := by
  intro p e s m args below meth c D tc B b H locs ls Q hC hE hX hH hL hK hQ
  obtain ⟨t1, t2, t3, t4, t5, t6, t7, t8⟩ := ht
  have hts := hC.2.2.2.2.2.1
  obtain ⟨sa, hsa⟩ := hE.2.2.2.1 _ t4
  rcases hQ with rfl | hQ
  · have hc8 := catsum (B := B) (b := b) hcat
    refine vx_throwS (own := RX7) (names := ["java/lang/RuntimeException", "java/lang/Exception"]) (sa := sa) (A := fun q => B ≤ q) hC.1 hC.2.1 hE.1 (by rw [← hm]; exact hC.2.2.2.2.1) t1 (by decide +kernel) (hts _ t2) (hts _ t3) hsa
      (vx_hat (fun w hw => hts _ (t6 w hw)) t7 (vx_c (va_Nw.use rfl (hE.2.2.2.2.1 _ t5)) (fun w hw => by obtain ⟨y, hy, rfl⟩ := List.mem_map.mp hw; exact va_Nw.use rfl (hE.2.2.2.2.2.2.2.2.2 y hy)))) t8 hE.2.1 hE.2.2.1 hH.2.2.1 (hL.1.trans hC.2.2.1.symm) d0 d3 d4 d6 d9
      (by rw [hC.2.2.2.2.2.2.2.2, htb]; intro x hx; cases hx) (by show 2 + 3 < d; omega) (by show _ + (13 * 3 + 43) ≤ 37 * d; omega) hk hn hC.2.2.2.2.2.2.1 (fun t hA hs1 hs2 => ?_) hH.2.2.1.2.2 hk hn
    have hkp : ∀ (j : Nat) (x : Nat × va_E), (wl tc B b N.1 h)[j]? = some x → t.heap[x.1]? = H[x.1]? := fun j x hx => hs2 x.1 ((hH.2.1 j x hx).lt)
    refine ⟨⟨N, h, hp, hH.2.1.kept hkp, va_K.moved hA hH.1, ?_, fun z => by rw [hz] at z; cases z⟩, Nat.le_trans hH.2.2.1.1 hs1, fun q9 h1 h2 => ?_⟩
    · exact Nat.le_trans hH.2.2.2.1 (Nat.le_trans hH.2.2.1.1 hs1)
    · rw [hs2 q9 (Nat.lt_of_lt_of_le h1 hH.2.2.1.1)]
      exact hH.2.2.1.2.1 q9 h1 h2
  · exact absurd hp (hQ E N h)
end GCall
end
section
/-! ===== rows that make objects (while the objects are numbered one behind another), and the script's ===== -/
def NWd (own : String) (ix ci NF : Nat) (fs : List Value) : Prop := ∃ (C : String) (T : u_T) (ty0 : Nat → FieldType), vwCl[ci]? = some (C, T, NF) ∧ (∀ w ∈ u_ws C T NF, w ∈ LT) ∧ (∀ k, k < NF → parseFieldDescriptor (T k).2.2.1 = some (ty0 k)) ∧ Cond.classLink own ix C ∈ LT ∧ Cond.instantiable C NF ∈ LT ∧ Cond.initialized C ∈ LT ∧ (∀ B b j : Nat, j < NF → defaultValue (ty0 j) = vp_V (fs.map (cv B b)) j)
section GNew
variable {l : Launch} {X : State → Nat → Nat → Prop} {md : MD} {d mc ms : Nat} {post : Post} {k n pc q : Nat} {al : List (Option Value)} {st st0 : List Value} {N : NB} {h : EHp}
theorem HR.pushed {D : va_G} {tc : Nat → ClassId} {B b : Nat} {s : State} {H H1 : Heap} {locs : List Loc} {c : ECell} (hH : HR D tc B b N h s H locs k) (hz : N.2 = true) (hsz : H.size = B + N.1) (z1 : H1.size = H.size + 1) (o1 : ∀ q, q < H.size → H1[q]? = H[q]?) (hat : va_at D vwCl (B + N.1, ce tc B b c) H1) : HR D tc B b (N.1 + 1, true) (ueh h N.1 c) s H1 locs (k + 1) := by
  refine ⟨hH.1, ?_, ⟨Nat.le_trans hH.2.2.1.1 (by omega), fun x h1 h2 => (o1 x (Nat.lt_of_lt_of_le h1 hH.2.2.1.1)).trans (hH.2.2.1.2.1 x h1 h2), hH.2.2.1.2.2⟩, hH.2.2.2.1, fun _ => ?_⟩
  · show va_P D vwCl (wl tc B b (N.1 + 1) (ueh h N.1 c)) H1
    rw [← wl_push]
    refine (hH.2.1.kept (fun j x hx => o1 x.1 ((hH.2.1 j x hx).lt))).app (fun j x hx => ?_)
    have hj : j < 1 := (List.getElem?_eq_some_iff.mp hx).1
    rw [show j = 0 by omega] at hx
    cases hx
    exact hat
  · have := hH.2.2.2.2 hz
    show s.heap.size + (k + 1) ≤ B + (N.1 + 1)
    omega

theorem g_new {ix ci NF : Nat} {fs : List Value} (hw : NWd md.1.cls ix ci NF fs) (hz : N.2 = true) (hk : k + 1 ≤ mc) (hn : n + NF ≤ ms) (hd : decode md.2.1 pc = .ok (.new ix, 3)) (hq : pc + 3 = q) (kk : G l X md d mc ms post (k + 1) (n + NF) q al (.ref N.1 :: st) (N.1 + 1, true) (ueh h N.1 (cO ci fs))) : G l X md d mc ms post k n pc al st N h := by
  subst hq
  intro p e s m args below meth c D tc B b H locs ls Q hC hE hX hH hL hK hQ T hT hS
  have hsz := hH.tight hT hS.heapSize hz
  obtain ⟨C, TT, ty0, hc, hin, hty, w1, w2, w3, hdf⟩ := hw
  have hts := hC.2.2.2.2.2.1
  have hKn := hH.1.1 ci _ hc
  have K9 : W p l e (rmo d mc ms) s m args below meth c H locs k n Q (F0 m pc ls (st.map (cv B b))) := by
    refine W.newcK (g := F0 m pc ls (st.map (cv B b))) hC.1 hC.2.1 hC.2.2.2.2.1 (hts _ w1) (hts _ w2) (hts _ w3) rfl hd hk hn hKn.2.1 hsz (fun H1 kC hkC e1 z1 o1 => ?_)
    have hH1 := HR.pushed (c := cO ci fs) (H1 := H1) hH hz hsz (by rw [z1, hsz]) (by rw [hsz]; exact o1) ⟨_, hc, (u_born ty0 hts hin hKn hkC e1 hty).to (hdf B b)⟩
    exact kk p e s m args below meth c D tc B b H1 locs ls Q hC hE hX hH1 hL hK hQ
  exact K9 T hT hS
theorem g_newa_int {nn : Nat} (hw : Cond.arrayClass .int ∈ LT) (hz : N.2 = true) (hnn : nn ≤ 100000) (hk : k + 1 ≤ mc) (hn : n + nn ≤ ms) (hd : decode md.2.1 pc = .ok (.newarray .int, 2)) (hq : pc + 2 = q) (kk : G l X md d mc ms post (k + 1) (n + nn) q al (.ref N.1 :: st) (N.1 + 1, true) (ueh h N.1 (cI nn (fun _ => 0)))) : G l X md d mc ms post k n pc al (.int (iI nn) :: st) N h := by
  subst hq
  intro p e s m args below meth c D tc B b H locs ls Q hC hE hX hH hL hK hQ T hT hS
  have hsz := hH.tight hT hS.heapSize hz
  have hts := hC.2.2.2.2.2.1
  have ht := (hH.1.2 0 (tc 0, .int) rfl).2
  have K9 : W p l e (rmo d mc ms) s m args below meth c H locs k n Q (F0 m pc ls (.int (iI nn) :: st.map (cv B b))) := by
    refine va_newaK (g := F0 m pc ls (.int (iI nn) :: st.map (cv B b))) (rest := st.map (cv B b)) (atype := .int) (N := nn) hC.1 hC.2.1 (hts _ hw) rfl hd rfl (by rw [iI_lt0 ⟨by omega, by omega⟩]; omega) (by rw [iI_clamp (by omega) (by omega)]; omega) (by show nn * _ ≤ _; simp only [newarray.typeOf, componentBytes]; omega) hk hn hsz (fun H1 cA e1 z1 o1 hAr hNm => ?_)
    have hcA : cA = tc 0 := Option.some.inj (hNm.symm.trans ht)
    subst hcA
    have hH1 := HR.pushed (c := cI nn (fun _ => 0)) (H1 := H1) hH hz hsz (by rw [z1, hsz]) (by rw [hsz]; exact o1) e1
    exact kk p e s m args below meth c D tc B b H1 locs ls Q hC hE hX hH1 hL hK hQ
  exact K9 T hT hS
theorem g_newa_boolean {nn : Nat} (hw : Cond.arrayClass .boolean ∈ LT) (hz : N.2 = true) (hnn : nn ≤ 100000) (hk : k + 1 ≤ mc) (hn : n + nn ≤ ms) (hd : decode md.2.1 pc = .ok (.newarray .boolean, 2)) (hq : pc + 2 = q) (kk : G l X md d mc ms post (k + 1) (n + nn) q al (.ref N.1 :: st) (N.1 + 1, true) (ueh h N.1 (cZ nn (fun _ => 0)))) : G l X md d mc ms post k n pc al (.int (iI nn) :: st) N h := by
  subst hq
  intro p e s m args below meth c D tc B b H locs ls Q hC hE hX hH hL hK hQ T hT hS
  have hsz := hH.tight hT hS.heapSize hz
  have hts := hC.2.2.2.2.2.1
  have ht := (hH.1.2 1 (tc 1, .boolean) rfl).2
  have K9 : W p l e (rmo d mc ms) s m args below meth c H locs k n Q (F0 m pc ls (.int (iI nn) :: st.map (cv B b))) := by
    refine va_newaK (g := F0 m pc ls (.int (iI nn) :: st.map (cv B b))) (rest := st.map (cv B b)) (atype := .boolean) (N := nn) hC.1 hC.2.1 (hts _ hw) rfl hd rfl (by rw [iI_lt0 ⟨by omega, by omega⟩]; omega) (by rw [iI_clamp (by omega) (by omega)]; omega) (by show nn * _ ≤ _; simp only [newarray.typeOf, componentBytes]; omega) hk hn hsz (fun H1 cA e1 z1 o1 hAr hNm => ?_)
    have hcA : cA = tc 1 := Option.some.inj (hNm.symm.trans ht)
    subst hcA
    have hH1 := HR.pushed (c := cZ nn (fun _ => 0)) (H1 := H1) hH hz hsz (by rw [z1, hsz]) (by rw [hsz]; exact o1) e1
    exact kk p e s m args below meth c D tc B b H1 locs ls Q hC hE hX hH1 hL hK hQ
  exact K9 T hT hS
theorem g_newa_long {nn : Nat} (hw : Cond.arrayClass .long ∈ LT) (hz : N.2 = true) (hnn : nn ≤ 100000) (hk : k + 1 ≤ mc) (hn : n + nn ≤ ms) (hd : decode md.2.1 pc = .ok (.newarray .long, 2)) (hq : pc + 2 = q) (kk : G l X md d mc ms post (k + 1) (n + nn) q al (.ref N.1 :: st) (N.1 + 1, true) (ueh h N.1 (cJ nn (fun _ => 0)))) : G l X md d mc ms post k n pc al (.int (iI nn) :: st) N h := by
  subst hq
  intro p e s m args below meth c D tc B b H locs ls Q hC hE hX hH hL hK hQ T hT hS
  have hsz := hH.tight hT hS.heapSize hz
  have hts := hC.2.2.2.2.2.1
  have ht := (hH.1.2 2 (tc 2, .long) rfl).2
  have K9 : W p l e (rmo d mc ms) s m args below meth c H locs k n Q (F0 m pc ls (.int (iI nn) :: st.map (cv B b))) := by
    refine va_newaK (g := F0 m pc ls (.int (iI nn) :: st.map (cv B b))) (rest := st.map (cv B b)) (atype := .long) (N := nn) hC.1 hC.2.1 (hts _ hw) rfl hd rfl (by rw [iI_lt0 ⟨by omega, by omega⟩]; omega) (by rw [iI_clamp (by omega) (by omega)]; omega) (by show nn * _ ≤ _; simp only [newarray.typeOf, componentBytes]; omega) hk hn hsz (fun H1 cA e1 z1 o1 hAr hNm => ?_)
    have hcA : cA = tc 2 := Option.some.inj (hNm.symm.trans ht)
    subst hcA
    have hH1 := HR.pushed (c := cJ nn (fun _ => 0)) (H1 := H1) hH hz hsz (by rw [z1, hsz]) (by rw [hsz]; exact o1) e1
    exact kk p e s m args below meth c D tc B b H1 locs ls Q hC hE hX hH1 hL hK hQ
  exact K9 T hT hS
theorem g_newa_double {nn : Nat} (hw : Cond.arrayClass .double ∈ LT) (hz : N.2 = true) (hnn : nn ≤ 100000) (hk : k + 1 ≤ mc) (hn : n + nn ≤ ms) (hd : decode md.2.1 pc = .ok (.newarray .double, 2)) (hq : pc + 2 = q) (kk : G l X md d mc ms post (k + 1) (n + nn) q al (.ref N.1 :: st) (N.1 + 1, true) (ueh h N.1 (cD nn (fun _ => 0)))) : G l X md d mc ms post k n pc al (.int (iI nn) :: st) N h := by
  subst hq
  intro p e s m args below meth c D tc B b H locs ls Q hC hE hX hH hL hK hQ T hT hS
  have hsz := hH.tight hT hS.heapSize hz
  have hts := hC.2.2.2.2.2.1
  have ht := (hH.1.2 3 (tc 3, .double) rfl).2
  have K9 : W p l e (rmo d mc ms) s m args below meth c H locs k n Q (F0 m pc ls (.int (iI nn) :: st.map (cv B b))) := by
    refine va_newaK (g := F0 m pc ls (.int (iI nn) :: st.map (cv B b))) (rest := st.map (cv B b)) (atype := .double) (N := nn) hC.1 hC.2.1 (hts _ hw) rfl hd rfl (by rw [iI_lt0 ⟨by omega, by omega⟩]; omega) (by rw [iI_clamp (by omega) (by omega)]; omega) (by show nn * _ ≤ _; simp only [newarray.typeOf, componentBytes]; omega) hk hn hsz (fun H1 cA e1 z1 o1 hAr hNm => ?_)
    have hcA : cA = tc 3 := Option.some.inj (hNm.symm.trans ht)
    subst hcA
    have hH1 := HR.pushed (c := cD nn (fun _ => 0)) (H1 := H1) hH hz hsz (by rw [z1, hsz]) (by rw [hsz]; exact o1) e1
    exact kk p e s m args below meth c D tc B b H1 locs ls Q hC hE hX hH1 hL hK hQ
  exact K9 T hT hS
theorem g_anew_P {ix nn : Nat} (hw : Cond.classLink md.1.cls ix RX4 ∈ LT) (hz : N.2 = true) (hnn : nn ≤ 100000) (hk : k + 1 ≤ mc) (hn : n + nn ≤ ms) (hd : decode md.2.1 pc = .ok (.anewarray ix, 3)) (hq : pc + 3 = q) (kk : G l X md d mc ms post (k + 1) (n + nn) q al (.ref N.1 :: st) (N.1 + 1, true) (ueh h N.1 (cR 4 nn (fun _ => none)))) : G l X md d mc ms post k n pc al (.int (iI nn) :: st) N h := by
  subst hq
  intro p e s m args below meth c D tc B b H locs ls Q hC hE hX hH hL hK hQ T hT hS
  have hsz := hH.tight hT hS.heapSize hz
  have hts := hC.2.2.2.2.2.1
  obtain ⟨kA0, comp0, -, -, -, ht⟩ := (hH.1.2 4 (tc 4, .object RX4) rfl).2
  have hcl : (iI (nn : Int)).toNatClampNeg = nn := by rw [iI_clamp (by omega) (by omega)]; omega
  have K9 : W p l e (rmo d mc ms) s m args below meth c H locs k n Q (F0 m pc ls (.int (iI nn) :: st.map (cv B b))) := by
    refine W.anew (g := F0 m pc ls (.int (iI nn) :: st.map (cv B b))) (rest := st.map (cv B b)) hC.1 hC.2.1 hC.2.2.2.2.1 (hts _ hw) (va_AO.use hE.2.2.2.2.2.2.2.1) rfl hd rfl (by rw [iI_lt0 ⟨by omega, by omega⟩]; omega) (by rw [hcl]; omega) hk (by rw [hcl]; exact hn) (fun cA kA comp f1 f2 f3 f4 => ?_)
    have hcA : cA = tc 4 := Option.some.inj (f1.symm.trans ht)
    subst hcA
    rw [hcl]
    have hH1 := HR.pushed (c := cR 4 nn (fun _ => none)) (H1 := H.push ({ cls := tc 4, slots := Array.replicate nn .null, vm := .none } : Cell)) hH hz hsz (by rw [Array.size_push]) (fun q9 hq9 => by rw [Array.getElem?_push, if_neg (Nat.ne_of_lt hq9)]) (by
      show (H.push _)[B + N.1]? = some (vp_cell _ _)
      rw [vp_cell_q, ← hsz, Array.getElem?_push_size, ← arrV_new]
      rfl)
    have := kk p e s m args below meth c D tc B b _ locs ls Q hC hE hX hH1 hL hK hQ
    rw [hsz]
    exact this
  exact K9 T hT hS
theorem g_anew_S {ix nn : Nat} (hw : Cond.classLink md.1.cls ix RX6 ∈ LT) (hz : N.2 = true) (hnn : nn ≤ 100000) (hk : k + 1 ≤ mc) (hn : n + nn ≤ ms) (hd : decode md.2.1 pc = .ok (.anewarray ix, 3)) (hq : pc + 3 = q) (kk : G l X md d mc ms post (k + 1) (n + nn) q al (.ref N.1 :: st) (N.1 + 1, true) (ueh h N.1 (cR 5 nn (fun _ => none)))) : G l X md d mc ms post k n pc al (.int (iI nn) :: st) N h := by
  subst hq
  intro p e s m args below meth c D tc B b H locs ls Q hC hE hX hH hL hK hQ T hT hS
  have hsz := hH.tight hT hS.heapSize hz
  have hts := hC.2.2.2.2.2.1
  obtain ⟨kA0, comp0, -, -, -, ht⟩ := (hH.1.2 5 (tc 5, .object RX6) rfl).2
  have hcl : (iI (nn : Int)).toNatClampNeg = nn := by rw [iI_clamp (by omega) (by omega)]; omega
  have K9 : W p l e (rmo d mc ms) s m args below meth c H locs k n Q (F0 m pc ls (.int (iI nn) :: st.map (cv B b))) := by
    refine W.anew (g := F0 m pc ls (.int (iI nn) :: st.map (cv B b))) (rest := st.map (cv B b)) hC.1 hC.2.1 hC.2.2.2.2.1 (hts _ hw) (va_AO.use hE.2.2.2.2.2.2.2.2.1) rfl hd rfl (by rw [iI_lt0 ⟨by omega, by omega⟩]; omega) (by rw [hcl]; omega) hk (by rw [hcl]; exact hn) (fun cA kA comp f1 f2 f3 f4 => ?_)
    have hcA : cA = tc 5 := Option.some.inj (f1.symm.trans ht)
    subst hcA
    rw [hcl]
    have hH1 := HR.pushed (c := cR 5 nn (fun _ => none)) (H1 := H.push ({ cls := tc 5, slots := Array.replicate nn .null, vm := .none } : Cell)) hH hz hsz (by rw [Array.size_push]) (fun q9 hq9 => by rw [Array.getElem?_push, if_neg (Nat.ne_of_lt hq9)]) (by
      show (H.push _)[B + N.1]? = some (vp_cell _ _)
      rw [vp_cell_q, ← hsz, Array.getElem?_push_size, ← arrV_new]
      rfl)
    have := kk p e s m args below meth c D tc B b _ locs ls Q hC hE hX hH1 hL hK hQ
    rw [hsz]
    exact this
  exact K9 T hT hS
theorem g_aastore {i j nn t ci : Nat} {z : Int} {f : Nat → Option Nat} {fs : List Value} (hi : i < N.1) (hh : h i = cR t nn f) (ht : (t = 4 ∧ ci = 4) ∨ (t = 5 ∧ ci = 5)) (hj : j < N.1) (hhj : h j = cO ci fs) (h0 : 0 ≤ z) (h1 : z < nn) (hnn : nn < 2147483648) (hd : decode md.2.1 pc = .ok (.aastore, 1)) (hq : pc + 1 = q) (kk : G l X md d mc ms post k n q al st N (ueh h i (cR t nn (va_up f z.toNat (some j))))) : G l X md d mc ms post k n pc al (.ref j :: .int (iI z) :: .ref i :: st) N h := by
  subst hq
  intro p e s m args below meth c D tc B b H locs ls Q hC hE hX hH hL hK hQ
  have he := wl_at (tc := tc) (B := B) (b := b) (h := h) hi
  rw [hh] at he
  have hej := wl_at (tc := tc) (B := B) (b := b) (h := h) hj
  rw [hhj] at hej
  have hfe : va_up (fun y => (f y).map (B + ·)) z.toNat (some (B + j)) = fun y => (va_up f z.toNat (some j) y).map (B + ·) := by
    funext y
    by_cases hy : y = z.toNat
    · subst hy; simp [va_up]
    · simp [va_up, hy]
  rcases ht with ⟨rfl, rfl⟩ | ⟨rfl, rfl⟩
  · refine va_astq (n := nn) (f := fun y => (f y).map (B + ·)) (r := (RX4, TX4, 4)) hC.1 hC.2.1 hH.1 hH.2.1 wl_D hH.2.2.1 i 4 j 4 he rfl hej rfl (iI_in h0 h1 hnn) hd (fun H1 locs1 hP1 hD1 hS1 => ?_)
    rw [iI_clamp h0 (by omega), hfe] at hP1
    have hP2 : va_P D vwCl (wl tc B b N.1 (ueh h i (cR 4 nn (va_up f z.toNat (some j))))) H1 := by rw [← wl_set]; exact hP1
    exact kk p e s m args below meth c D tc B b H1 locs1 ls Q hC hE hX ⟨hH.1, hP2, hS1, hH.2.2.2⟩ hL hK hQ
  · refine va_astq (n := nn) (f := fun y => (f y).map (B + ·)) (r := (RX6, TX6, 4)) hC.1 hC.2.1 hH.1 hH.2.1 wl_D hH.2.2.1 i 5 j 5 he rfl hej rfl (iI_in h0 h1 hnn) hd (fun H1 locs1 hP1 hD1 hS1 => ?_)
    rw [iI_clamp h0 (by omega), hfe] at hP1
    have hP2 : va_P D vwCl (wl tc B b N.1 (ueh h i (cR 5 nn (va_up f z.toNat (some j))))) H1 := by rw [← wl_set]; exact hP1
    exact kk p e s m args below meth c D tc B b H1 locs1 ls Q hC hE hX ⟨hH.1, hP2, hS1, hH.2.2.2⟩ hL hK hQ
theorem g_objInit {ix i : Nat} (hw : Cond.methodLink md.1.cls ix objectInit ∈ LT ∧ Cond.instanceMethod objectInit ∈ LT ∧ Cond.code objectInit ⟨#[0xb1]⟩ 1 none ∈ LT) (hcat : (st.map Value.category).sum ≤ 8) (hdd : 1 ≤ d) (hd : decode md.2.1 pc = .ok (.invokespecial ix, 3)) (hq : pc + 3 = q) (kk : G l X md d mc ms post k n q al st N h) : G l X md d mc ms post k n pc al (.ref i :: st) N h := by
  subst hq
  intro p e s m args below meth c D tc B b H locs ls Q hC hE hX hH hL hK hQ
  have hts := hC.2.2.2.2.2.1
  have hc8 := monroom (m := m) (pc := pc) (ls := ls) (st0 := .ref (B + i) :: st.map (cv B b)) (catsum (B := B) (b := b) hcat)
  exact W.objInit (g := F0 m pc ls (.ref (B + i) :: st.map (cv B b))) (rest := st.map (cv B b)) hC.1 hC.2.1 hC.2.2.2.2.1 (hts _ hw.1) (hts _ hw.2.1) (hts _ hw.2.2) rfl (hL.1.trans hC.2.2.1.symm) rfl hd hdd (by show _ ≤ 37 * d; omega) (kk p e s m args below meth c D tc B b H locs ls Q hC hE hX hH hL hK hQ)
/-- a contract that throws nothing is one of the plain kind -/
theorem vx_plain {y : MethodName} {ws : List Cond} {rm : Room} {Pc : Array Value → State → Prop} {Qc : Array Value → State → Outcome → State → Prop} {XC : String → State → State → Prop} {mc ms : Nat} {free : Addr → Prop} (hM : vx_Met l y ws rm Pc Qc XC mc ms free) (hx : ∀ E s t, ¬ XC E s t) : Met l y ws rm Pc Qc mc ms free := by
  intro p e h1 h2 h3 s m args below h4 h5 h6 h7
  obtain ⟨n, o, g1, g2, g3, g4⟩ := hM p e h1 h2 h3 s m args below h4 h5 h6 h7
  refine ⟨n, o, g1, g2, g3, ?_⟩
  rcases g4 with g4 | ⟨q, -, E, ce, L, g5, -⟩
  · exact g4
  · exact absurd g5 (hx _ _ _)
theorem va_toRun {p : Program} {e : Env} {R : Room} {s : State} {m : MethodId} {args : Array Value} {below : List Frame} {meth : Method} {c : Code} {H : Heap} {locs : List Loc} {cells slots mc' ms' : Nat} {g : JFrame} {rest : List Value} {Qa : State → Outcome → State → Prop} {XC : String → State → State → Prop} {free : Addr → Prop} (hr : va_Run p l e R s m args below meth c H locs cells slots mc' ms' g rest Qa free) : vx_Run p l e R s m args below meth c H locs cells slots mc' ms' g rest Qa XC free := fun T hT hX => Or.inl (hr T hT hX)
theorem g_callI {cd : MD} {ix nA d' mc' ms' i : Nat} {av : List Value} {post' : Post} (hw : CId md.1.cls ix cd nA) (hM : CT l cd d' mc' ms' (.ref i :: av) N h post') (hlen : av.length = nA) (hcat : (st.map Value.category).sum ≤ 8) (hfr : d' + 1 ≤ d ∧ 8 + (cd.2.2.1 + 11) + 37 * d' ≤ 37 * d) (hrm : k + mc' ≤ mc ∧ n + ms' ≤ ms)
    (hN : ∀ r N' h', post' (.inl r) N' h' → N'.2 = true → N.2 = true ∧ N'.1 = N.1 + mc') (hNx : ∀ E N' h', ¬ post' (.inr E) N' h') (hs0 : st0 = av.reverse ++ .ref i :: st) (hd : decode md.2.1 pc = .ok (.invokespecial ix, 3)) (hq : pc + 3 = q)
    (kk : ∀ r N' h', post' (.inl r) N' h' → G l X md d mc ms post (k + mc') (n + ms') q al (r.toList ++ st) N' h') : G l X md d mc ms post k n pc al st0 N h := by
  subst hq hs0
  intro p e s m args below meth c D tc B b H locs ls Q hC hE hX hH hL hK hQ T hT hS
  have hsz := fun z => hH.tight hT hS.heapSize z
  obtain ⟨w1, w2, w3, w4, w5, w8, w6, w7⟩ := hw
  have hts := hC.2.2.2.2.2.1
  have hws : wsM cd = Cond.code cd.1 cd.2.1 cd.2.2.1 none :: LT := by rw [wsM_nil w6, w8]
  refine g_after hH (va_toRun (va_runI (Ts := LT) (cc := md.2.1) (nL := md.2.2.1) (own := md.1.cls) (As := av.map (cv B b)) (rest := st.map (cv B b)) (b := B + i) ⟨hC.1, hC.2.1, hC.2.2.1, hC.2.2.2.2.1, hts⟩ (vx_plain (hM D tc B b) (fun E _ _ z => by obtain ⟨⟨N', h', z, -⟩, -⟩ := z; exact hNx E N' h' z)) (cwI (index := ix) nA hts (LT_goodIn (by rw [hws]; intro w hw; simp only [List.mem_cons] at hw; rcases hw with rfl | hw <;> assumption)) hws rfl rfl (hts _ w4) (hts _ w1) (hts _ w2) w3 w7 hfr) ⟨PK_blind, fun U hU hW => ⟨rfl, PK_pre hH hE hsz U hU hW⟩⟩ rfl (by simpa using hlen) hL.1 (by simp [cv]) (monroom (catsum hcat)) hd hrm)) hN (fun E N' h' z => absurd z (hNx E N' h')) (fun r N' h' H1 locs1 hp hH1 => ?_) (fun E N' h' H1 locs1 q9 ce hp hH1 g1 g2 g3 => absurd hp (hNx E N' h')) T hT hS
  have := kk r N' h' hp p e s m args below meth c D tc B b H1 locs1 ls Q hC hE hX hH1 hL hK hQ
  cases r <;> exact this
theorem g_callIN {cd : MD} {ix nA d' mc' ms' i : Nat} {host : String} {av : List Value} {post' : Post} (hw : CNd md.1.cls ix cd host nA) (hM : CT l cd d' mc' ms' (.ref i :: av) N h post') (hlen : av.length = nA) (hcat : (st.map Value.category).sum ≤ 8) (hfr : d' + 1 ≤ d ∧ 8 + (cd.2.2.1 + 11) + 37 * d' ≤ 37 * d) (hrm : k + mc' ≤ mc ∧ n + ms' ≤ ms)
    (hN : ∀ r N' h', post' (.inl r) N' h' → N'.2 = true → N.2 = true ∧ N'.1 = N.1 + mc') (hNx : ∀ E N' h', ¬ post' (.inr E) N' h') (hs0 : st0 = av.reverse ++ .ref i :: st) (hd : decode md.2.1 pc = .ok (.invokespecial ix, 3)) (hq : pc + 3 = q)
    (kk : ∀ r N' h', post' (.inl r) N' h' → G l X md d mc ms post (k + mc') (n + ms') q al (r.toList ++ st) N' h') : G l X md d mc ms post k n pc al st0 N h := by
  subst hq hs0
  intro p e s m args below meth c D tc B b H locs ls Q hC hE hX hH hL hK hQ T hT hS
  have hsz := fun z => hH.tight hT hS.heapSize z
  obtain ⟨w1, w2, w3, w4, w5, w8, w6, w7⟩ := hw
  have hts := hC.2.2.2.2.2.1
  have hws : wsM cd = Cond.code cd.1 cd.2.1 cd.2.2.1 none :: LT := by rw [wsM_nil w6, w8]
  refine g_after hH (va_toRun (va_runIN (Ts := LT) (cc := md.2.1) (nL := md.2.2.1) (own := md.1.cls) (As := av.map (cv B b)) (rest := st.map (cv B b)) (b := B + i) ⟨hC.1, hC.2.1, hC.2.2.1, hC.2.2.2.2.1, hts⟩ (vx_plain (hM D tc B b) (fun E _ _ z => by obtain ⟨⟨N', h', z, -⟩, -⟩ := z; exact hNx E N' h' z)) ⟨va_cnB (index := ix) nA hts (LT_goodIn (by rw [hws]; intro w hw; simp only [List.mem_cons] at hw; rcases hw with rfl | hw <;> assumption)) hws rfl rfl (hE.2.2.2.2.2.1 _ w1) (hts _ w4) w7 hfr, w3, hts _ w2⟩ ⟨PK_blind, fun U hU hW => ⟨rfl, PK_pre hH hE hsz U hU hW⟩⟩ rfl (by simpa using hlen) hL.1 (by simp [cv]) (monroom (catsum hcat)) hd hrm)) hN (fun E N' h' z => absurd z (hNx E N' h')) (fun r N' h' H1 locs1 hp hH1 => ?_) (fun E N' h' H1 locs1 q9 ce hp hH1 g1 g2 g3 => absurd hp (hNx E N' h')) T hT hS
  have := kk r N' h' hp p e s m args below meth c D tc B b H1 locs1 ls Q hC hE hX hH1 hL hK hQ
  cases r <;> exact this
/-- the law's own world: the script of L ints xs lies at b, below all that is made -/
def scX (L : Nat) (xs : Nat → Int32) : State → Nat → Nat → Prop := fun s B b => va_X b L xs s s.heap ∧ b < s.heap.size ∧ ¬ B ≤ b
theorem g_slen {L : Nat} {xs : Nat → Int32} {u : UInt32} (hd : decode md.2.1 pc = .ok (.arraylength, 1)) (hq : pc + 1 = q) (kk : G l (scX L xs) md d mc ms post k n q al (.int (iI L) :: st) N h) : G l (scX L xs) md d mc ms post k n pc al (.float u :: st) N h := by
  subst hq
  intro p e s m args below meth c D tc B b H locs ls Q hC hE hX hH hL hK hQ
  have := kk p e s m args below meth c D tc B b H locs ls Q hC hE hX hH hL hK hQ
  refine va_slen hC.1 hC.2.1 hX.1 hX.2.1 hX.2.2 hH.2.2.1 hd ?_
  rw [show Int32.ofNat L = iI L from (iI_nI L).symm]
  exact this
theorem g_sld {L : Nat} {xs : Nat → Int32} {u : UInt32} {z : Int} (h0 : 0 ≤ z) (h1 : z < L) (hL9 : L < 2147483648) (hd : decode md.2.1 pc = .ok (.iaload, 1)) (hq : pc + 1 = q) (kk : G l (scX L xs) md d mc ms post k n q al (.int (xs z.toNat) :: st) N h) : G l (scX L xs) md d mc ms post k n pc al (.int (iI z) :: .float u :: st) N h := by
  subst hq
  intro p e s m args below meth c D tc B b H locs ls Q hC hE hX hH hL hK hQ
  have := kk p e s m args below meth c D tc B b H locs ls Q hC hE hX hH hL hK hQ
  refine va_sld hC.1 hC.2.1 hX.1 hX.2.1 hX.2.2 hH.2.2.1 (iI_in h0 h1 hL9) hd ?_
  rw [iI_clamp h0 (by omega)]
  exact this
end GNew
end
section
/-! ===== printed by mklinks.py: methods, and what the tables say of each field and call ===== -/
abbrev mX7_init : MD := (yX7_init, cX7_init, 1, none, [])
abbrev mX6_init : MD := (yX6_init, cX6_init, 2, none, [])
abbrev mX0_init : MD := (yX0_init, cX0_init, 1, none, [])
abbrev mX4_init : MD := (yX4_init, cX4_init, 1, none, [])
abbrev mX2_init : MD := (yX2_init, cX2_init, 2, none, [])
abbrev mX3_init : MD := (yX3_init, cX3_init, 1, none, [])
abbrev mX1_init : MD := (yX1_init, cX1_init, 1, none, [])
abbrev mX7_reads : MD := (yX7_reads, cX7_reads, 1, (some .int), [])
abbrev mX7_hits : MD := (yX7_hits, cX7_hits, 1, (some .int), [])
abbrev mX7_cached : MD := (yX7_cached, cX7_cached, 1, (some .int), [])
abbrev mX7_digest : MD := (yX7_digest, cX7_digest, 4, (some .long), [])
abbrev mX7_mixList : MD := (yX7_mixList, cX7_mixList, 6, (some .long), [])
abbrev mX7_mix : MD := (yX7_mix, cX7_mix, 3, (some .long), [])
abbrev mX7_mixRow : MD := (yX7_mixRow, cX7_mixRow, 7, (some .long), [])
abbrev mX1_write : MD := (yX1_write, cX1_write, 5, none, [])
abbrev mX4_factOf : MD := (yX4_factOf, cX4_factOf, 3, (some .int), [])
abbrev mX1_putHeader : MD := (yX1_putHeader, cX1_putHeader, 3, none, [])
abbrev mX1_put : MD := (yX1_put, cX1_put, 4, none, [])
abbrev mX4_widthOf : MD := (yX4_widthOf, cX4_widthOf, 2, (some .int), [])
abbrev mX1_putBitmap : MD := (yX1_putBitmap, cX1_putBitmap, 8, none, [])
abbrev mX4_documentAt : MD := (yX4_documentAt, cX4_documentAt, 2, (some .int), [])
abbrev mX1_setBit : MD := (yX1_setBit, cX1_setBit, 2, none, [])
abbrev mX1_putHighParts : MD := (yX1_putHighParts, cX1_putHighParts, 9, none, [])
abbrev mX5_highLength : MD := (yX5_highLength, cX5_highLength, 3, (some .int), [])
abbrev mX1_putLowParts : MD := (yX1_putLowParts, cX1_putLowParts, 8, none, [])
abbrev mL_append : MD := (yL_append, cL_append, 5, (some .int), [(0, 10, 13, 13), (0, 10, 17, 15), (0, 10, 21, 17)])
abbrev mX7_append : MD := (yX7_append, cX7_append, 3, (some .int), [])
abbrev mX7_appendRange : MD := (yX7_appendRange, cX7_appendRange, 7, (some .int), [])
abbrev mX7_listAt : MD := (yX7_listAt, cX7_listAt, 2, (some (.object "MonotonePostings$Postings")), [])
abbrev mX7_requireList : MD := (yX7_requireList, cX7_requireList, 1, none, [])
abbrev mX7_requireIndex : MD := (yX7_requireIndex, cX7_requireIndex, 2, none, [])
abbrev mX7_requireRange : MD := (yX7_requireRange, cX7_requireRange, 3, none, [])
abbrev mX7_requireBetween : MD := (yX7_requireBetween, cX7_requireBetween, 3, none, [])
abbrev mX4_lastDocument : MD := (yX4_lastDocument, cX4_lastDocument, 1, (some .int), [])
abbrev mX2_save : MD := (yX2_save, cX2_save, 2, none, [])
abbrev mX6_copyFrom : MD := (yX6_copyFrom, cX6_copyFrom, 3, none, [])
abbrev mX4_copyFrom : MD := (yX4_copyFrom, cX4_copyFrom, 2, none, [])
abbrev mX0_copyFrom : MD := (yX0_copyFrom, cX0_copyFrom, 2, none, [])
abbrev mX4_push : MD := (yX4_push, cX4_push, 2, none, [])
abbrev mX7_recode : MD := (yX7_recode, cX7_recode, 2, none, [])
abbrev mX3_divide : MD := (yX3_divide, cX3_divide, 5, none, [])
abbrev mX3_chooseEnd : MD := (yX3_chooseEnd, cX3_chooseEnd, 7, none, [])
abbrev mX4_widthBetween : MD := (yX4_widthBetween, cX4_widthBetween, 3, (some .int), [])
abbrev mX5_bestSize : MD := (yX5_bestSize, cX5_bestSize, 4, (some .int), [])
abbrev mX5_lowBits : MD := (yX5_lowBits, cX5_lowBits, 3, (some .int), [])
abbrev mX4_addPart : MD := (yX4_addPart, cX4_addPart, 8, none, [])
abbrev mX5_bestKind : MD := (yX5_bestKind, cX5_bestKind, 3, (some .int), [])
abbrev mX0_dropList : MD := (yX0_dropList, cX0_dropList, 2, none, [])
abbrev mX0_dropBetween : MD := (yX0_dropBetween, cX0_dropBetween, 6, (some .int), [])
abbrev mL_appendRange : MD := (yL_appendRange, cL_appendRange, 7, (some .int), [(0, 14, 17, 13), (0, 14, 21, 15), (0, 14, 25, 17)])
abbrev mL_clear : MD := (yL_clear, cL_clear, 4, (some .int), [(0, 9, 12, 13)])
abbrev mX7_clear : MD := (yX7_clear, cX7_clear, 3, (some .int), [])
abbrev mX7_writeResult : MD := (yX7_writeResult, cX7_writeResult, 3, (some .int), [])
abbrev mX4_replace : MD := (yX4_replace, cX4_replace, 3, none, [])
abbrev mL_size : MD := (yL_size, cL_size, 4, (some .int), [(0, 9, 12, 13)])
abbrev mX7_size : MD := (yX7_size, cX7_size, 2, (some .int), [])
abbrev mL_document : MD := (yL_document, cL_document, 5, (some .int), [(0, 10, 13, 13)])
abbrev mX7_document : MD := (yX7_document, cX7_document, 4, (some .int), [])
abbrev mL_rank : MD := (yL_rank, cL_rank, 5, (some .int), [(0, 10, 13, 13), (0, 10, 17, 15)])
abbrev mX7_rank : MD := (yX7_rank, cX7_rank, 4, (some .int), [])
abbrev mX4_countBelow : MD := (yX4_countBelow, cX4_countBelow, 3, (some .int), [])
abbrev mL_partitions : MD := (yL_partitions, cL_partitions, 4, (some .int), [(0, 9, 12, 13)])
abbrev mX7_partitions : MD := (yX7_partitions, cX7_partitions, 2, (some .int), [])
abbrev mL_partition : MD := (yL_partition, cL_partition, 6, (some .int), [(0, 12, 15, 13), (0, 12, 19, 15)])
abbrev mX7_partition : MD := (yX7_partition, cX7_partition, 5, (some .int), [])
abbrev mL_codeLength : MD := (yL_codeLength, cL_codeLength, 4, (some .int), [(0, 9, 12, 13)])
abbrev mX7_codeLength : MD := (yX7_codeLength, cX7_codeLength, 2, (some .int), [])
abbrev mX4_codeSize : MD := (yX4_codeSize, cX4_codeSize, 3, (some .int), [])
abbrev mL_codeBit : MD := (yL_codeBit, cL_codeBit, 5, (some .int), [(0, 10, 13, 13)])
abbrev mX7_codeBit : MD := (yX7_codeBit, cX7_codeBit, 4, (some .int), [])
abbrev mX1_bitAt : MD := (yX1_bitAt, cX1_bitAt, 2, (some .int), [])
abbrev mL_fixedLength : MD := (yL_fixedLength, cL_fixedLength, 5, (some .int), [(0, 10, 13, 13), (0, 10, 17, 15)])
abbrev mX7_fixedLength : MD := (yX7_fixedLength, cX7_fixedLength, 4, (some .int), [])
abbrev mX4_sizeInParts : MD := (yX4_sizeInParts, cX4_sizeInParts, 6, (some .int), [])
abbrev mL_bitsPerDocument : MD := (yL_bitsPerDocument, cL_bitsPerDocument, 4, (some .int), [(0, 8, 11, 13)])
abbrev mX7_bitsPerDocument : MD := (yX7_bitsPerDocument, cX7_bitsPerDocument, 3, (some .double), [])
abbrev mL_nextAtLeast : MD := (yL_nextAtLeast, cL_nextAtLeast, 5, (some .int), [(0, 10, 13, 13), (0, 10, 17, 15)])
abbrev mX7_nextAtLeast : MD := (yX7_nextAtLeast, cX7_nextAtLeast, 3, (some .int), [])
abbrev mX6_query : MD := (yX6_query, cX6_query, 6, (some .int), [])
abbrev mX6_queryInside : MD := (yX6_queryInside, cX6_queryInside, 6, (some .int), [])
abbrev mX0_use : MD := (yX0_use, cX0_use, 3, (some .boolean), [])
abbrev mX0_shrinkTo : MD := (yX0_shrinkTo, cX0_shrinkTo, 3, none, [])
abbrev mX4_readsInside : MD := (yX4_readsInside, cX4_readsInside, 8, (some .int), [])
abbrev mL_countIntersection : MD := (yL_countIntersection, cL_countIntersection, 4, (some .int), [(0, 9, 12, 15)])
abbrev mX7_countIntersection : MD := (yX7_countIntersection, cX7_countIntersection, 2, (some .int), [])
abbrev mX7_requireSet : MD := (yX7_requireSet, cX7_requireSet, 1, none, [])
abbrev mX7_findIntersection : MD := (yX7_findIntersection, cX7_findIntersection, 8, (some .int), [])
abbrev mX7_orderLists : MD := (yX7_orderLists, cX7_orderLists, 5, (some .int), [])
abbrev mX7_askOthers : MD := (yX7_askOthers, cX7_askOthers, 5, (some .int), [])
abbrev mL_intersect : MD := (yL_intersect, cL_intersect, 5, (some .int), [(0, 10, 13, 15), (0, 10, 17, 13)])
abbrev mX7_intersect : MD := (yX7_intersect, cX7_intersect, 3, (some .int), [])
abbrev mL_unite : MD := (yL_unite, cL_unite, 6, (some .int), [(0, 12, 15, 13), (0, 12, 19, 17)])
abbrev mX7_unite : MD := (yX7_unite, cX7_unite, 5, (some .int), [])
abbrev mX7_mergeIntoResult : MD := (yX7_mergeIntoResult, cX7_mergeIntoResult, 8, (some .int), [])
abbrev mL_subtract : MD := (yL_subtract, cL_subtract, 6, (some .int), [(0, 12, 15, 13)])
abbrev mX7_subtract : MD := (yX7_subtract, cX7_subtract, 5, (some .int), [])
abbrev mX7_differenceIntoResult : MD := (yX7_differenceIntoResult, cX7_differenceIntoResult, 6, (some .int), [])
abbrev mL_setCapacity : MD := (yL_setCapacity, cL_setCapacity, 4, (some .int), [(0, 9, 12, 15)])
abbrev mX7_setCapacity : MD := (yX7_setCapacity, cX7_setCapacity, 3, (some .int), [])
abbrev mX0_resize : MD := (yX0_resize, cX0_resize, 2, none, [])
abbrev mL_cachedAt : MD := (yL_cachedAt, cL_cachedAt, 4, (some .int), [(0, 9, 12, 13)])
abbrev mX7_cachedAt : MD := (yX7_cachedAt, cX7_cachedAt, 2, (some .int), [])
abbrev mL_undo : MD := (yL_undo, cL_undo, 3, (some .int), [(0, 8, 11, 17)])
abbrev mX7_undo : MD := (yX7_undo, cX7_undo, 1, (some .int), [])
abbrev mX2_restore : MD := (yX2_restore, cX2_restore, 2, none, [])
abbrev mX8_init : MD := (yX8_init, cX8_init, 1, none, [])
abbrev mX8_thrown : MD := (yX8_thrown, cX8_thrown, 1, (some .int), [])
abbrev mX8_append : MD := (yX8_append, cX8_append, 3, (some .int), [])
abbrev mX8_isList : MD := (yX8_isList, cX8_isList, 1, (some .boolean), [])
abbrev mX8_in : MD := (yX8_in, cX8_in, 3, (some .boolean), [])
abbrev mX8_fails : MD := (yX8_fails, cX8_fails, 2, (some .int), [])
abbrev mX8_isBehind : MD := (yX8_isBehind, cX8_isBehind, 3, (some .boolean), [])
abbrev mX8_doc : MD := (yX8_doc, cX8_doc, 3, (some .int), [])
abbrev mX8_save : MD := (yX8_save, cX8_save, 2, none, [])
abbrev mX8_changes : MD := (yX8_changes, cX8_changes, 3, none, [])
abbrev mX8_drop : MD := (yX8_drop, cX8_drop, 3, none, [])
abbrev mX8_add : MD := (yX8_add, cX8_add, 3, none, [])
abbrev mX8_appendRange : MD := (yX8_appendRange, cX8_appendRange, 6, (some .int), [])
abbrev mX8_clear : MD := (yX8_clear, cX8_clear, 3, (some .int), [])
abbrev mX8_size : MD := (yX8_size, cX8_size, 2, (some .int), [])
abbrev mX8_document : MD := (yX8_document, cX8_document, 3, (some .int), [])
abbrev mX8_rank : MD := (yX8_rank, cX8_rank, 5, (some .int), [])
abbrev mX8_partitions : MD := (yX8_partitions, cX8_partitions, 2, (some .int), [])
abbrev mX8_lay : MD := (yX8_lay, cX8_lay, 6, none, [])
abbrev mX8_sizeOf : MD := (yX8_sizeOf, cX8_sizeOf, 6, (some .int), [])
abbrev mX8_kindOf : MD := (yX8_kindOf, cX8_kindOf, 2, (some .int), [])
abbrev mX8_sparse : MD := (yX8_sparse, cX8_sparse, 3, (some .int), [])
abbrev mX8_lowBits : MD := (yX8_lowBits, cX8_lowBits, 3, (some .int), [])
abbrev mX8_partition : MD := (yX8_partition, cX8_partition, 4, (some .int), [])
abbrev mX8_property : MD := (yX8_property, cX8_property, 4, (some .int), [])
abbrev mX8_kindIn : MD := (yX8_kindIn, cX8_kindIn, 3, (some .int), [])
abbrev mX8_documentsIn : MD := (yX8_documentsIn, cX8_documentsIn, 3, (some .int), [])
abbrev mX8_beginOf : MD := (yX8_beginOf, cX8_beginOf, 3, (some .int), [])
abbrev mX8_widthOf : MD := (yX8_widthOf, cX8_widthOf, 3, (some .int), [])
abbrev mX8_lastIn : MD := (yX8_lastIn, cX8_lastIn, 3, (some .int), [])
abbrev mX8_firstIn : MD := (yX8_firstIn, cX8_firstIn, 3, (some .int), [])
abbrev mX8_lowIn : MD := (yX8_lowIn, cX8_lowIn, 3, (some .int), [])
abbrev mX8_codeLength : MD := (yX8_codeLength, cX8_codeLength, 2, (some .int), [])
abbrev mX8_bitsOf : MD := (yX8_bitsOf, cX8_bitsOf, 4, (some .int), [])
abbrev mX8_codeBit : MD := (yX8_codeBit, cX8_codeBit, 3, (some .int), [])
abbrev mX8_bitOf : MD := (yX8_bitOf, cX8_bitOf, 5, (some .int), [])
abbrev mX8_headerBit : MD := (yX8_headerBit, cX8_headerBit, 5, (some .int), [])
abbrev mX8_bodyBit : MD := (yX8_bodyBit, cX8_bodyBit, 12, (some .int), [])
abbrev mX8_fixedLength : MD := (yX8_fixedLength, cX8_fixedLength, 5, (some .int), [])
abbrev mX8_bitsPerDocument : MD := (yX8_bitsPerDocument, cX8_bitsPerDocument, 2, (some .double), [])
abbrev mX8_nextAtLeast : MD := (yX8_nextAtLeast, cX8_nextAtLeast, 3, (some .int), [])
abbrev mX8_asks : MD := (yX8_asks, cX8_asks, 4, (some .int), [])
abbrev mX8_opens : MD := (yX8_opens, cX8_opens, 7, (some .int), [])
abbrev mX8_readsFor : MD := (yX8_readsFor, cX8_readsFor, 10, (some .int), [])
abbrev mX8_countIntersection : MD := (yX8_countIntersection, cX8_countIntersection, 2, (some .int), [])
abbrev mX8_isSet : MD := (yX8_isSet, cX8_isSet, 1, (some .boolean), [])
abbrev mX8_meets : MD := (yX8_meets, cX8_meets, 7, (some .int), [])
abbrev mX8_intersect : MD := (yX8_intersect, cX8_intersect, 3, (some .int), [])
abbrev mX8_writes : MD := (yX8_writes, cX8_writes, 4, (some .int), [])
abbrev mX8_unite : MD := (yX8_unite, cX8_unite, 6, (some .int), [])
abbrev mX8_has : MD := (yX8_has, cX8_has, 5, (some .boolean), [])
abbrev mX8_subtract : MD := (yX8_subtract, cX8_subtract, 6, (some .int), [])
abbrev mX8_reads : MD := (yX8_reads, cX8_reads, 1, (some .int), [])
abbrev mX8_hits : MD := (yX8_hits, cX8_hits, 1, (some .int), [])
abbrev mX8_setCapacity : MD := (yX8_setCapacity, cX8_setCapacity, 3, (some .int), [])
abbrev mX8_cached : MD := (yX8_cached, cX8_cached, 1, (some .int), [])
abbrev mX8_cachedAt : MD := (yX8_cachedAt, cX8_cachedAt, 2, (some .int), [])
abbrev mX8_undo : MD := (yX8_undo, cX8_undo, 2, (some .int), [])
abbrev mX8_digest : MD := (yX8_digest, cX8_digest, 6, (some .long), [])
abbrev mX8_mixed : MD := (yX8_mixed, cX8_mixed, 4, (some .long), [])
abbrev mL_law : MD := (yL_law, cL_law, 9, some .boolean, [])
theorem tw_45 : Cond.laysFinal RX0 "MonotonePostings$Cache" "keys" "[I" ∈ LT := LT_of 45 (by decide +kernel) (by decide +kernel)
theorem tw_47 : Cond.lays RX0 "MonotonePostings$Cache" "count" "I" ∈ LT := LT_of 47 (by decide +kernel) (by decide +kernel)
theorem tw_49 : Cond.lays RX0 "MonotonePostings$Cache" "capacity" "I" ∈ LT := LT_of 49 (by decide +kernel) (by decide +kernel)
theorem luX0 : ∀ w ∈ u_ws RX0 TX0 3, w ∈ LT := List.forall_mem_cons.mpr ⟨tw_45, List.forall_mem_cons.mpr ⟨tw_47, List.forall_mem_cons.mpr ⟨tw_49, fun _ h => absurd h List.not_mem_nil⟩⟩⟩
theorem tw_139 : Cond.laysFinal RX1 "MonotonePostings$CodeRow" "bits" "[I" ∈ LT := LT_of 139 (by decide +kernel) (by decide +kernel)
theorem tw_141 : Cond.lays RX1 "MonotonePostings$CodeRow" "length" "I" ∈ LT := LT_of 141 (by decide +kernel) (by decide +kernel)
theorem luX1 : ∀ w ∈ u_ws RX1 TX1 2, w ∈ LT := List.forall_mem_cons.mpr ⟨tw_139, List.forall_mem_cons.mpr ⟨tw_141, fun _ h => absurd h List.not_mem_nil⟩⟩
theorem tw_109 : Cond.laysFinal RX2 "MonotonePostings$History" "states" "[LMonotonePostings$State;" ∈ LT := LT_of 109 (by decide +kernel) (by decide +kernel)
theorem tw_111 : Cond.lays RX2 "MonotonePostings$History" "next" "I" ∈ LT := LT_of 111 (by decide +kernel) (by decide +kernel)
theorem tw_113 : Cond.lays RX2 "MonotonePostings$History" "count" "I" ∈ LT := LT_of 113 (by decide +kernel) (by decide +kernel)
theorem luX2 : ∀ w ∈ u_ws RX2 TX2 3, w ∈ LT := List.forall_mem_cons.mpr ⟨tw_109, List.forall_mem_cons.mpr ⟨tw_111, List.forall_mem_cons.mpr ⟨tw_113, fun _ h => absurd h List.not_mem_nil⟩⟩⟩
theorem tw_124 : Cond.laysFinal RX3 "MonotonePostings$Partitioner" "weights" "[I" ∈ LT := LT_of 124 (by decide +kernel) (by decide +kernel)
theorem tw_126 : Cond.laysFinal RX3 "MonotonePostings$Partitioner" "ends" "[I" ∈ LT := LT_of 126 (by decide +kernel) (by decide +kernel)
theorem luX3 : ∀ w ∈ u_ws RX3 TX3 2, w ∈ LT := List.forall_mem_cons.mpr ⟨tw_124, List.forall_mem_cons.mpr ⟨tw_126, fun _ h => absurd h List.not_mem_nil⟩⟩
theorem tw_70 : Cond.laysFinal RX4 "MonotonePostings$Postings" "documents" "[I" ∈ LT := LT_of 70 (by decide +kernel) (by decide +kernel)
theorem tw_72 : Cond.lays RX4 "MonotonePostings$Postings" "count" "I" ∈ LT := LT_of 72 (by decide +kernel) (by decide +kernel)
theorem tw_74 : Cond.laysFinal RX4 "MonotonePostings$Postings" "facts" "[I" ∈ LT := LT_of 74 (by decide +kernel) (by decide +kernel)
theorem tw_76 : Cond.lays RX4 "MonotonePostings$Postings" "parts" "I" ∈ LT := LT_of 76 (by decide +kernel) (by decide +kernel)
theorem luX4 : ∀ w ∈ u_ws RX4 TX4 4, w ∈ LT := List.forall_mem_cons.mpr ⟨tw_70, List.forall_mem_cons.mpr ⟨tw_72, List.forall_mem_cons.mpr ⟨tw_74, List.forall_mem_cons.mpr ⟨tw_76, fun _ h => absurd h List.not_mem_nil⟩⟩⟩⟩
theorem tw_87 : Cond.laysFinal RX6 "MonotonePostings$State" "lists" "[LMonotonePostings$Postings;" ∈ LT := LT_of 87 (by decide +kernel) (by decide +kernel)
theorem tw_89 : Cond.laysFinal RX6 "MonotonePostings$State" "cache" "LMonotonePostings$Cache;" ∈ LT := LT_of 89 (by decide +kernel) (by decide +kernel)
theorem tw_91 : Cond.lays RX6 "MonotonePostings$State" "reads" "I" ∈ LT := LT_of 91 (by decide +kernel) (by decide +kernel)
theorem tw_93 : Cond.lays RX6 "MonotonePostings$State" "hits" "I" ∈ LT := LT_of 93 (by decide +kernel) (by decide +kernel)
theorem luX6 : ∀ w ∈ u_ws RX6 TX6 4, w ∈ LT := List.forall_mem_cons.mpr ⟨tw_87, List.forall_mem_cons.mpr ⟨tw_89, List.forall_mem_cons.mpr ⟨tw_91, List.forall_mem_cons.mpr ⟨tw_93, fun _ h => absurd h List.not_mem_nil⟩⟩⟩⟩
theorem tw_150 : Cond.laysFinal RX7 "MonotonePostings" "now" "LMonotonePostings$State;" ∈ LT := LT_of 150 (by decide +kernel) (by decide +kernel)
theorem tw_152 : Cond.laysFinal RX7 "MonotonePostings" "history" "LMonotonePostings$History;" ∈ LT := LT_of 152 (by decide +kernel) (by decide +kernel)
theorem tw_154 : Cond.laysFinal RX7 "MonotonePostings" "partitioner" "LMonotonePostings$Partitioner;" ∈ LT := LT_of 154 (by decide +kernel) (by decide +kernel)
theorem tw_156 : Cond.laysFinal RX7 "MonotonePostings" "code" "LMonotonePostings$CodeRow;" ∈ LT := LT_of 156 (by decide +kernel) (by decide +kernel)
theorem tw_158 : Cond.laysFinal RX7 "MonotonePostings" "order" "[I" ∈ LT := LT_of 158 (by decide +kernel) (by decide +kernel)
theorem tw_160 : Cond.laysFinal RX7 "MonotonePostings" "result" "[I" ∈ LT := LT_of 160 (by decide +kernel) (by decide +kernel)
theorem luX7 : ∀ w ∈ u_ws RX7 TX7 6, w ∈ LT := List.forall_mem_cons.mpr ⟨tw_150, List.forall_mem_cons.mpr ⟨tw_152, List.forall_mem_cons.mpr ⟨tw_154, List.forall_mem_cons.mpr ⟨tw_156, List.forall_mem_cons.mpr ⟨tw_158, List.forall_mem_cons.mpr ⟨tw_160, fun _ h => absurd h List.not_mem_nil⟩⟩⟩⟩⟩⟩
theorem tw_667 : Cond.lays RX8 "MonotonePostingsModel" "thrown" "I" ∈ LT := LT_of 667 (by decide +kernel) (by decide +kernel)
theorem tw_669 : Cond.laysFinal RX8 "MonotonePostingsModel" "w" "[I" ∈ LT := LT_of 669 (by decide +kernel) (by decide +kernel)
theorem tw_671 : Cond.laysFinal RX8 "MonotonePostingsModel" "past" "[I" ∈ LT := LT_of 671 (by decide +kernel) (by decide +kernel)
theorem tw_673 : Cond.lays RX8 "MonotonePostingsModel" "saved" "I" ∈ LT := LT_of 673 (by decide +kernel) (by decide +kernel)
theorem tw_675 : Cond.laysFinal RX8 "MonotonePostingsModel" "begins" "[I" ∈ LT := LT_of 675 (by decide +kernel) (by decide +kernel)
theorem tw_677 : Cond.laysFinal RX8 "MonotonePostingsModel" "many" "[I" ∈ LT := LT_of 677 (by decide +kernel) (by decide +kernel)
theorem tw_679 : Cond.laysFinal RX8 "MonotonePostingsModel" "laid" "[Z" ∈ LT := LT_of 679 (by decide +kernel) (by decide +kernel)
theorem tw_681 : Cond.laysFinal RX8 "MonotonePostingsModel" "cost" "[I" ∈ LT := LT_of 681 (by decide +kernel) (by decide +kernel)
theorem tw_683 : Cond.laysFinal RX8 "MonotonePostingsModel" "count" "[I" ∈ LT := LT_of 683 (by decide +kernel) (by decide +kernel)
theorem tw_685 : Cond.laysFinal RX8 "MonotonePostingsModel" "next" "[I" ∈ LT := LT_of 685 (by decide +kernel) (by decide +kernel)
theorem tw_687 : Cond.laysFinal RX8 "MonotonePostingsModel" "found" "[I" ∈ LT := LT_of 687 (by decide +kernel) (by decide +kernel)
theorem tw_689 : Cond.laysFinal RX8 "MonotonePostingsModel" "order" "[I" ∈ LT := LT_of 689 (by decide +kernel) (by decide +kernel)
theorem luX8 : ∀ w ∈ u_ws RX8 TX8 12, w ∈ LT := List.forall_mem_cons.mpr ⟨tw_667, List.forall_mem_cons.mpr ⟨tw_669, List.forall_mem_cons.mpr ⟨tw_671, List.forall_mem_cons.mpr ⟨tw_673, List.forall_mem_cons.mpr ⟨tw_675, List.forall_mem_cons.mpr ⟨tw_677, List.forall_mem_cons.mpr ⟨tw_679, List.forall_mem_cons.mpr ⟨tw_681, List.forall_mem_cons.mpr ⟨tw_683, List.forall_mem_cons.mpr ⟨tw_685, List.forall_mem_cons.mpr ⟨tw_687, List.forall_mem_cons.mpr ⟨tw_689, fun _ h => absurd h List.not_mem_nil⟩⟩⟩⟩⟩⟩⟩⟩⟩⟩⟩⟩
theorem tw_39 : Cond.fieldLink RX0 9 "MonotonePostings$Cache" "keys" "[I" ∈ LT := LT_of 39 (by decide +kernel) (by decide +kernel)
theorem fX0_9r : FLr RX0 9 0 0 := ⟨RX0, TX0, 3, rfl, by decide, luX0, tw_39⟩
theorem fX0_9 : FLd RX0 9 0 0 (.array .int) true := ⟨RX0, TX0, 3, tyX0, rfl, by decide, luX0, tw_39, tyX0_ok, nmX0, by decide +kernel, rfl, fun _ => rfl⟩
theorem tw_40 : Cond.fieldLink RX7 166 "MonotonePostings$Cache" "keys" "[I" ∈ LT := LT_of 40 (by decide +kernel) (by decide +kernel)
theorem fX7_166r : FLr RX7 166 0 0 := ⟨RX0, TX0, 3, rfl, by decide, luX0, tw_40⟩
theorem tw_41 : Cond.fieldLink RX0 15 "MonotonePostings$Cache" "count" "I" ∈ LT := LT_of 41 (by decide +kernel) (by decide +kernel)
theorem fX0_15r : FLr RX0 15 0 1 := ⟨RX0, TX0, 3, rfl, by decide, luX0, tw_41⟩
theorem fX0_15 : FLd RX0 15 0 1 (.int) false := ⟨RX0, TX0, 3, tyX0, rfl, by decide, luX0, tw_41, tyX0_ok, nmX0, by decide +kernel, rfl, fun h => by cases h⟩
theorem tw_42 : Cond.fieldLink RX7 165 "MonotonePostings$Cache" "count" "I" ∈ LT := LT_of 42 (by decide +kernel) (by decide +kernel)
theorem fX7_165r : FLr RX7 165 0 1 := ⟨RX0, TX0, 3, rfl, by decide, luX0, tw_42⟩
theorem fX7_165 : FLd RX7 165 0 1 (.int) false := ⟨RX0, TX0, 3, tyX0, rfl, by decide, luX0, tw_42, tyX0_ok, nmX0, by decide +kernel, rfl, fun h => by cases h⟩
theorem tw_43 : Cond.fieldLink RX0 19 "MonotonePostings$Cache" "capacity" "I" ∈ LT := LT_of 43 (by decide +kernel) (by decide +kernel)
theorem fX0_19r : FLr RX0 19 0 2 := ⟨RX0, TX0, 3, rfl, by decide, luX0, tw_43⟩
theorem fX0_19 : FLd RX0 19 0 2 (.int) false := ⟨RX0, TX0, 3, tyX0, rfl, by decide, luX0, tw_43, tyX0_ok, nmX0, by decide +kernel, rfl, fun h => by cases h⟩
theorem tw_44 : Cond.fieldLink RX7 157 "MonotonePostings$Cache" "capacity" "I" ∈ LT := LT_of 44 (by decide +kernel) (by decide +kernel)
theorem fX7_157r : FLr RX7 157 0 2 := ⟨RX0, TX0, 3, rfl, by decide, luX0, tw_44⟩
theorem fX7_157 : FLd RX7 157 0 2 (.int) false := ⟨RX0, TX0, 3, tyX0, rfl, by decide, luX0, tw_44, tyX0_ok, nmX0, by decide +kernel, rfl, fun h => by cases h⟩
theorem tw_58 : Cond.fieldLink RX4 9 "MonotonePostings$Postings" "documents" "[I" ∈ LT := LT_of 58 (by decide +kernel) (by decide +kernel)
theorem fX4_9r : FLr RX4 9 4 0 := ⟨RX4, TX4, 4, rfl, by decide, luX4, tw_58⟩
theorem fX4_9 : FLd RX4 9 4 0 (.array .int) true := ⟨RX4, TX4, 4, tyX4, rfl, by decide, luX4, tw_58, tyX4_ok, nmX4, by decide +kernel, rfl, fun _ => rfl⟩
theorem tw_59 : Cond.fieldLink RX7 218 "MonotonePostings$Postings" "documents" "[I" ∈ LT := LT_of 59 (by decide +kernel) (by decide +kernel)
theorem fX7_218r : FLr RX7 218 4 0 := ⟨RX4, TX4, 4, rfl, by decide, luX4, tw_59⟩
theorem tw_60 : Cond.fieldLink RX4 15 "MonotonePostings$Postings" "count" "I" ∈ LT := LT_of 60 (by decide +kernel) (by decide +kernel)
theorem fX4_15r : FLr RX4 15 4 1 := ⟨RX4, TX4, 4, rfl, by decide, luX4, tw_60⟩
theorem fX4_15 : FLd RX4 15 4 1 (.int) false := ⟨RX4, TX4, 4, tyX4, rfl, by decide, luX4, tw_60, tyX4_ok, nmX4, by decide +kernel, rfl, fun h => by cases h⟩
theorem tw_61 : Cond.fieldLink RX3 18 "MonotonePostings$Postings" "count" "I" ∈ LT := LT_of 61 (by decide +kernel) (by decide +kernel)
theorem fX3_18r : FLr RX3 18 4 1 := ⟨RX4, TX4, 4, rfl, by decide, luX4, tw_61⟩
theorem fX3_18 : FLd RX3 18 4 1 (.int) false := ⟨RX4, TX4, 4, tyX4, rfl, by decide, luX4, tw_61, tyX4_ok, nmX4, by decide +kernel, rfl, fun h => by cases h⟩
theorem tw_62 : Cond.fieldLink RX7 69 "MonotonePostings$Postings" "count" "I" ∈ LT := LT_of 62 (by decide +kernel) (by decide +kernel)
theorem fX7_69r : FLr RX7 69 4 1 := ⟨RX4, TX4, 4, rfl, by decide, luX4, tw_62⟩
theorem fX7_69 : FLd RX7 69 4 1 (.int) false := ⟨RX4, TX4, 4, tyX4, rfl, by decide, luX4, tw_62, tyX4_ok, nmX4, by decide +kernel, rfl, fun h => by cases h⟩
theorem tw_63 : Cond.fieldLink RX4 19 "MonotonePostings$Postings" "facts" "[I" ∈ LT := LT_of 63 (by decide +kernel) (by decide +kernel)
theorem fX4_19r : FLr RX4 19 4 2 := ⟨RX4, TX4, 4, rfl, by decide, luX4, tw_63⟩
theorem fX4_19 : FLd RX4 19 4 2 (.array .int) true := ⟨RX4, TX4, 4, tyX4, rfl, by decide, luX4, tw_63, tyX4_ok, nmX4, by decide +kernel, rfl, fun _ => rfl⟩
theorem tw_64 : Cond.fieldLink RX7 221 "MonotonePostings$Postings" "facts" "[I" ∈ LT := LT_of 64 (by decide +kernel) (by decide +kernel)
theorem fX7_221r : FLr RX7 221 4 2 := ⟨RX4, TX4, 4, rfl, by decide, luX4, tw_64⟩
theorem tw_65 : Cond.fieldLink RX4 22 "MonotonePostings$Postings" "parts" "I" ∈ LT := LT_of 65 (by decide +kernel) (by decide +kernel)
theorem fX4_22r : FLr RX4 22 4 3 := ⟨RX4, TX4, 4, rfl, by decide, luX4, tw_65⟩
theorem fX4_22 : FLd RX4 22 4 3 (.int) false := ⟨RX4, TX4, 4, tyX4, rfl, by decide, luX4, tw_65, tyX4_ok, nmX4, by decide +kernel, rfl, fun h => by cases h⟩
theorem tw_66 : Cond.fieldLink RX3 28 "MonotonePostings$Postings" "parts" "I" ∈ LT := LT_of 66 (by decide +kernel) (by decide +kernel)
theorem fX3_28r : FLr RX3 28 4 3 := ⟨RX4, TX4, 4, rfl, by decide, luX4, tw_66⟩
theorem fX3_28 : FLd RX3 28 4 3 (.int) false := ⟨RX4, TX4, 4, tyX4, rfl, by decide, luX4, tw_66, tyX4_ok, nmX4, by decide +kernel, rfl, fun h => by cases h⟩
theorem tw_67 : Cond.fieldLink RX1 19 "MonotonePostings$Postings" "parts" "I" ∈ LT := LT_of 67 (by decide +kernel) (by decide +kernel)
theorem fX1_19r : FLr RX1 19 4 3 := ⟨RX4, TX4, 4, rfl, by decide, luX4, tw_67⟩
theorem fX1_19 : FLd RX1 19 4 3 (.int) false := ⟨RX4, TX4, 4, tyX4, rfl, by decide, luX4, tw_67, tyX4_ok, nmX4, by decide +kernel, rfl, fun h => by cases h⟩
theorem tw_68 : Cond.fieldLink RX6 39 "MonotonePostings$Postings" "parts" "I" ∈ LT := LT_of 68 (by decide +kernel) (by decide +kernel)
theorem fX6_39r : FLr RX6 39 4 3 := ⟨RX4, TX4, 4, rfl, by decide, luX4, tw_68⟩
theorem fX6_39 : FLd RX6 39 4 3 (.int) false := ⟨RX4, TX4, 4, tyX4, rfl, by decide, luX4, tw_68, tyX4_ok, nmX4, by decide +kernel, rfl, fun h => by cases h⟩
theorem tw_69 : Cond.fieldLink RX7 107 "MonotonePostings$Postings" "parts" "I" ∈ LT := LT_of 69 (by decide +kernel) (by decide +kernel)
theorem fX7_107r : FLr RX7 107 4 3 := ⟨RX4, TX4, 4, rfl, by decide, luX4, tw_69⟩
theorem fX7_107 : FLd RX7 107 4 3 (.int) false := ⟨RX4, TX4, 4, tyX4, rfl, by decide, luX4, tw_69, tyX4_ok, nmX4, by decide +kernel, rfl, fun h => by cases h⟩
theorem tw_79 : Cond.fieldLink RX6 11 "MonotonePostings$State" "lists" "[LMonotonePostings$Postings;" ∈ LT := LT_of 79 (by decide +kernel) (by decide +kernel)
theorem fX6_11r : FLr RX6 11 5 0 := ⟨RX6, TX6, 4, rfl, by decide, luX6, tw_79⟩
theorem fX6_11 : FLd RX6 11 5 0 (.array (.object "MonotonePostings$Postings")) true := ⟨RX6, TX6, 4, tyX6, rfl, by decide, luX6, tw_79, tyX6_ok, nmX6, by decide +kernel, rfl, fun _ => rfl⟩
theorem tw_80 : Cond.fieldLink RX7 177 "MonotonePostings$State" "lists" "[LMonotonePostings$Postings;" ∈ LT := LT_of 80 (by decide +kernel) (by decide +kernel)
theorem fX7_177r : FLr RX7 177 5 0 := ⟨RX6, TX6, 4, rfl, by decide, luX6, tw_80⟩
theorem tw_81 : Cond.fieldLink RX6 20 "MonotonePostings$State" "cache" "LMonotonePostings$Cache;" ∈ LT := LT_of 81 (by decide +kernel) (by decide +kernel)
theorem fX6_20r : FLr RX6 20 5 1 := ⟨RX6, TX6, 4, rfl, by decide, luX6, tw_81⟩
theorem fX6_20 : FLd RX6 20 5 1 (.object "MonotonePostings$Cache") true := ⟨RX6, TX6, 4, tyX6, rfl, by decide, luX6, tw_81, tyX6_ok, nmX6, by decide +kernel, rfl, fun _ => rfl⟩
theorem tw_82 : Cond.fieldLink RX7 153 "MonotonePostings$State" "cache" "LMonotonePostings$Cache;" ∈ LT := LT_of 82 (by decide +kernel) (by decide +kernel)
theorem fX7_153r : FLr RX7 153 5 1 := ⟨RX6, TX6, 4, rfl, by decide, luX6, tw_82⟩
theorem tw_83 : Cond.fieldLink RX6 24 "MonotonePostings$State" "reads" "I" ∈ LT := LT_of 83 (by decide +kernel) (by decide +kernel)
theorem fX6_24r : FLr RX6 24 5 2 := ⟨RX6, TX6, 4, rfl, by decide, luX6, tw_83⟩
theorem fX6_24 : FLd RX6 24 5 2 (.int) false := ⟨RX6, TX6, 4, tyX6, rfl, by decide, luX6, tw_83, tyX6_ok, nmX6, by decide +kernel, rfl, fun h => by cases h⟩
theorem tw_84 : Cond.fieldLink RX7 147 "MonotonePostings$State" "reads" "I" ∈ LT := LT_of 84 (by decide +kernel) (by decide +kernel)
theorem fX7_147r : FLr RX7 147 5 2 := ⟨RX6, TX6, 4, rfl, by decide, luX6, tw_84⟩
theorem fX7_147 : FLd RX7 147 5 2 (.int) false := ⟨RX6, TX6, 4, tyX6, rfl, by decide, luX6, tw_84, tyX6_ok, nmX6, by decide +kernel, rfl, fun h => by cases h⟩
theorem tw_85 : Cond.fieldLink RX6 28 "MonotonePostings$State" "hits" "I" ∈ LT := LT_of 85 (by decide +kernel) (by decide +kernel)
theorem fX6_28r : FLr RX6 28 5 3 := ⟨RX6, TX6, 4, rfl, by decide, luX6, tw_85⟩
theorem fX6_28 : FLd RX6 28 5 3 (.int) false := ⟨RX6, TX6, 4, tyX6, rfl, by decide, luX6, tw_85, tyX6_ok, nmX6, by decide +kernel, rfl, fun h => by cases h⟩
theorem tw_86 : Cond.fieldLink RX7 150 "MonotonePostings$State" "hits" "I" ∈ LT := LT_of 86 (by decide +kernel) (by decide +kernel)
theorem fX7_150r : FLr RX7 150 5 3 := ⟨RX6, TX6, 4, rfl, by decide, luX6, tw_86⟩
theorem fX7_150 : FLd RX7 150 5 3 (.int) false := ⟨RX6, TX6, 4, tyX6, rfl, by decide, luX6, tw_86, tyX6_ok, nmX6, by decide +kernel, rfl, fun h => by cases h⟩
theorem tw_105 : Cond.fieldLink RX2 11 "MonotonePostings$History" "states" "[LMonotonePostings$State;" ∈ LT := LT_of 105 (by decide +kernel) (by decide +kernel)
theorem fX2_11r : FLr RX2 11 2 0 := ⟨RX2, TX2, 3, rfl, by decide, luX2, tw_105⟩
theorem fX2_11 : FLd RX2 11 2 0 (.array (.object "MonotonePostings$State")) true := ⟨RX2, TX2, 3, tyX2, rfl, by decide, luX2, tw_105, tyX2_ok, nmX2, by decide +kernel, rfl, fun _ => rfl⟩
theorem tw_106 : Cond.fieldLink RX2 17 "MonotonePostings$History" "next" "I" ∈ LT := LT_of 106 (by decide +kernel) (by decide +kernel)
theorem fX2_17r : FLr RX2 17 2 1 := ⟨RX2, TX2, 3, rfl, by decide, luX2, tw_106⟩
theorem fX2_17 : FLd RX2 17 2 1 (.int) false := ⟨RX2, TX2, 3, tyX2, rfl, by decide, luX2, tw_106, tyX2_ok, nmX2, by decide +kernel, rfl, fun h => by cases h⟩
theorem tw_107 : Cond.fieldLink RX2 21 "MonotonePostings$History" "count" "I" ∈ LT := LT_of 107 (by decide +kernel) (by decide +kernel)
theorem fX2_21r : FLr RX2 21 2 2 := ⟨RX2, TX2, 3, rfl, by decide, luX2, tw_107⟩
theorem fX2_21 : FLd RX2 21 2 2 (.int) false := ⟨RX2, TX2, 3, tyX2, rfl, by decide, luX2, tw_107, tyX2_ok, nmX2, by decide +kernel, rfl, fun h => by cases h⟩
theorem tw_108 : Cond.fieldLink RX7 169 "MonotonePostings$History" "count" "I" ∈ LT := LT_of 108 (by decide +kernel) (by decide +kernel)
theorem fX7_169r : FLr RX7 169 2 2 := ⟨RX2, TX2, 3, rfl, by decide, luX2, tw_108⟩
theorem fX7_169 : FLd RX7 169 2 2 (.int) false := ⟨RX2, TX2, 3, tyX2, rfl, by decide, luX2, tw_108, tyX2_ok, nmX2, by decide +kernel, rfl, fun h => by cases h⟩
theorem tw_122 : Cond.fieldLink RX3 9 "MonotonePostings$Partitioner" "weights" "[I" ∈ LT := LT_of 122 (by decide +kernel) (by decide +kernel)
theorem fX3_9r : FLr RX3 9 3 0 := ⟨RX3, TX3, 2, rfl, by decide, luX3, tw_122⟩
theorem fX3_9 : FLd RX3 9 3 0 (.array .int) true := ⟨RX3, TX3, 2, tyX3, rfl, by decide, luX3, tw_122, tyX3_ok, nmX3, by decide +kernel, rfl, fun _ => rfl⟩
theorem tw_123 : Cond.fieldLink RX3 15 "MonotonePostings$Partitioner" "ends" "[I" ∈ LT := LT_of 123 (by decide +kernel) (by decide +kernel)
theorem fX3_15r : FLr RX3 15 3 1 := ⟨RX3, TX3, 2, rfl, by decide, luX3, tw_123⟩
theorem fX3_15 : FLd RX3 15 3 1 (.array .int) true := ⟨RX3, TX3, 2, tyX3, rfl, by decide, luX3, tw_123, tyX3_ok, nmX3, by decide +kernel, rfl, fun _ => rfl⟩
theorem tw_135 : Cond.fieldLink RX1 9 "MonotonePostings$CodeRow" "bits" "[I" ∈ LT := LT_of 135 (by decide +kernel) (by decide +kernel)
theorem fX1_9r : FLr RX1 9 1 0 := ⟨RX1, TX1, 2, rfl, by decide, luX1, tw_135⟩
theorem fX1_9 : FLd RX1 9 1 0 (.array .int) true := ⟨RX1, TX1, 2, tyX1, rfl, by decide, luX1, tw_135, tyX1_ok, nmX1, by decide +kernel, rfl, fun _ => rfl⟩
theorem tw_136 : Cond.fieldLink RX7 224 "MonotonePostings$CodeRow" "bits" "[I" ∈ LT := LT_of 136 (by decide +kernel) (by decide +kernel)
theorem fX7_224r : FLr RX7 224 1 0 := ⟨RX1, TX1, 2, rfl, by decide, luX1, tw_136⟩
theorem tw_137 : Cond.fieldLink RX1 15 "MonotonePostings$CodeRow" "length" "I" ∈ LT := LT_of 137 (by decide +kernel) (by decide +kernel)
theorem fX1_15r : FLr RX1 15 1 1 := ⟨RX1, TX1, 2, rfl, by decide, luX1, tw_137⟩
theorem fX1_15 : FLd RX1 15 1 1 (.int) false := ⟨RX1, TX1, 2, tyX1, rfl, by decide, luX1, tw_137, tyX1_ok, nmX1, by decide +kernel, rfl, fun h => by cases h⟩
theorem tw_138 : Cond.fieldLink RX7 227 "MonotonePostings$CodeRow" "length" "I" ∈ LT := LT_of 138 (by decide +kernel) (by decide +kernel)
theorem fX7_227r : FLr RX7 227 1 1 := ⟨RX1, TX1, 2, rfl, by decide, luX1, tw_138⟩
theorem fX7_227 : FLd RX7 227 1 1 (.int) false := ⟨RX1, TX1, 2, tyX1, rfl, by decide, luX1, tw_138, tyX1_ok, nmX1, by decide +kernel, rfl, fun h => by cases h⟩
theorem tw_144 : Cond.fieldLink RX7 12 "MonotonePostings" "now" "LMonotonePostings$State;" ∈ LT := LT_of 144 (by decide +kernel) (by decide +kernel)
theorem fX7_12r : FLr RX7 12 6 0 := ⟨RX7, TX7, 6, rfl, by decide, luX7, tw_144⟩
theorem fX7_12 : FLd RX7 12 6 0 (.object "MonotonePostings$State") true := ⟨RX7, TX7, 6, tyX7, rfl, by decide, luX7, tw_144, tyX7_ok, nmX7, by decide +kernel, rfl, fun _ => rfl⟩
theorem tw_145 : Cond.fieldLink RX7 19 "MonotonePostings" "history" "LMonotonePostings$History;" ∈ LT := LT_of 145 (by decide +kernel) (by decide +kernel)
theorem fX7_19r : FLr RX7 19 6 1 := ⟨RX7, TX7, 6, rfl, by decide, luX7, tw_145⟩
theorem fX7_19 : FLd RX7 19 6 1 (.object "MonotonePostings$History") true := ⟨RX7, TX7, 6, tyX7, rfl, by decide, luX7, tw_145, tyX7_ok, nmX7, by decide +kernel, rfl, fun _ => rfl⟩
theorem tw_146 : Cond.fieldLink RX7 26 "MonotonePostings" "partitioner" "LMonotonePostings$Partitioner;" ∈ LT := LT_of 146 (by decide +kernel) (by decide +kernel)
theorem fX7_26r : FLr RX7 26 6 2 := ⟨RX7, TX7, 6, rfl, by decide, luX7, tw_146⟩
theorem fX7_26 : FLd RX7 26 6 2 (.object "MonotonePostings$Partitioner") true := ⟨RX7, TX7, 6, tyX7, rfl, by decide, luX7, tw_146, tyX7_ok, nmX7, by decide +kernel, rfl, fun _ => rfl⟩
theorem tw_147 : Cond.fieldLink RX7 33 "MonotonePostings" "code" "LMonotonePostings$CodeRow;" ∈ LT := LT_of 147 (by decide +kernel) (by decide +kernel)
theorem fX7_33r : FLr RX7 33 6 3 := ⟨RX7, TX7, 6, rfl, by decide, luX7, tw_147⟩
theorem fX7_33 : FLd RX7 33 6 3 (.object "MonotonePostings$CodeRow") true := ⟨RX7, TX7, 6, tyX7, rfl, by decide, luX7, tw_147, tyX7_ok, nmX7, by decide +kernel, rfl, fun _ => rfl⟩
theorem tw_148 : Cond.fieldLink RX7 37 "MonotonePostings" "order" "[I" ∈ LT := LT_of 148 (by decide +kernel) (by decide +kernel)
theorem fX7_37r : FLr RX7 37 6 4 := ⟨RX7, TX7, 6, rfl, by decide, luX7, tw_148⟩
theorem fX7_37 : FLd RX7 37 6 4 (.array .int) true := ⟨RX7, TX7, 6, tyX7, rfl, by decide, luX7, tw_148, tyX7_ok, nmX7, by decide +kernel, rfl, fun _ => rfl⟩
theorem tw_149 : Cond.fieldLink RX7 41 "MonotonePostings" "result" "[I" ∈ LT := LT_of 149 (by decide +kernel) (by decide +kernel)
theorem fX7_41r : FLr RX7 41 6 5 := ⟨RX7, TX7, 6, rfl, by decide, luX7, tw_149⟩
theorem fX7_41 : FLd RX7 41 6 5 (.array .int) true := ⟨RX7, TX7, 6, tyX7, rfl, by decide, luX7, tw_149, tyX7_ok, nmX7, by decide +kernel, rfl, fun _ => rfl⟩
theorem tw_655 : Cond.fieldLink RX8 41 "MonotonePostingsModel" "thrown" "I" ∈ LT := LT_of 655 (by decide +kernel) (by decide +kernel)
theorem fX8_41r : FLr RX8 41 7 0 := ⟨RX8, TX8, 12, rfl, by decide, luX8, tw_655⟩
theorem fX8_41 : FLd RX8 41 7 0 (.int) false := ⟨RX8, TX8, 12, tyX8, rfl, by decide, luX8, tw_655, tyX8_ok, nmX8, by decide +kernel, rfl, fun h => by cases h⟩
theorem tw_656 : Cond.fieldLink RX8 7 "MonotonePostingsModel" "w" "[I" ∈ LT := LT_of 656 (by decide +kernel) (by decide +kernel)
theorem fX8_7r : FLr RX8 7 7 1 := ⟨RX8, TX8, 12, rfl, by decide, luX8, tw_656⟩
theorem fX8_7 : FLd RX8 7 7 1 (.array .int) true := ⟨RX8, TX8, 12, tyX8, rfl, by decide, luX8, tw_656, tyX8_ok, nmX8, by decide +kernel, rfl, fun _ => rfl⟩
theorem tw_657 : Cond.fieldLink RX8 13 "MonotonePostingsModel" "past" "[I" ∈ LT := LT_of 657 (by decide +kernel) (by decide +kernel)
theorem fX8_13r : FLr RX8 13 7 2 := ⟨RX8, TX8, 12, rfl, by decide, luX8, tw_657⟩
theorem fX8_13 : FLd RX8 13 7 2 (.array .int) true := ⟨RX8, TX8, 12, tyX8, rfl, by decide, luX8, tw_657, tyX8_ok, nmX8, by decide +kernel, rfl, fun _ => rfl⟩
theorem tw_658 : Cond.fieldLink RX8 49 "MonotonePostingsModel" "saved" "I" ∈ LT := LT_of 658 (by decide +kernel) (by decide +kernel)
theorem fX8_49r : FLr RX8 49 7 3 := ⟨RX8, TX8, 12, rfl, by decide, luX8, tw_658⟩
theorem fX8_49 : FLd RX8 49 7 3 (.int) false := ⟨RX8, TX8, 12, tyX8, rfl, by decide, luX8, tw_658, tyX8_ok, nmX8, by decide +kernel, rfl, fun h => by cases h⟩
theorem tw_659 : Cond.fieldLink RX8 16 "MonotonePostingsModel" "begins" "[I" ∈ LT := LT_of 659 (by decide +kernel) (by decide +kernel)
theorem fX8_16r : FLr RX8 16 7 4 := ⟨RX8, TX8, 12, rfl, by decide, luX8, tw_659⟩
theorem fX8_16 : FLd RX8 16 7 4 (.array .int) true := ⟨RX8, TX8, 12, tyX8, rfl, by decide, luX8, tw_659, tyX8_ok, nmX8, by decide +kernel, rfl, fun _ => rfl⟩
theorem tw_660 : Cond.fieldLink RX8 19 "MonotonePostingsModel" "many" "[I" ∈ LT := LT_of 660 (by decide +kernel) (by decide +kernel)
theorem fX8_19r : FLr RX8 19 7 5 := ⟨RX8, TX8, 12, rfl, by decide, luX8, tw_660⟩
theorem fX8_19 : FLd RX8 19 7 5 (.array .int) true := ⟨RX8, TX8, 12, tyX8, rfl, by decide, luX8, tw_660, tyX8_ok, nmX8, by decide +kernel, rfl, fun _ => rfl⟩
theorem tw_661 : Cond.fieldLink RX8 22 "MonotonePostingsModel" "laid" "[Z" ∈ LT := LT_of 661 (by decide +kernel) (by decide +kernel)
theorem fX8_22r : FLr RX8 22 7 6 := ⟨RX8, TX8, 12, rfl, by decide, luX8, tw_661⟩
theorem fX8_22 : FLd RX8 22 7 6 (.array .boolean) true := ⟨RX8, TX8, 12, tyX8, rfl, by decide, luX8, tw_661, tyX8_ok, nmX8, by decide +kernel, rfl, fun _ => rfl⟩
theorem tw_662 : Cond.fieldLink RX8 26 "MonotonePostingsModel" "cost" "[I" ∈ LT := LT_of 662 (by decide +kernel) (by decide +kernel)
theorem fX8_26r : FLr RX8 26 7 7 := ⟨RX8, TX8, 12, rfl, by decide, luX8, tw_662⟩
theorem fX8_26 : FLd RX8 26 7 7 (.array .int) true := ⟨RX8, TX8, 12, tyX8, rfl, by decide, luX8, tw_662, tyX8_ok, nmX8, by decide +kernel, rfl, fun _ => rfl⟩
theorem tw_663 : Cond.fieldLink RX8 29 "MonotonePostingsModel" "count" "[I" ∈ LT := LT_of 663 (by decide +kernel) (by decide +kernel)
theorem fX8_29r : FLr RX8 29 7 8 := ⟨RX8, TX8, 12, rfl, by decide, luX8, tw_663⟩
theorem fX8_29 : FLd RX8 29 7 8 (.array .int) true := ⟨RX8, TX8, 12, tyX8, rfl, by decide, luX8, tw_663, tyX8_ok, nmX8, by decide +kernel, rfl, fun _ => rfl⟩
theorem tw_664 : Cond.fieldLink RX8 32 "MonotonePostingsModel" "next" "[I" ∈ LT := LT_of 664 (by decide +kernel) (by decide +kernel)
theorem fX8_32r : FLr RX8 32 7 9 := ⟨RX8, TX8, 12, rfl, by decide, luX8, tw_664⟩
theorem fX8_32 : FLd RX8 32 7 9 (.array .int) true := ⟨RX8, TX8, 12, tyX8, rfl, by decide, luX8, tw_664, tyX8_ok, nmX8, by decide +kernel, rfl, fun _ => rfl⟩
theorem tw_665 : Cond.fieldLink RX8 35 "MonotonePostingsModel" "found" "[I" ∈ LT := LT_of 665 (by decide +kernel) (by decide +kernel)
theorem fX8_35r : FLr RX8 35 7 10 := ⟨RX8, TX8, 12, rfl, by decide, luX8, tw_665⟩
theorem fX8_35 : FLd RX8 35 7 10 (.array .int) true := ⟨RX8, TX8, 12, tyX8, rfl, by decide, luX8, tw_665, tyX8_ok, nmX8, by decide +kernel, rfl, fun _ => rfl⟩
theorem tw_666 : Cond.fieldLink RX8 38 "MonotonePostingsModel" "order" "[I" ∈ LT := LT_of 666 (by decide +kernel) (by decide +kernel)
theorem fX8_38r : FLr RX8 38 7 11 := ⟨RX8, TX8, 12, rfl, by decide, luX8, tw_666⟩
theorem fX8_38 : FLd RX8 38 7 11 (.array .int) true := ⟨RX8, TX8, 12, tyX8, rfl, by decide, luX8, tw_666, tyX8_ok, nmX8, by decide +kernel, rfl, fun _ => rfl⟩
theorem tw_19 : Cond.methodLink RL 81 yX7_init ∈ LT := LT_of 19 (by decide +kernel) (by decide +kernel)
theorem tw_20 : Cond.instanceMethod yX7_init ∈ LT := LT_of 20 (by decide +kernel) (by decide +kernel)
theorem tw_1 : Cond.initialized RX7 ∈ LT := LT_of 1 (by decide +kernel) (by decide +kernel)
theorem tw_21 : Cond.code yX7_init cX7_init 1 none ∈ LT := LT_of 21 (by decide +kernel) (by decide +kernel)
theorem kiL_81 : CId RL 81 mX7_init 0 := ⟨tw_19, tw_20, rfl, tw_1, tw_21, rfl, rfl, ⟨by decide +kernel, by decide +kernel, by decide +kernel⟩⟩
theorem tw_obj_RX7_3 : Cond.code objectInit ⟨#[0xb1]⟩ 1 none ∈ LT := LT_of 24 (by decide +kernel) (by decide +kernel)
theorem tw_22 : Cond.methodLink RX7 3 objectInit ∈ LT := LT_of 22 (by decide +kernel) (by decide +kernel)
theorem tw_23 : Cond.instanceMethod objectInit ∈ LT := LT_of 23 (by decide +kernel) (by decide +kernel)
theorem oiX7_3 : Cond.methodLink RX7 3 objectInit ∈ LT ∧ Cond.instanceMethod objectInit ∈ LT ∧ Cond.code objectInit ⟨#[0xb1]⟩ 1 none ∈ LT := ⟨tw_22, tw_23, tw_obj_RX7_3⟩
theorem tw_27 : Cond.methodLink RX7 11 yX6_init ∈ LT := LT_of 27 (by decide +kernel) (by decide +kernel)
theorem tw_28 : Cond.instanceMethod yX6_init ∈ LT := LT_of 28 (by decide +kernel) (by decide +kernel)
theorem tw_2 : Cond.initialized RX6 ∈ LT := LT_of 2 (by decide +kernel) (by decide +kernel)
theorem tw_29 : Cond.code yX6_init cX6_init 2 none ∈ LT := LT_of 29 (by decide +kernel) (by decide +kernel)
theorem kiX7_11 : CId RX7 11 mX6_init 0 := ⟨tw_27, tw_28, rfl, tw_2, tw_29, rfl, rfl, ⟨by decide +kernel, by decide +kernel, by decide +kernel⟩⟩
theorem tw_obj_RX6_3 : Cond.code objectInit ⟨#[0xb1]⟩ 1 none ∈ LT := LT_of 24 (by decide +kernel) (by decide +kernel)
theorem tw_30 : Cond.methodLink RX6 3 objectInit ∈ LT := LT_of 30 (by decide +kernel) (by decide +kernel)
theorem oiX6_3 : Cond.methodLink RX6 3 objectInit ∈ LT ∧ Cond.instanceMethod objectInit ∈ LT ∧ Cond.code objectInit ⟨#[0xb1]⟩ 1 none ∈ LT := ⟨tw_30, tw_23, tw_obj_RX6_3⟩
theorem tw_obj_RX0_3 : Cond.code objectInit ⟨#[0xb1]⟩ 1 none ∈ LT := LT_of 24 (by decide +kernel) (by decide +kernel)
theorem tw_38 : Cond.methodLink RX0 3 objectInit ∈ LT := LT_of 38 (by decide +kernel) (by decide +kernel)
theorem oiX0_3 : Cond.methodLink RX0 3 objectInit ∈ LT ∧ Cond.instanceMethod objectInit ∈ LT ∧ Cond.code objectInit ⟨#[0xb1]⟩ 1 none ∈ LT := ⟨tw_38, tw_23, tw_obj_RX0_3⟩
theorem tw_obj_RX4_3 : Cond.code objectInit ⟨#[0xb1]⟩ 1 none ∈ LT := LT_of 24 (by decide +kernel) (by decide +kernel)
theorem tw_57 : Cond.methodLink RX4 3 objectInit ∈ LT := LT_of 57 (by decide +kernel) (by decide +kernel)
theorem oiX4_3 : Cond.methodLink RX4 3 objectInit ∈ LT ∧ Cond.instanceMethod objectInit ∈ LT ∧ Cond.code objectInit ⟨#[0xb1]⟩ 1 none ∈ LT := ⟨tw_57, tw_23, tw_obj_RX4_3⟩
theorem tw_98 : Cond.methodLink RX7 18 yX2_init ∈ LT := LT_of 98 (by decide +kernel) (by decide +kernel)
theorem tw_99 : Cond.instanceMethod yX2_init ∈ LT := LT_of 99 (by decide +kernel) (by decide +kernel)
theorem tw_5 : Cond.initialized RX2 ∈ LT := LT_of 5 (by decide +kernel) (by decide +kernel)
theorem tw_100 : Cond.code yX2_init cX2_init 2 none ∈ LT := LT_of 100 (by decide +kernel) (by decide +kernel)
theorem kiX7_18 : CId RX7 18 mX2_init 0 := ⟨tw_98, tw_99, rfl, tw_5, tw_100, rfl, rfl, ⟨by decide +kernel, by decide +kernel, by decide +kernel⟩⟩
theorem tw_obj_RX2_3 : Cond.code objectInit ⟨#[0xb1]⟩ 1 none ∈ LT := LT_of 24 (by decide +kernel) (by decide +kernel)
theorem tw_101 : Cond.methodLink RX2 3 objectInit ∈ LT := LT_of 101 (by decide +kernel) (by decide +kernel)
theorem oiX2_3 : Cond.methodLink RX2 3 objectInit ∈ LT ∧ Cond.instanceMethod objectInit ∈ LT ∧ Cond.code objectInit ⟨#[0xb1]⟩ 1 none ∈ LT := ⟨tw_101, tw_23, tw_obj_RX2_3⟩
theorem tw_104 : Cond.methodLink RX2 24 yX6_init ∈ LT := LT_of 104 (by decide +kernel) (by decide +kernel)
theorem kiX2_24 : CId RX2 24 mX6_init 0 := ⟨tw_104, tw_28, rfl, tw_2, tw_29, rfl, rfl, ⟨by decide +kernel, by decide +kernel, by decide +kernel⟩⟩
theorem tw_obj_RX3_3 : Cond.code objectInit ⟨#[0xb1]⟩ 1 none ∈ LT := LT_of 24 (by decide +kernel) (by decide +kernel)
theorem tw_121 : Cond.methodLink RX3 3 objectInit ∈ LT := LT_of 121 (by decide +kernel) (by decide +kernel)
theorem oiX3_3 : Cond.methodLink RX3 3 objectInit ∈ LT ∧ Cond.instanceMethod objectInit ∈ LT ∧ Cond.code objectInit ⟨#[0xb1]⟩ 1 none ∈ LT := ⟨tw_121, tw_23, tw_obj_RX3_3⟩
theorem tw_obj_RX1_3 : Cond.code objectInit ⟨#[0xb1]⟩ 1 none ∈ LT := LT_of 24 (by decide +kernel) (by decide +kernel)
theorem tw_134 : Cond.methodLink RX1 3 objectInit ∈ LT := LT_of 134 (by decide +kernel) (by decide +kernel)
theorem oiX1_3 : Cond.methodLink RX1 3 objectInit ∈ LT ∧ Cond.instanceMethod objectInit ∈ LT ∧ Cond.code objectInit ⟨#[0xb1]⟩ 1 none ∈ LT := ⟨tw_134, tw_23, tw_obj_RX1_3⟩
theorem tw_163 : Cond.methodLink RL 146 yX7_reads ∈ LT := LT_of 163 (by decide +kernel) (by decide +kernel)
theorem tw_164 : Cond.instanceMethod yX7_reads ∈ LT := LT_of 164 (by decide +kernel) (by decide +kernel)
theorem tw_165 : Cond.selects RX7 yX7_reads yX7_reads ∈ LT := LT_of 165 (by decide +kernel) (by decide +kernel)
theorem tw_166 : Cond.code yX7_reads cX7_reads 1 (some .int) ∈ LT := LT_of 166 (by decide +kernel) (by decide +kernel)
theorem kvL_146 : CVd RL 146 6 mX7_reads 0 := ⟨⟨TX7, 6, rfl⟩, tw_163, tw_164, tw_165, tw_1, tw_166, rfl, ⟨by decide +kernel, by decide +kernel, by decide +kernel⟩⟩
theorem tw_167 : Cond.methodLink RL 150 yX7_hits ∈ LT := LT_of 167 (by decide +kernel) (by decide +kernel)
theorem tw_168 : Cond.instanceMethod yX7_hits ∈ LT := LT_of 168 (by decide +kernel) (by decide +kernel)
theorem tw_169 : Cond.selects RX7 yX7_hits yX7_hits ∈ LT := LT_of 169 (by decide +kernel) (by decide +kernel)
theorem tw_170 : Cond.code yX7_hits cX7_hits 1 (some .int) ∈ LT := LT_of 170 (by decide +kernel) (by decide +kernel)
theorem kvL_150 : CVd RL 150 6 mX7_hits 0 := ⟨⟨TX7, 6, rfl⟩, tw_167, tw_168, tw_169, tw_1, tw_170, rfl, ⟨by decide +kernel, by decide +kernel, by decide +kernel⟩⟩
theorem tw_171 : Cond.methodLink RL 157 yX7_cached ∈ LT := LT_of 171 (by decide +kernel) (by decide +kernel)
theorem tw_172 : Cond.instanceMethod yX7_cached ∈ LT := LT_of 172 (by decide +kernel) (by decide +kernel)
theorem tw_173 : Cond.selects RX7 yX7_cached yX7_cached ∈ LT := LT_of 173 (by decide +kernel) (by decide +kernel)
theorem tw_174 : Cond.code yX7_cached cX7_cached 1 (some .int) ∈ LT := LT_of 174 (by decide +kernel) (by decide +kernel)
theorem kvL_157 : CVd RL 157 6 mX7_cached 0 := ⟨⟨TX7, 6, rfl⟩, tw_171, tw_172, tw_173, tw_1, tw_174, rfl, ⟨by decide +kernel, by decide +kernel, by decide +kernel⟩⟩
theorem tw_175 : Cond.methodLink RL 168 yX7_digest ∈ LT := LT_of 175 (by decide +kernel) (by decide +kernel)
theorem tw_176 : Cond.instanceMethod yX7_digest ∈ LT := LT_of 176 (by decide +kernel) (by decide +kernel)
theorem tw_177 : Cond.selects RX7 yX7_digest yX7_digest ∈ LT := LT_of 177 (by decide +kernel) (by decide +kernel)
theorem tw_178 : Cond.code yX7_digest cX7_digest 4 (some .long) ∈ LT := LT_of 178 (by decide +kernel) (by decide +kernel)
theorem kvL_168 : CVd RL 168 6 mX7_digest 0 := ⟨⟨TX7, 6, rfl⟩, tw_175, tw_176, tw_177, tw_1, tw_178, rfl, ⟨by decide +kernel, by decide +kernel, by decide +kernel⟩⟩
theorem tw_180 : Cond.methodLink RX7 181 yX7_mixList ∈ LT := LT_of 180 (by decide +kernel) (by decide +kernel)
theorem tw_182 : Cond.instanceMethod yX7_mixList ∈ LT := LT_of 182 (by decide +kernel) (by decide +kernel)
theorem ts_0 : Cond.selects RX7 yX7_mixList yX7_mixList ∈ LT := LT_sel 0 (by decide +kernel) (by decide +kernel)
theorem tw_183 : Cond.code yX7_mixList cX7_mixList 6 (some .long) ∈ LT := LT_of 183 (by decide +kernel) (by decide +kernel)
theorem kvX7_181 : CVd RX7 181 6 mX7_mixList 2 := ⟨⟨TX7, 6, rfl⟩, tw_180, tw_182, ts_0, tw_1, tw_183, rfl, ⟨by decide +kernel, by decide +kernel, by decide +kernel⟩⟩
theorem tw_184 : Cond.methodLink RX7 185 yX7_mix ∈ LT := LT_of 184 (by decide +kernel) (by decide +kernel)
theorem tw_185 : Cond.static yX7_mix ∈ LT := LT_of 185 (by decide +kernel) (by decide +kernel)
theorem tw_186 : Cond.code yX7_mix cX7_mix 3 (some .long) ∈ LT := LT_of 186 (by decide +kernel) (by decide +kernel)
theorem ksX7_185 : CSd RX7 185 mX7_mix 2 := ⟨tw_184, tw_185, tw_1, tw_186, rfl, ⟨by decide +kernel, by decide +kernel, by decide +kernel⟩⟩
theorem tw_188 : Cond.methodLink RX7 189 yX7_mixRow ∈ LT := LT_of 188 (by decide +kernel) (by decide +kernel)
theorem tw_189 : Cond.static yX7_mixRow ∈ LT := LT_of 189 (by decide +kernel) (by decide +kernel)
theorem tw_190 : Cond.code yX7_mixRow cX7_mixRow 7 (some .long) ∈ LT := LT_of 190 (by decide +kernel) (by decide +kernel)
theorem ksX7_189 : CSd RX7 189 mX7_mixRow 3 := ⟨tw_188, tw_189, tw_1, tw_190, rfl, ⟨by decide +kernel, by decide +kernel, by decide +kernel⟩⟩
theorem tw_191 : Cond.methodLink RX7 116 yX1_write ∈ LT := LT_of 191 (by decide +kernel) (by decide +kernel)
theorem tw_192 : Cond.instanceMethod yX1_write ∈ LT := LT_of 192 (by decide +kernel) (by decide +kernel)
theorem tw_193 : Cond.selects RX1 yX1_write yX1_write ∈ LT := LT_of 193 (by decide +kernel) (by decide +kernel)
theorem tw_7 : Cond.initialized RX1 ∈ LT := LT_of 7 (by decide +kernel) (by decide +kernel)
theorem tw_194 : Cond.code yX1_write cX1_write 5 none ∈ LT := LT_of 194 (by decide +kernel) (by decide +kernel)
theorem kvX7_116 : CVd RX7 116 1 mX1_write 1 := ⟨⟨TX1, 2, rfl⟩, tw_191, tw_192, tw_193, tw_7, tw_194, rfl, ⟨by decide +kernel, by decide +kernel, by decide +kernel⟩⟩
theorem tw_195 : Cond.methodLink RX1 24 yX4_factOf ∈ LT := LT_of 195 (by decide +kernel) (by decide +kernel)
theorem tw_196 : Cond.instanceMethod yX4_factOf ∈ LT := LT_of 196 (by decide +kernel) (by decide +kernel)
theorem tw_197 : Cond.selects RX4 yX4_factOf yX4_factOf ∈ LT := LT_of 197 (by decide +kernel) (by decide +kernel)
theorem tw_4 : Cond.initialized RX4 ∈ LT := LT_of 4 (by decide +kernel) (by decide +kernel)
theorem tw_198 : Cond.code yX4_factOf cX4_factOf 3 (some .int) ∈ LT := LT_of 198 (by decide +kernel) (by decide +kernel)
theorem kvX1_24 : CVd RX1 24 4 mX4_factOf 2 := ⟨⟨TX4, 4, rfl⟩, tw_195, tw_196, tw_197, tw_4, tw_198, rfl, ⟨by decide +kernel, by decide +kernel, by decide +kernel⟩⟩
theorem tw_199 : Cond.methodLink RX1 28 yX1_putHeader ∈ LT := LT_of 199 (by decide +kernel) (by decide +kernel)
theorem tw_201 : Cond.instanceMethod yX1_putHeader ∈ LT := LT_of 201 (by decide +kernel) (by decide +kernel)
theorem ts_1 : Cond.selects RX1 yX1_putHeader yX1_putHeader ∈ LT := LT_sel 1 (by decide +kernel) (by decide +kernel)
theorem tw_202 : Cond.code yX1_putHeader cX1_putHeader 3 none ∈ LT := LT_of 202 (by decide +kernel) (by decide +kernel)
theorem kvX1_28 : CVd RX1 28 1 mX1_putHeader 2 := ⟨⟨TX1, 2, rfl⟩, tw_199, tw_201, ts_1, tw_7, tw_202, rfl, ⟨by decide +kernel, by decide +kernel, by decide +kernel⟩⟩
theorem tw_203 : Cond.methodLink RX1 42 yX1_put ∈ LT := LT_of 203 (by decide +kernel) (by decide +kernel)
theorem tw_205 : Cond.instanceMethod yX1_put ∈ LT := LT_of 205 (by decide +kernel) (by decide +kernel)
theorem ts_2 : Cond.selects RX1 yX1_put yX1_put ∈ LT := LT_sel 2 (by decide +kernel) (by decide +kernel)
theorem tw_206 : Cond.code yX1_put cX1_put 4 none ∈ LT := LT_of 206 (by decide +kernel) (by decide +kernel)
theorem kvX1_42 : CVd RX1 42 1 mX1_put 2 := ⟨⟨TX1, 2, rfl⟩, tw_203, tw_205, ts_2, tw_7, tw_206, rfl, ⟨by decide +kernel, by decide +kernel, by decide +kernel⟩⟩
theorem tw_207 : Cond.methodLink RX1 46 yX4_widthOf ∈ LT := LT_of 207 (by decide +kernel) (by decide +kernel)
theorem tw_208 : Cond.instanceMethod yX4_widthOf ∈ LT := LT_of 208 (by decide +kernel) (by decide +kernel)
theorem tw_209 : Cond.selects RX4 yX4_widthOf yX4_widthOf ∈ LT := LT_of 209 (by decide +kernel) (by decide +kernel)
theorem tw_210 : Cond.code yX4_widthOf cX4_widthOf 2 (some .int) ∈ LT := LT_of 210 (by decide +kernel) (by decide +kernel)
theorem kvX1_46 : CVd RX1 46 4 mX4_widthOf 1 := ⟨⟨TX4, 4, rfl⟩, tw_207, tw_208, tw_209, tw_4, tw_210, rfl, ⟨by decide +kernel, by decide +kernel, by decide +kernel⟩⟩
theorem tw_211 : Cond.methodLink RX4 44 yX4_factOf ∈ LT := LT_of 211 (by decide +kernel) (by decide +kernel)
theorem kvX4_44 : CVd RX4 44 4 mX4_factOf 2 := ⟨⟨TX4, 4, rfl⟩, tw_211, tw_196, tw_197, tw_4, tw_198, rfl, ⟨by decide +kernel, by decide +kernel, by decide +kernel⟩⟩
theorem tw_212 : Cond.methodLink RX1 32 yX1_putBitmap ∈ LT := LT_of 212 (by decide +kernel) (by decide +kernel)
theorem tw_214 : Cond.instanceMethod yX1_putBitmap ∈ LT := LT_of 214 (by decide +kernel) (by decide +kernel)
theorem ts_3 : Cond.selects RX1 yX1_putBitmap yX1_putBitmap ∈ LT := LT_sel 3 (by decide +kernel) (by decide +kernel)
theorem tw_215 : Cond.code yX1_putBitmap cX1_putBitmap 8 none ∈ LT := LT_of 215 (by decide +kernel) (by decide +kernel)
theorem kvX1_32 : CVd RX1 32 1 mX1_putBitmap 3 := ⟨⟨TX1, 2, rfl⟩, tw_212, tw_214, ts_3, tw_7, tw_215, rfl, ⟨by decide +kernel, by decide +kernel, by decide +kernel⟩⟩
theorem tw_216 : Cond.methodLink RX1 50 yX4_documentAt ∈ LT := LT_of 216 (by decide +kernel) (by decide +kernel)
theorem tw_217 : Cond.instanceMethod yX4_documentAt ∈ LT := LT_of 217 (by decide +kernel) (by decide +kernel)
theorem tw_218 : Cond.selects RX4 yX4_documentAt yX4_documentAt ∈ LT := LT_of 218 (by decide +kernel) (by decide +kernel)
theorem tw_219 : Cond.code yX4_documentAt cX4_documentAt 2 (some .int) ∈ LT := LT_of 219 (by decide +kernel) (by decide +kernel)
theorem kvX1_50 : CVd RX1 50 4 mX4_documentAt 1 := ⟨⟨TX4, 4, rfl⟩, tw_216, tw_217, tw_218, tw_4, tw_219, rfl, ⟨by decide +kernel, by decide +kernel, by decide +kernel⟩⟩
theorem tw_220 : Cond.methodLink RX1 53 yX1_setBit ∈ LT := LT_of 220 (by decide +kernel) (by decide +kernel)
theorem tw_222 : Cond.instanceMethod yX1_setBit ∈ LT := LT_of 222 (by decide +kernel) (by decide +kernel)
theorem ts_4 : Cond.selects RX1 yX1_setBit yX1_setBit ∈ LT := LT_sel 4 (by decide +kernel) (by decide +kernel)
theorem tw_223 : Cond.code yX1_setBit cX1_setBit 2 none ∈ LT := LT_of 223 (by decide +kernel) (by decide +kernel)
theorem kvX1_53 : CVd RX1 53 1 mX1_setBit 1 := ⟨⟨TX1, 2, rfl⟩, tw_220, tw_222, ts_4, tw_7, tw_223, rfl, ⟨by decide +kernel, by decide +kernel, by decide +kernel⟩⟩
theorem tw_224 : Cond.methodLink RX1 36 yX1_putHighParts ∈ LT := LT_of 224 (by decide +kernel) (by decide +kernel)
theorem tw_226 : Cond.instanceMethod yX1_putHighParts ∈ LT := LT_of 226 (by decide +kernel) (by decide +kernel)
theorem ts_5 : Cond.selects RX1 yX1_putHighParts yX1_putHighParts ∈ LT := LT_sel 5 (by decide +kernel) (by decide +kernel)
theorem tw_227 : Cond.code yX1_putHighParts cX1_putHighParts 9 none ∈ LT := LT_of 227 (by decide +kernel) (by decide +kernel)
theorem kvX1_36 : CVd RX1 36 1 mX1_putHighParts 3 := ⟨⟨TX1, 2, rfl⟩, tw_224, tw_226, ts_5, tw_7, tw_227, rfl, ⟨by decide +kernel, by decide +kernel, by decide +kernel⟩⟩
theorem tw_228 : Cond.methodLink RX1 57 yX5_highLength ∈ LT := LT_of 228 (by decide +kernel) (by decide +kernel)
theorem tw_229 : Cond.static yX5_highLength ∈ LT := LT_of 229 (by decide +kernel) (by decide +kernel)
theorem tw_16 : Cond.initialized RX5 ∈ LT := LT_of 16 (by decide +kernel) (by decide +kernel)
theorem tw_230 : Cond.code yX5_highLength cX5_highLength 3 (some .int) ∈ LT := LT_of 230 (by decide +kernel) (by decide +kernel)
theorem ksX1_57 : CSd RX1 57 mX5_highLength 3 := ⟨tw_228, tw_229, tw_16, tw_230, rfl, ⟨by decide +kernel, by decide +kernel, by decide +kernel⟩⟩
theorem tw_231 : Cond.methodLink RX1 39 yX1_putLowParts ∈ LT := LT_of 231 (by decide +kernel) (by decide +kernel)
theorem tw_233 : Cond.instanceMethod yX1_putLowParts ∈ LT := LT_of 233 (by decide +kernel) (by decide +kernel)
theorem ts_6 : Cond.selects RX1 yX1_putLowParts yX1_putLowParts ∈ LT := LT_sel 6 (by decide +kernel) (by decide +kernel)
theorem tw_234 : Cond.code yX1_putLowParts cX1_putLowParts 8 none ∈ LT := LT_of 234 (by decide +kernel) (by decide +kernel)
theorem kvX1_39 : CVd RX1 39 1 mX1_putLowParts 3 := ⟨⟨TX1, 2, rfl⟩, tw_231, tw_233, ts_6, tw_7, tw_234, rfl, ⟨by decide +kernel, by decide +kernel, by decide +kernel⟩⟩
theorem tw_235 : Cond.methodLink RL 85 yL_append ∈ LT := LT_of 235 (by decide +kernel) (by decide +kernel)
theorem tw_236 : Cond.static yL_append ∈ LT := LT_of 236 (by decide +kernel) (by decide +kernel)
theorem tw_0 : Cond.initialized RL ∈ LT := LT_of 0 (by decide +kernel) (by decide +kernel)
theorem tw_237 : Cond.codeWith yL_append cL_append 5 (some .int) [(0, 10, 13, 13), (0, 10, 17, 15), (0, 10, 21, 17)] ∈ LT := LT_of 237 (by decide +kernel) (by decide +kernel)
theorem ksL_85 : CSw RL 85 mL_append 4 := ⟨tw_235, tw_236, tw_0, tw_237, (fun z => by cases z), ⟨by decide +kernel, by decide +kernel, by decide +kernel⟩⟩
theorem tw_241 : Cond.methodLink RL 7 yX7_append ∈ LT := LT_of 241 (by decide +kernel) (by decide +kernel)
theorem tw_242 : Cond.instanceMethod yX7_append ∈ LT := LT_of 242 (by decide +kernel) (by decide +kernel)
theorem tw_243 : Cond.selects RX7 yX7_append yX7_append ∈ LT := LT_of 243 (by decide +kernel) (by decide +kernel)
theorem tw_244 : Cond.code yX7_append cX7_append 3 (some .int) ∈ LT := LT_of 244 (by decide +kernel) (by decide +kernel)
theorem kvL_7 : CVd RL 7 6 mX7_append 2 := ⟨⟨TX7, 6, rfl⟩, tw_241, tw_242, tw_243, tw_1, tw_244, rfl, ⟨by decide +kernel, by decide +kernel, by decide +kernel⟩⟩
theorem tw_245 : Cond.methodLink RX7 44 yX7_appendRange ∈ LT := LT_of 245 (by decide +kernel) (by decide +kernel)
theorem tw_246 : Cond.instanceMethod yX7_appendRange ∈ LT := LT_of 246 (by decide +kernel) (by decide +kernel)
theorem tw_247 : Cond.selects RX7 yX7_appendRange yX7_appendRange ∈ LT := LT_of 247 (by decide +kernel) (by decide +kernel)
theorem tw_248 : Cond.code yX7_appendRange cX7_appendRange 7 (some .int) ∈ LT := LT_of 248 (by decide +kernel) (by decide +kernel)
theorem kvX7_44 : CVd RX7 44 6 mX7_appendRange 4 := ⟨⟨TX7, 6, rfl⟩, tw_245, tw_246, tw_247, tw_1, tw_248, rfl, ⟨by decide +kernel, by decide +kernel, by decide +kernel⟩⟩
theorem tw_249 : Cond.methodLink RX7 48 yX7_listAt ∈ LT := LT_of 249 (by decide +kernel) (by decide +kernel)
theorem tw_251 : Cond.instanceMethod yX7_listAt ∈ LT := LT_of 251 (by decide +kernel) (by decide +kernel)
theorem ts_7 : Cond.selects RX7 yX7_listAt yX7_listAt ∈ LT := LT_sel 7 (by decide +kernel) (by decide +kernel)
theorem tw_252 : Cond.code yX7_listAt cX7_listAt 2 (some (.object "MonotonePostings$Postings")) ∈ LT := LT_of 252 (by decide +kernel) (by decide +kernel)
theorem kvX7_48 : CVd RX7 48 6 mX7_listAt 1 := ⟨⟨TX7, 6, rfl⟩, tw_249, tw_251, ts_7, tw_1, tw_252, rfl, ⟨by decide +kernel, by decide +kernel, by decide +kernel⟩⟩
theorem tw_253 : Cond.methodLink RX7 126 yX7_requireList ∈ LT := LT_of 253 (by decide +kernel) (by decide +kernel)
theorem tw_254 : Cond.static yX7_requireList ∈ LT := LT_of 254 (by decide +kernel) (by decide +kernel)
theorem tw_255 : Cond.code yX7_requireList cX7_requireList 1 none ∈ LT := LT_of 255 (by decide +kernel) (by decide +kernel)
theorem ksX7_126 : CSd RX7 126 mX7_requireList 1 := ⟨tw_253, tw_254, tw_1, tw_255, rfl, ⟨by decide +kernel, by decide +kernel, by decide +kernel⟩⟩
theorem tw_256 : Cond.methodLink RX7 93 yX7_requireIndex ∈ LT := LT_of 256 (by decide +kernel) (by decide +kernel)
theorem tw_257 : Cond.static yX7_requireIndex ∈ LT := LT_of 257 (by decide +kernel) (by decide +kernel)
theorem tw_258 : Cond.code yX7_requireIndex cX7_requireIndex 2 none ∈ LT := LT_of 258 (by decide +kernel) (by decide +kernel)
theorem ksX7_93 : CSd RX7 93 mX7_requireIndex 2 := ⟨tw_256, tw_257, tw_1, tw_258, rfl, ⟨by decide +kernel, by decide +kernel, by decide +kernel⟩⟩
theorem tw_327 : Cond.methodLink RX7 52 yX7_requireRange ∈ LT := LT_of 327 (by decide +kernel) (by decide +kernel)
theorem tw_328 : Cond.static yX7_requireRange ∈ LT := LT_of 328 (by decide +kernel) (by decide +kernel)
theorem tw_329 : Cond.code yX7_requireRange cX7_requireRange 3 none ∈ LT := LT_of 329 (by decide +kernel) (by decide +kernel)
theorem ksX7_52 : CSd RX7 52 mX7_requireRange 3 := ⟨tw_327, tw_328, tw_1, tw_329, rfl, ⟨by decide +kernel, by decide +kernel, by decide +kernel⟩⟩
theorem tw_330 : Cond.methodLink RX7 101 yX7_requireBetween ∈ LT := LT_of 330 (by decide +kernel) (by decide +kernel)
theorem tw_331 : Cond.static yX7_requireBetween ∈ LT := LT_of 331 (by decide +kernel) (by decide +kernel)
theorem tw_332 : Cond.code yX7_requireBetween cX7_requireBetween 3 none ∈ LT := LT_of 332 (by decide +kernel) (by decide +kernel)
theorem ksX7_101 : CSd RX7 101 mX7_requireBetween 3 := ⟨tw_330, tw_331, tw_1, tw_332, rfl, ⟨by decide +kernel, by decide +kernel, by decide +kernel⟩⟩
theorem tw_349 : Cond.methodLink RX7 56 yX4_lastDocument ∈ LT := LT_of 349 (by decide +kernel) (by decide +kernel)
theorem tw_350 : Cond.instanceMethod yX4_lastDocument ∈ LT := LT_of 350 (by decide +kernel) (by decide +kernel)
theorem tw_351 : Cond.selects RX4 yX4_lastDocument yX4_lastDocument ∈ LT := LT_of 351 (by decide +kernel) (by decide +kernel)
theorem tw_352 : Cond.code yX4_lastDocument cX4_lastDocument 1 (some .int) ∈ LT := LT_of 352 (by decide +kernel) (by decide +kernel)
theorem kvX7_56 : CVd RX7 56 4 mX4_lastDocument 0 := ⟨⟨TX4, 4, rfl⟩, tw_349, tw_350, tw_351, tw_4, tw_352, rfl, ⟨by decide +kernel, by decide +kernel, by decide +kernel⟩⟩
theorem tw_353 : Cond.methodLink RX4 31 yX4_documentAt ∈ LT := LT_of 353 (by decide +kernel) (by decide +kernel)
theorem kvX4_31 : CVd RX4 31 4 mX4_documentAt 1 := ⟨⟨TX4, 4, rfl⟩, tw_353, tw_217, tw_218, tw_4, tw_219, rfl, ⟨by decide +kernel, by decide +kernel, by decide +kernel⟩⟩
theorem tw_371 : Cond.methodLink RX7 78 yX2_save ∈ LT := LT_of 371 (by decide +kernel) (by decide +kernel)
theorem tw_372 : Cond.instanceMethod yX2_save ∈ LT := LT_of 372 (by decide +kernel) (by decide +kernel)
theorem tw_373 : Cond.selects RX2 yX2_save yX2_save ∈ LT := LT_of 373 (by decide +kernel) (by decide +kernel)
theorem tw_374 : Cond.code yX2_save cX2_save 2 none ∈ LT := LT_of 374 (by decide +kernel) (by decide +kernel)
theorem kvX7_78 : CVd RX7 78 2 mX2_save 1 := ⟨⟨TX2, 3, rfl⟩, tw_371, tw_372, tw_373, tw_5, tw_374, rfl, ⟨by decide +kernel, by decide +kernel, by decide +kernel⟩⟩
theorem tw_375 : Cond.methodLink RX2 25 yX6_copyFrom ∈ LT := LT_of 375 (by decide +kernel) (by decide +kernel)
theorem tw_376 : Cond.instanceMethod yX6_copyFrom ∈ LT := LT_of 376 (by decide +kernel) (by decide +kernel)
theorem tw_377 : Cond.selects RX6 yX6_copyFrom yX6_copyFrom ∈ LT := LT_of 377 (by decide +kernel) (by decide +kernel)
theorem tw_378 : Cond.code yX6_copyFrom cX6_copyFrom 3 none ∈ LT := LT_of 378 (by decide +kernel) (by decide +kernel)
theorem kvX2_25 : CVd RX2 25 5 mX6_copyFrom 1 := ⟨⟨TX6, 4, rfl⟩, tw_375, tw_376, tw_377, tw_2, tw_378, rfl, ⟨by decide +kernel, by decide +kernel, by decide +kernel⟩⟩
theorem tw_379 : Cond.methodLink RX6 32 yX4_copyFrom ∈ LT := LT_of 379 (by decide +kernel) (by decide +kernel)
theorem tw_380 : Cond.instanceMethod yX4_copyFrom ∈ LT := LT_of 380 (by decide +kernel) (by decide +kernel)
theorem tw_381 : Cond.selects RX4 yX4_copyFrom yX4_copyFrom ∈ LT := LT_of 381 (by decide +kernel) (by decide +kernel)
theorem tw_382 : Cond.code yX4_copyFrom cX4_copyFrom 2 none ∈ LT := LT_of 382 (by decide +kernel) (by decide +kernel)
theorem kvX6_32 : CVd RX6 32 4 mX4_copyFrom 1 := ⟨⟨TX4, 4, rfl⟩, tw_379, tw_380, tw_381, tw_4, tw_382, rfl, ⟨by decide +kernel, by decide +kernel, by decide +kernel⟩⟩
theorem tw_383 : Cond.methodLink RX4 25 arraycopyName ∈ LT := LT_of 383 (by decide +kernel) (by decide +kernel)
theorem tw_385 : Cond.native arraycopyName ∈ LT := LT_of 385 (by decide +kernel) (by decide +kernel)
theorem tw_384 : Cond.static arraycopyName ∈ LT := LT_of 384 (by decide +kernel) (by decide +kernel)
theorem tw_15 : Cond.initialized "java/lang/System" ∈ LT := LT_of 15 (by decide +kernel) (by decide +kernel)
theorem acX4_25 : ACp RX4 25 := ⟨tw_383, tw_385, tw_384, tw_15⟩
theorem tw_386 : Cond.methodLink RX6 36 yX0_copyFrom ∈ LT := LT_of 386 (by decide +kernel) (by decide +kernel)
theorem tw_387 : Cond.instanceMethod yX0_copyFrom ∈ LT := LT_of 387 (by decide +kernel) (by decide +kernel)
theorem tw_388 : Cond.selects RX0 yX0_copyFrom yX0_copyFrom ∈ LT := LT_of 388 (by decide +kernel) (by decide +kernel)
theorem tw_3 : Cond.initialized RX0 ∈ LT := LT_of 3 (by decide +kernel) (by decide +kernel)
theorem tw_389 : Cond.code yX0_copyFrom cX0_copyFrom 2 none ∈ LT := LT_of 389 (by decide +kernel) (by decide +kernel)
theorem kvX6_36 : CVd RX6 36 0 mX0_copyFrom 1 := ⟨⟨TX0, 3, rfl⟩, tw_386, tw_387, tw_388, tw_3, tw_389, rfl, ⟨by decide +kernel, by decide +kernel, by decide +kernel⟩⟩
theorem tw_390 : Cond.methodLink RX0 22 arraycopyName ∈ LT := LT_of 390 (by decide +kernel) (by decide +kernel)
theorem acX0_22 : ACp RX0 22 := ⟨tw_390, tw_385, tw_384, tw_15⟩
theorem tw_391 : Cond.methodLink RX7 82 yX4_push ∈ LT := LT_of 391 (by decide +kernel) (by decide +kernel)
theorem tw_392 : Cond.instanceMethod yX4_push ∈ LT := LT_of 392 (by decide +kernel) (by decide +kernel)
theorem tw_393 : Cond.selects RX4 yX4_push yX4_push ∈ LT := LT_of 393 (by decide +kernel) (by decide +kernel)
theorem tw_394 : Cond.code yX4_push cX4_push 2 none ∈ LT := LT_of 394 (by decide +kernel) (by decide +kernel)
theorem kvX7_82 : CVd RX7 82 4 mX4_push 1 := ⟨⟨TX4, 4, rfl⟩, tw_391, tw_392, tw_393, tw_4, tw_394, rfl, ⟨by decide +kernel, by decide +kernel, by decide +kernel⟩⟩
theorem tw_395 : Cond.methodLink RX7 86 yX7_recode ∈ LT := LT_of 395 (by decide +kernel) (by decide +kernel)
theorem tw_397 : Cond.instanceMethod yX7_recode ∈ LT := LT_of 397 (by decide +kernel) (by decide +kernel)
theorem ts_9 : Cond.selects RX7 yX7_recode yX7_recode ∈ LT := LT_sel 9 (by decide +kernel) (by decide +kernel)
theorem tw_398 : Cond.code yX7_recode cX7_recode 2 none ∈ LT := LT_of 398 (by decide +kernel) (by decide +kernel)
theorem kvX7_86 : CVd RX7 86 6 mX7_recode 1 := ⟨⟨TX7, 6, rfl⟩, tw_395, tw_397, ts_9, tw_1, tw_398, rfl, ⟨by decide +kernel, by decide +kernel, by decide +kernel⟩⟩
theorem tw_399 : Cond.methodLink RX7 200 yX3_divide ∈ LT := LT_of 399 (by decide +kernel) (by decide +kernel)
theorem tw_400 : Cond.instanceMethod yX3_divide ∈ LT := LT_of 400 (by decide +kernel) (by decide +kernel)
theorem tw_401 : Cond.selects RX3 yX3_divide yX3_divide ∈ LT := LT_of 401 (by decide +kernel) (by decide +kernel)
theorem tw_6 : Cond.initialized RX3 ∈ LT := LT_of 6 (by decide +kernel) (by decide +kernel)
theorem tw_402 : Cond.code yX3_divide cX3_divide 5 none ∈ LT := LT_of 402 (by decide +kernel) (by decide +kernel)
theorem kvX7_200 : CVd RX7 200 3 mX3_divide 1 := ⟨⟨TX3, 2, rfl⟩, tw_399, tw_400, tw_401, tw_6, tw_402, rfl, ⟨by decide +kernel, by decide +kernel, by decide +kernel⟩⟩
theorem tw_403 : Cond.methodLink RX3 24 yX3_chooseEnd ∈ LT := LT_of 403 (by decide +kernel) (by decide +kernel)
theorem tw_405 : Cond.instanceMethod yX3_chooseEnd ∈ LT := LT_of 405 (by decide +kernel) (by decide +kernel)
theorem ts_10 : Cond.selects RX3 yX3_chooseEnd yX3_chooseEnd ∈ LT := LT_sel 10 (by decide +kernel) (by decide +kernel)
theorem tw_406 : Cond.code yX3_chooseEnd cX3_chooseEnd 7 none ∈ LT := LT_of 406 (by decide +kernel) (by decide +kernel)
theorem kvX3_24 : CVd RX3 24 3 mX3_chooseEnd 2 := ⟨⟨TX3, 2, rfl⟩, tw_403, tw_405, ts_10, tw_6, tw_406, rfl, ⟨by decide +kernel, by decide +kernel, by decide +kernel⟩⟩
theorem tw_407 : Cond.methodLink RX3 35 yX4_widthBetween ∈ LT := LT_of 407 (by decide +kernel) (by decide +kernel)
theorem tw_408 : Cond.instanceMethod yX4_widthBetween ∈ LT := LT_of 408 (by decide +kernel) (by decide +kernel)
theorem tw_409 : Cond.selects RX4 yX4_widthBetween yX4_widthBetween ∈ LT := LT_of 409 (by decide +kernel) (by decide +kernel)
theorem tw_410 : Cond.code yX4_widthBetween cX4_widthBetween 3 (some .int) ∈ LT := LT_of 410 (by decide +kernel) (by decide +kernel)
theorem kvX3_35 : CVd RX3 35 4 mX4_widthBetween 2 := ⟨⟨TX4, 4, rfl⟩, tw_407, tw_408, tw_409, tw_4, tw_410, rfl, ⟨by decide +kernel, by decide +kernel, by decide +kernel⟩⟩
theorem tw_411 : Cond.methodLink RX3 39 yX5_bestSize ∈ LT := LT_of 411 (by decide +kernel) (by decide +kernel)
theorem tw_412 : Cond.static yX5_bestSize ∈ LT := LT_of 412 (by decide +kernel) (by decide +kernel)
theorem tw_413 : Cond.code yX5_bestSize cX5_bestSize 4 (some .int) ∈ LT := LT_of 413 (by decide +kernel) (by decide +kernel)
theorem ksX3_39 : CSd RX3 39 mX5_bestSize 2 := ⟨tw_411, tw_412, tw_16, tw_413, rfl, ⟨by decide +kernel, by decide +kernel, by decide +kernel⟩⟩
theorem tw_414 : Cond.methodLink RX5 11 yX5_lowBits ∈ LT := LT_of 414 (by decide +kernel) (by decide +kernel)
theorem tw_415 : Cond.static yX5_lowBits ∈ LT := LT_of 415 (by decide +kernel) (by decide +kernel)
theorem tw_416 : Cond.code yX5_lowBits cX5_lowBits 3 (some .int) ∈ LT := LT_of 416 (by decide +kernel) (by decide +kernel)
theorem ksX5_11 : CSd RX5 11 mX5_lowBits 2 := ⟨tw_414, tw_415, tw_16, tw_416, rfl, ⟨by decide +kernel, by decide +kernel, by decide +kernel⟩⟩
theorem tw_417 : Cond.methodLink RX5 15 yX5_highLength ∈ LT := LT_of 417 (by decide +kernel) (by decide +kernel)
theorem ksX5_15 : CSd RX5 15 mX5_highLength 3 := ⟨tw_417, tw_229, tw_16, tw_230, rfl, ⟨by decide +kernel, by decide +kernel, by decide +kernel⟩⟩
theorem tw_418 : Cond.methodLink RX3 31 yX4_addPart ∈ LT := LT_of 418 (by decide +kernel) (by decide +kernel)
theorem tw_419 : Cond.instanceMethod yX4_addPart ∈ LT := LT_of 419 (by decide +kernel) (by decide +kernel)
theorem tw_420 : Cond.selects RX4 yX4_addPart yX4_addPart ∈ LT := LT_of 420 (by decide +kernel) (by decide +kernel)
theorem tw_421 : Cond.code yX4_addPart cX4_addPart 8 none ∈ LT := LT_of 421 (by decide +kernel) (by decide +kernel)
theorem kvX3_31 : CVd RX3 31 4 mX4_addPart 2 := ⟨⟨TX4, 4, rfl⟩, tw_418, tw_419, tw_420, tw_4, tw_421, rfl, ⟨by decide +kernel, by decide +kernel, by decide +kernel⟩⟩
theorem tw_422 : Cond.methodLink RX4 35 yX4_widthBetween ∈ LT := LT_of 422 (by decide +kernel) (by decide +kernel)
theorem kvX4_35 : CVd RX4 35 4 mX4_widthBetween 2 := ⟨⟨TX4, 4, rfl⟩, tw_422, tw_408, tw_409, tw_4, tw_410, rfl, ⟨by decide +kernel, by decide +kernel, by decide +kernel⟩⟩
theorem tw_423 : Cond.methodLink RX4 39 yX5_bestSize ∈ LT := LT_of 423 (by decide +kernel) (by decide +kernel)
theorem ksX4_39 : CSd RX4 39 mX5_bestSize 2 := ⟨tw_423, tw_412, tw_16, tw_413, rfl, ⟨by decide +kernel, by decide +kernel, by decide +kernel⟩⟩
theorem tw_424 : Cond.methodLink RX4 47 yX5_bestKind ∈ LT := LT_of 424 (by decide +kernel) (by decide +kernel)
theorem tw_425 : Cond.static yX5_bestKind ∈ LT := LT_of 425 (by decide +kernel) (by decide +kernel)
theorem tw_426 : Cond.code yX5_bestKind cX5_bestKind 3 (some .int) ∈ LT := LT_of 426 (by decide +kernel) (by decide +kernel)
theorem ksX4_47 : CSd RX4 47 mX5_bestKind 3 := ⟨tw_424, tw_425, tw_16, tw_426, rfl, ⟨by decide +kernel, by decide +kernel, by decide +kernel⟩⟩
theorem tw_427 : Cond.methodLink RX4 51 yX5_lowBits ∈ LT := LT_of 427 (by decide +kernel) (by decide +kernel)
theorem ksX4_51 : CSd RX4 51 mX5_lowBits 2 := ⟨tw_427, tw_415, tw_16, tw_416, rfl, ⟨by decide +kernel, by decide +kernel, by decide +kernel⟩⟩
theorem tw_428 : Cond.methodLink RX7 203 yX0_dropList ∈ LT := LT_of 428 (by decide +kernel) (by decide +kernel)
theorem tw_429 : Cond.instanceMethod yX0_dropList ∈ LT := LT_of 429 (by decide +kernel) (by decide +kernel)
theorem tw_430 : Cond.selects RX0 yX0_dropList yX0_dropList ∈ LT := LT_of 430 (by decide +kernel) (by decide +kernel)
theorem tw_431 : Cond.code yX0_dropList cX0_dropList 2 none ∈ LT := LT_of 431 (by decide +kernel) (by decide +kernel)
theorem kvX7_203 : CVd RX7 203 0 mX0_dropList 1 := ⟨⟨TX0, 3, rfl⟩, tw_428, tw_429, tw_430, tw_3, tw_431, rfl, ⟨by decide +kernel, by decide +kernel, by decide +kernel⟩⟩
theorem tw_432 : Cond.methodLink RX0 28 yX0_dropBetween ∈ LT := LT_of 432 (by decide +kernel) (by decide +kernel)
theorem tw_434 : Cond.instanceMethod yX0_dropBetween ∈ LT := LT_of 434 (by decide +kernel) (by decide +kernel)
theorem ts_11 : Cond.selects RX0 yX0_dropBetween yX0_dropBetween ∈ LT := LT_sel 11 (by decide +kernel) (by decide +kernel)
theorem tw_435 : Cond.code yX0_dropBetween cX0_dropBetween 6 (some .int) ∈ LT := LT_of 435 (by decide +kernel) (by decide +kernel)
theorem kvX0_28 : CVd RX0 28 0 mX0_dropBetween 2 := ⟨⟨TX0, 3, rfl⟩, tw_432, tw_434, ts_11, tw_3, tw_435, rfl, ⟨by decide +kernel, by decide +kernel, by decide +kernel⟩⟩
theorem tw_436 : Cond.methodLink RL 94 yL_appendRange ∈ LT := LT_of 436 (by decide +kernel) (by decide +kernel)
theorem tw_437 : Cond.static yL_appendRange ∈ LT := LT_of 437 (by decide +kernel) (by decide +kernel)
theorem tw_438 : Cond.codeWith yL_appendRange cL_appendRange 7 (some .int) [(0, 14, 17, 13), (0, 14, 21, 15), (0, 14, 25, 17)] ∈ LT := LT_of 438 (by decide +kernel) (by decide +kernel)
theorem ksL_94 : CSw RL 94 mL_appendRange 6 := ⟨tw_436, tw_437, tw_0, tw_438, (fun z => by cases z), ⟨by decide +kernel, by decide +kernel, by decide +kernel⟩⟩
theorem tw_439 : Cond.methodLink RL 19 yX7_appendRange ∈ LT := LT_of 439 (by decide +kernel) (by decide +kernel)
theorem kvL_19 : CVd RL 19 6 mX7_appendRange 4 := ⟨⟨TX7, 6, rfl⟩, tw_439, tw_246, tw_247, tw_1, tw_248, rfl, ⟨by decide +kernel, by decide +kernel, by decide +kernel⟩⟩
theorem tw_440 : Cond.methodLink RL 98 yL_clear ∈ LT := LT_of 440 (by decide +kernel) (by decide +kernel)
theorem tw_441 : Cond.static yL_clear ∈ LT := LT_of 441 (by decide +kernel) (by decide +kernel)
theorem tw_442 : Cond.codeWith yL_clear cL_clear 4 (some .int) [(0, 9, 12, 13)] ∈ LT := LT_of 442 (by decide +kernel) (by decide +kernel)
theorem ksL_98 : CSw RL 98 mL_clear 3 := ⟨tw_440, tw_441, tw_0, tw_442, (fun z => by cases z), ⟨by decide +kernel, by decide +kernel, by decide +kernel⟩⟩
theorem tw_443 : Cond.methodLink RL 23 yX7_clear ∈ LT := LT_of 443 (by decide +kernel) (by decide +kernel)
theorem tw_444 : Cond.instanceMethod yX7_clear ∈ LT := LT_of 444 (by decide +kernel) (by decide +kernel)
theorem tw_445 : Cond.selects RX7 yX7_clear yX7_clear ∈ LT := LT_of 445 (by decide +kernel) (by decide +kernel)
theorem tw_446 : Cond.code yX7_clear cX7_clear 3 (some .int) ∈ LT := LT_of 446 (by decide +kernel) (by decide +kernel)
theorem kvL_23 : CVd RL 23 6 mX7_clear 1 := ⟨⟨TX7, 6, rfl⟩, tw_443, tw_444, tw_445, tw_1, tw_446, rfl, ⟨by decide +kernel, by decide +kernel, by decide +kernel⟩⟩
theorem tw_447 : Cond.methodLink RX7 89 yX7_writeResult ∈ LT := LT_of 447 (by decide +kernel) (by decide +kernel)
theorem tw_449 : Cond.instanceMethod yX7_writeResult ∈ LT := LT_of 449 (by decide +kernel) (by decide +kernel)
theorem ts_12 : Cond.selects RX7 yX7_writeResult yX7_writeResult ∈ LT := LT_sel 12 (by decide +kernel) (by decide +kernel)
theorem tw_450 : Cond.code yX7_writeResult cX7_writeResult 3 (some .int) ∈ LT := LT_of 450 (by decide +kernel) (by decide +kernel)
theorem kvX7_89 : CVd RX7 89 6 mX7_writeResult 2 := ⟨⟨TX7, 6, rfl⟩, tw_447, tw_449, ts_12, tw_1, tw_450, rfl, ⟨by decide +kernel, by decide +kernel, by decide +kernel⟩⟩
theorem tw_451 : Cond.methodLink RX7 206 yX4_replace ∈ LT := LT_of 451 (by decide +kernel) (by decide +kernel)
theorem tw_452 : Cond.instanceMethod yX4_replace ∈ LT := LT_of 452 (by decide +kernel) (by decide +kernel)
theorem tw_453 : Cond.selects RX4 yX4_replace yX4_replace ∈ LT := LT_of 453 (by decide +kernel) (by decide +kernel)
theorem tw_454 : Cond.code yX4_replace cX4_replace 3 none ∈ LT := LT_of 454 (by decide +kernel) (by decide +kernel)
theorem kvX7_206 : CVd RX7 206 4 mX4_replace 2 := ⟨⟨TX4, 4, rfl⟩, tw_451, tw_452, tw_453, tw_4, tw_454, rfl, ⟨by decide +kernel, by decide +kernel, by decide +kernel⟩⟩
theorem tw_455 : Cond.methodLink RL 102 yL_size ∈ LT := LT_of 455 (by decide +kernel) (by decide +kernel)
theorem tw_456 : Cond.static yL_size ∈ LT := LT_of 456 (by decide +kernel) (by decide +kernel)
theorem tw_457 : Cond.codeWith yL_size cL_size 4 (some .int) [(0, 9, 12, 13)] ∈ LT := LT_of 457 (by decide +kernel) (by decide +kernel)
theorem ksL_102 : CSw RL 102 mL_size 3 := ⟨tw_455, tw_456, tw_0, tw_457, (fun z => by cases z), ⟨by decide +kernel, by decide +kernel, by decide +kernel⟩⟩
theorem tw_458 : Cond.methodLink RL 27 yX7_size ∈ LT := LT_of 458 (by decide +kernel) (by decide +kernel)
theorem tw_459 : Cond.instanceMethod yX7_size ∈ LT := LT_of 459 (by decide +kernel) (by decide +kernel)
theorem tw_460 : Cond.selects RX7 yX7_size yX7_size ∈ LT := LT_of 460 (by decide +kernel) (by decide +kernel)
theorem tw_461 : Cond.code yX7_size cX7_size 2 (some .int) ∈ LT := LT_of 461 (by decide +kernel) (by decide +kernel)
theorem kvL_27 : CVd RL 27 6 mX7_size 1 := ⟨⟨TX7, 6, rfl⟩, tw_458, tw_459, tw_460, tw_1, tw_461, rfl, ⟨by decide +kernel, by decide +kernel, by decide +kernel⟩⟩
theorem tw_462 : Cond.methodLink RL 105 yL_document ∈ LT := LT_of 462 (by decide +kernel) (by decide +kernel)
theorem tw_463 : Cond.static yL_document ∈ LT := LT_of 463 (by decide +kernel) (by decide +kernel)
theorem tw_464 : Cond.codeWith yL_document cL_document 5 (some .int) [(0, 10, 13, 13)] ∈ LT := LT_of 464 (by decide +kernel) (by decide +kernel)
theorem ksL_105 : CSw RL 105 mL_document 4 := ⟨tw_462, tw_463, tw_0, tw_464, (fun z => by cases z), ⟨by decide +kernel, by decide +kernel, by decide +kernel⟩⟩
theorem tw_465 : Cond.methodLink RL 30 yX7_document ∈ LT := LT_of 465 (by decide +kernel) (by decide +kernel)
theorem tw_466 : Cond.instanceMethod yX7_document ∈ LT := LT_of 466 (by decide +kernel) (by decide +kernel)
theorem tw_467 : Cond.selects RX7 yX7_document yX7_document ∈ LT := LT_of 467 (by decide +kernel) (by decide +kernel)
theorem tw_468 : Cond.code yX7_document cX7_document 4 (some .int) ∈ LT := LT_of 468 (by decide +kernel) (by decide +kernel)
theorem kvL_30 : CVd RL 30 6 mX7_document 2 := ⟨⟨TX7, 6, rfl⟩, tw_465, tw_466, tw_467, tw_1, tw_468, rfl, ⟨by decide +kernel, by decide +kernel, by decide +kernel⟩⟩
theorem tw_469 : Cond.methodLink RX7 97 yX4_documentAt ∈ LT := LT_of 469 (by decide +kernel) (by decide +kernel)
theorem kvX7_97 : CVd RX7 97 4 mX4_documentAt 1 := ⟨⟨TX4, 4, rfl⟩, tw_469, tw_217, tw_218, tw_4, tw_219, rfl, ⟨by decide +kernel, by decide +kernel, by decide +kernel⟩⟩
theorem tw_470 : Cond.methodLink RL 108 yL_rank ∈ LT := LT_of 470 (by decide +kernel) (by decide +kernel)
theorem tw_471 : Cond.static yL_rank ∈ LT := LT_of 471 (by decide +kernel) (by decide +kernel)
theorem tw_472 : Cond.codeWith yL_rank cL_rank 5 (some .int) [(0, 10, 13, 13), (0, 10, 17, 15)] ∈ LT := LT_of 472 (by decide +kernel) (by decide +kernel)
theorem ksL_108 : CSw RL 108 mL_rank 4 := ⟨tw_470, tw_471, tw_0, tw_472, (fun z => by cases z), ⟨by decide +kernel, by decide +kernel, by decide +kernel⟩⟩
theorem tw_473 : Cond.methodLink RL 33 yX7_rank ∈ LT := LT_of 473 (by decide +kernel) (by decide +kernel)
theorem tw_474 : Cond.instanceMethod yX7_rank ∈ LT := LT_of 474 (by decide +kernel) (by decide +kernel)
theorem tw_475 : Cond.selects RX7 yX7_rank yX7_rank ∈ LT := LT_of 475 (by decide +kernel) (by decide +kernel)
theorem tw_476 : Cond.code yX7_rank cX7_rank 4 (some .int) ∈ LT := LT_of 476 (by decide +kernel) (by decide +kernel)
theorem kvL_33 : CVd RL 33 6 mX7_rank 2 := ⟨⟨TX7, 6, rfl⟩, tw_473, tw_474, tw_475, tw_1, tw_476, rfl, ⟨by decide +kernel, by decide +kernel, by decide +kernel⟩⟩
theorem tw_477 : Cond.methodLink RX7 104 yX4_countBelow ∈ LT := LT_of 477 (by decide +kernel) (by decide +kernel)
theorem tw_478 : Cond.instanceMethod yX4_countBelow ∈ LT := LT_of 478 (by decide +kernel) (by decide +kernel)
theorem tw_479 : Cond.selects RX4 yX4_countBelow yX4_countBelow ∈ LT := LT_of 479 (by decide +kernel) (by decide +kernel)
theorem tw_480 : Cond.code yX4_countBelow cX4_countBelow 3 (some .int) ∈ LT := LT_of 480 (by decide +kernel) (by decide +kernel)
theorem kvX7_104 : CVd RX7 104 4 mX4_countBelow 1 := ⟨⟨TX4, 4, rfl⟩, tw_477, tw_478, tw_479, tw_4, tw_480, rfl, ⟨by decide +kernel, by decide +kernel, by decide +kernel⟩⟩
theorem tw_481 : Cond.methodLink RL 111 yL_partitions ∈ LT := LT_of 481 (by decide +kernel) (by decide +kernel)
theorem tw_482 : Cond.static yL_partitions ∈ LT := LT_of 482 (by decide +kernel) (by decide +kernel)
theorem tw_483 : Cond.codeWith yL_partitions cL_partitions 4 (some .int) [(0, 9, 12, 13)] ∈ LT := LT_of 483 (by decide +kernel) (by decide +kernel)
theorem ksL_111 : CSw RL 111 mL_partitions 3 := ⟨tw_481, tw_482, tw_0, tw_483, (fun z => by cases z), ⟨by decide +kernel, by decide +kernel, by decide +kernel⟩⟩
theorem tw_484 : Cond.methodLink RL 36 yX7_partitions ∈ LT := LT_of 484 (by decide +kernel) (by decide +kernel)
theorem tw_485 : Cond.instanceMethod yX7_partitions ∈ LT := LT_of 485 (by decide +kernel) (by decide +kernel)
theorem tw_486 : Cond.selects RX7 yX7_partitions yX7_partitions ∈ LT := LT_of 486 (by decide +kernel) (by decide +kernel)
theorem tw_487 : Cond.code yX7_partitions cX7_partitions 2 (some .int) ∈ LT := LT_of 487 (by decide +kernel) (by decide +kernel)
theorem kvL_36 : CVd RL 36 6 mX7_partitions 1 := ⟨⟨TX7, 6, rfl⟩, tw_484, tw_485, tw_486, tw_1, tw_487, rfl, ⟨by decide +kernel, by decide +kernel, by decide +kernel⟩⟩
theorem tw_488 : Cond.methodLink RL 114 yL_partition ∈ LT := LT_of 488 (by decide +kernel) (by decide +kernel)
theorem tw_489 : Cond.static yL_partition ∈ LT := LT_of 489 (by decide +kernel) (by decide +kernel)
theorem tw_490 : Cond.codeWith yL_partition cL_partition 6 (some .int) [(0, 12, 15, 13), (0, 12, 19, 15)] ∈ LT := LT_of 490 (by decide +kernel) (by decide +kernel)
theorem ksL_114 : CSw RL 114 mL_partition 5 := ⟨tw_488, tw_489, tw_0, tw_490, (fun z => by cases z), ⟨by decide +kernel, by decide +kernel, by decide +kernel⟩⟩
theorem tw_491 : Cond.methodLink RL 39 yX7_partition ∈ LT := LT_of 491 (by decide +kernel) (by decide +kernel)
theorem tw_492 : Cond.instanceMethod yX7_partition ∈ LT := LT_of 492 (by decide +kernel) (by decide +kernel)
theorem tw_493 : Cond.selects RX7 yX7_partition yX7_partition ∈ LT := LT_of 493 (by decide +kernel) (by decide +kernel)
theorem tw_494 : Cond.code yX7_partition cX7_partition 5 (some .int) ∈ LT := LT_of 494 (by decide +kernel) (by decide +kernel)
theorem kvL_39 : CVd RL 39 6 mX7_partition 3 := ⟨⟨TX7, 6, rfl⟩, tw_491, tw_492, tw_493, tw_1, tw_494, rfl, ⟨by decide +kernel, by decide +kernel, by decide +kernel⟩⟩
theorem tw_495 : Cond.methodLink RX7 110 yX4_factOf ∈ LT := LT_of 495 (by decide +kernel) (by decide +kernel)
theorem kvX7_110 : CVd RX7 110 4 mX4_factOf 2 := ⟨⟨TX4, 4, rfl⟩, tw_495, tw_196, tw_197, tw_4, tw_198, rfl, ⟨by decide +kernel, by decide +kernel, by decide +kernel⟩⟩
theorem tw_496 : Cond.methodLink RL 118 yL_codeLength ∈ LT := LT_of 496 (by decide +kernel) (by decide +kernel)
theorem tw_497 : Cond.static yL_codeLength ∈ LT := LT_of 497 (by decide +kernel) (by decide +kernel)
theorem tw_498 : Cond.codeWith yL_codeLength cL_codeLength 4 (some .int) [(0, 9, 12, 13)] ∈ LT := LT_of 498 (by decide +kernel) (by decide +kernel)
theorem ksL_118 : CSw RL 118 mL_codeLength 3 := ⟨tw_496, tw_497, tw_0, tw_498, (fun z => by cases z), ⟨by decide +kernel, by decide +kernel, by decide +kernel⟩⟩
theorem tw_499 : Cond.methodLink RL 43 yX7_codeLength ∈ LT := LT_of 499 (by decide +kernel) (by decide +kernel)
theorem tw_500 : Cond.instanceMethod yX7_codeLength ∈ LT := LT_of 500 (by decide +kernel) (by decide +kernel)
theorem tw_501 : Cond.selects RX7 yX7_codeLength yX7_codeLength ∈ LT := LT_of 501 (by decide +kernel) (by decide +kernel)
theorem tw_502 : Cond.code yX7_codeLength cX7_codeLength 2 (some .int) ∈ LT := LT_of 502 (by decide +kernel) (by decide +kernel)
theorem kvL_43 : CVd RL 43 6 mX7_codeLength 1 := ⟨⟨TX7, 6, rfl⟩, tw_499, tw_500, tw_501, tw_1, tw_502, rfl, ⟨by decide +kernel, by decide +kernel, by decide +kernel⟩⟩
theorem tw_503 : Cond.methodLink RX7 113 yX4_codeSize ∈ LT := LT_of 503 (by decide +kernel) (by decide +kernel)
theorem tw_504 : Cond.instanceMethod yX4_codeSize ∈ LT := LT_of 504 (by decide +kernel) (by decide +kernel)
theorem tw_505 : Cond.selects RX4 yX4_codeSize yX4_codeSize ∈ LT := LT_of 505 (by decide +kernel) (by decide +kernel)
theorem tw_506 : Cond.code yX4_codeSize cX4_codeSize 3 (some .int) ∈ LT := LT_of 506 (by decide +kernel) (by decide +kernel)
theorem kvX7_113 : CVd RX7 113 4 mX4_codeSize 0 := ⟨⟨TX4, 4, rfl⟩, tw_503, tw_504, tw_505, tw_4, tw_506, rfl, ⟨by decide +kernel, by decide +kernel, by decide +kernel⟩⟩
theorem tw_507 : Cond.methodLink RL 121 yL_codeBit ∈ LT := LT_of 507 (by decide +kernel) (by decide +kernel)
theorem tw_508 : Cond.static yL_codeBit ∈ LT := LT_of 508 (by decide +kernel) (by decide +kernel)
theorem tw_509 : Cond.codeWith yL_codeBit cL_codeBit 5 (some .int) [(0, 10, 13, 13)] ∈ LT := LT_of 509 (by decide +kernel) (by decide +kernel)
theorem ksL_121 : CSw RL 121 mL_codeBit 4 := ⟨tw_507, tw_508, tw_0, tw_509, (fun z => by cases z), ⟨by decide +kernel, by decide +kernel, by decide +kernel⟩⟩
theorem tw_510 : Cond.methodLink RL 46 yX7_codeBit ∈ LT := LT_of 510 (by decide +kernel) (by decide +kernel)
theorem tw_511 : Cond.instanceMethod yX7_codeBit ∈ LT := LT_of 511 (by decide +kernel) (by decide +kernel)
theorem tw_512 : Cond.selects RX7 yX7_codeBit yX7_codeBit ∈ LT := LT_of 512 (by decide +kernel) (by decide +kernel)
theorem tw_513 : Cond.code yX7_codeBit cX7_codeBit 4 (some .int) ∈ LT := LT_of 513 (by decide +kernel) (by decide +kernel)
theorem kvL_46 : CVd RL 46 6 mX7_codeBit 2 := ⟨⟨TX7, 6, rfl⟩, tw_510, tw_511, tw_512, tw_1, tw_513, rfl, ⟨by decide +kernel, by decide +kernel, by decide +kernel⟩⟩
theorem tw_514 : Cond.methodLink RX7 120 yX1_bitAt ∈ LT := LT_of 514 (by decide +kernel) (by decide +kernel)
theorem tw_515 : Cond.instanceMethod yX1_bitAt ∈ LT := LT_of 515 (by decide +kernel) (by decide +kernel)
theorem tw_516 : Cond.selects RX1 yX1_bitAt yX1_bitAt ∈ LT := LT_of 516 (by decide +kernel) (by decide +kernel)
theorem tw_517 : Cond.code yX1_bitAt cX1_bitAt 2 (some .int) ∈ LT := LT_of 517 (by decide +kernel) (by decide +kernel)
theorem kvX7_120 : CVd RX7 120 1 mX1_bitAt 1 := ⟨⟨TX1, 2, rfl⟩, tw_514, tw_515, tw_516, tw_7, tw_517, rfl, ⟨by decide +kernel, by decide +kernel, by decide +kernel⟩⟩
theorem tw_518 : Cond.methodLink RL 124 yL_fixedLength ∈ LT := LT_of 518 (by decide +kernel) (by decide +kernel)
theorem tw_519 : Cond.static yL_fixedLength ∈ LT := LT_of 519 (by decide +kernel) (by decide +kernel)
theorem tw_520 : Cond.codeWith yL_fixedLength cL_fixedLength 5 (some .int) [(0, 10, 13, 13), (0, 10, 17, 15)] ∈ LT := LT_of 520 (by decide +kernel) (by decide +kernel)
theorem ksL_124 : CSw RL 124 mL_fixedLength 4 := ⟨tw_518, tw_519, tw_0, tw_520, (fun z => by cases z), ⟨by decide +kernel, by decide +kernel, by decide +kernel⟩⟩
theorem tw_521 : Cond.methodLink RL 49 yX7_fixedLength ∈ LT := LT_of 521 (by decide +kernel) (by decide +kernel)
theorem tw_522 : Cond.instanceMethod yX7_fixedLength ∈ LT := LT_of 522 (by decide +kernel) (by decide +kernel)
theorem tw_523 : Cond.selects RX7 yX7_fixedLength yX7_fixedLength ∈ LT := LT_of 523 (by decide +kernel) (by decide +kernel)
theorem tw_524 : Cond.code yX7_fixedLength cX7_fixedLength 4 (some .int) ∈ LT := LT_of 524 (by decide +kernel) (by decide +kernel)
theorem kvL_49 : CVd RL 49 6 mX7_fixedLength 2 := ⟨⟨TX7, 6, rfl⟩, tw_521, tw_522, tw_523, tw_1, tw_524, rfl, ⟨by decide +kernel, by decide +kernel, by decide +kernel⟩⟩
theorem tw_525 : Cond.methodLink RX7 123 yX4_sizeInParts ∈ LT := LT_of 525 (by decide +kernel) (by decide +kernel)
theorem tw_526 : Cond.instanceMethod yX4_sizeInParts ∈ LT := LT_of 526 (by decide +kernel) (by decide +kernel)
theorem tw_527 : Cond.selects RX4 yX4_sizeInParts yX4_sizeInParts ∈ LT := LT_of 527 (by decide +kernel) (by decide +kernel)
theorem tw_528 : Cond.code yX4_sizeInParts cX4_sizeInParts 6 (some .int) ∈ LT := LT_of 528 (by decide +kernel) (by decide +kernel)
theorem kvX7_123 : CVd RX7 123 4 mX4_sizeInParts 1 := ⟨⟨TX4, 4, rfl⟩, tw_525, tw_526, tw_527, tw_4, tw_528, rfl, ⟨by decide +kernel, by decide +kernel, by decide +kernel⟩⟩
theorem tw_529 : Cond.methodLink RL 127 yL_bitsPerDocument ∈ LT := LT_of 529 (by decide +kernel) (by decide +kernel)
theorem tw_530 : Cond.static yL_bitsPerDocument ∈ LT := LT_of 530 (by decide +kernel) (by decide +kernel)
theorem tw_531 : Cond.codeWith yL_bitsPerDocument cL_bitsPerDocument 4 (some .int) [(0, 8, 11, 13)] ∈ LT := LT_of 531 (by decide +kernel) (by decide +kernel)
theorem ksL_127 : CSw RL 127 mL_bitsPerDocument 3 := ⟨tw_529, tw_530, tw_0, tw_531, (fun z => by cases z), ⟨by decide +kernel, by decide +kernel, by decide +kernel⟩⟩
theorem tw_532 : Cond.methodLink RL 52 yX7_bitsPerDocument ∈ LT := LT_of 532 (by decide +kernel) (by decide +kernel)
theorem tw_533 : Cond.instanceMethod yX7_bitsPerDocument ∈ LT := LT_of 533 (by decide +kernel) (by decide +kernel)
theorem tw_534 : Cond.selects RX7 yX7_bitsPerDocument yX7_bitsPerDocument ∈ LT := LT_of 534 (by decide +kernel) (by decide +kernel)
theorem tw_535 : Cond.code yX7_bitsPerDocument cX7_bitsPerDocument 3 (some .double) ∈ LT := LT_of 535 (by decide +kernel) (by decide +kernel)
theorem kvL_52 : CVd RL 52 6 mX7_bitsPerDocument 1 := ⟨⟨TX7, 6, rfl⟩, tw_532, tw_533, tw_534, tw_1, tw_535, rfl, ⟨by decide +kernel, by decide +kernel, by decide +kernel⟩⟩
theorem tw_536 : Cond.methodLink RL 131 yL_nextAtLeast ∈ LT := LT_of 536 (by decide +kernel) (by decide +kernel)
theorem tw_537 : Cond.static yL_nextAtLeast ∈ LT := LT_of 537 (by decide +kernel) (by decide +kernel)
theorem tw_538 : Cond.codeWith yL_nextAtLeast cL_nextAtLeast 5 (some .int) [(0, 10, 13, 13), (0, 10, 17, 15)] ∈ LT := LT_of 538 (by decide +kernel) (by decide +kernel)
theorem ksL_131 : CSw RL 131 mL_nextAtLeast 4 := ⟨tw_536, tw_537, tw_0, tw_538, (fun z => by cases z), ⟨by decide +kernel, by decide +kernel, by decide +kernel⟩⟩
theorem tw_539 : Cond.methodLink RL 56 yX7_nextAtLeast ∈ LT := LT_of 539 (by decide +kernel) (by decide +kernel)
theorem tw_540 : Cond.instanceMethod yX7_nextAtLeast ∈ LT := LT_of 540 (by decide +kernel) (by decide +kernel)
theorem tw_541 : Cond.selects RX7 yX7_nextAtLeast yX7_nextAtLeast ∈ LT := LT_of 541 (by decide +kernel) (by decide +kernel)
theorem tw_542 : Cond.code yX7_nextAtLeast cX7_nextAtLeast 3 (some .int) ∈ LT := LT_of 542 (by decide +kernel) (by decide +kernel)
theorem kvL_56 : CVd RL 56 6 mX7_nextAtLeast 2 := ⟨⟨TX7, 6, rfl⟩, tw_539, tw_540, tw_541, tw_1, tw_542, rfl, ⟨by decide +kernel, by decide +kernel, by decide +kernel⟩⟩
theorem tw_543 : Cond.methodLink RX7 129 yX6_query ∈ LT := LT_of 543 (by decide +kernel) (by decide +kernel)
theorem tw_544 : Cond.instanceMethod yX6_query ∈ LT := LT_of 544 (by decide +kernel) (by decide +kernel)
theorem tw_545 : Cond.selects RX6 yX6_query yX6_query ∈ LT := LT_of 545 (by decide +kernel) (by decide +kernel)
theorem tw_546 : Cond.code yX6_query cX6_query 6 (some .int) ∈ LT := LT_of 546 (by decide +kernel) (by decide +kernel)
theorem kvX7_129 : CVd RX7 129 5 mX6_query 2 := ⟨⟨TX6, 4, rfl⟩, tw_543, tw_544, tw_545, tw_2, tw_546, rfl, ⟨by decide +kernel, by decide +kernel, by decide +kernel⟩⟩
theorem tw_547 : Cond.methodLink RX6 42 yX4_factOf ∈ LT := LT_of 547 (by decide +kernel) (by decide +kernel)
theorem kvX6_42 : CVd RX6 42 4 mX4_factOf 2 := ⟨⟨TX4, 4, rfl⟩, tw_547, tw_196, tw_197, tw_4, tw_198, rfl, ⟨by decide +kernel, by decide +kernel, by decide +kernel⟩⟩
theorem tw_548 : Cond.methodLink RX6 46 yX6_queryInside ∈ LT := LT_of 548 (by decide +kernel) (by decide +kernel)
theorem tw_550 : Cond.instanceMethod yX6_queryInside ∈ LT := LT_of 550 (by decide +kernel) (by decide +kernel)
theorem ts_13 : Cond.selects RX6 yX6_queryInside yX6_queryInside ∈ LT := LT_sel 13 (by decide +kernel) (by decide +kernel)
theorem tw_551 : Cond.code yX6_queryInside cX6_queryInside 6 (some .int) ∈ LT := LT_of 551 (by decide +kernel) (by decide +kernel)
theorem kvX6_46 : CVd RX6 46 5 mX6_queryInside 3 := ⟨⟨TX6, 4, rfl⟩, tw_548, tw_550, ts_13, tw_2, tw_551, rfl, ⟨by decide +kernel, by decide +kernel, by decide +kernel⟩⟩
theorem tw_552 : Cond.methodLink RX6 50 yX4_countBelow ∈ LT := LT_of 552 (by decide +kernel) (by decide +kernel)
theorem kvX6_50 : CVd RX6 50 4 mX4_countBelow 1 := ⟨⟨TX4, 4, rfl⟩, tw_552, tw_478, tw_479, tw_4, tw_480, rfl, ⟨by decide +kernel, by decide +kernel, by decide +kernel⟩⟩
theorem tw_553 : Cond.methodLink RX6 54 yX0_use ∈ LT := LT_of 553 (by decide +kernel) (by decide +kernel)
theorem tw_554 : Cond.instanceMethod yX0_use ∈ LT := LT_of 554 (by decide +kernel) (by decide +kernel)
theorem tw_555 : Cond.selects RX0 yX0_use yX0_use ∈ LT := LT_of 555 (by decide +kernel) (by decide +kernel)
theorem tw_556 : Cond.code yX0_use cX0_use 3 (some .boolean) ∈ LT := LT_of 556 (by decide +kernel) (by decide +kernel)
theorem kvX6_54 : CVd RX6 54 0 mX0_use 1 := ⟨⟨TX0, 3, rfl⟩, tw_553, tw_554, tw_555, tw_3, tw_556, rfl, ⟨by decide +kernel, by decide +kernel, by decide +kernel⟩⟩
theorem tw_557 : Cond.methodLink RX0 32 yX0_shrinkTo ∈ LT := LT_of 557 (by decide +kernel) (by decide +kernel)
theorem tw_559 : Cond.instanceMethod yX0_shrinkTo ∈ LT := LT_of 559 (by decide +kernel) (by decide +kernel)
theorem ts_14 : Cond.selects RX0 yX0_shrinkTo yX0_shrinkTo ∈ LT := LT_sel 14 (by decide +kernel) (by decide +kernel)
theorem tw_560 : Cond.code yX0_shrinkTo cX0_shrinkTo 3 none ∈ LT := LT_of 560 (by decide +kernel) (by decide +kernel)
theorem kvX0_32 : CVd RX0 32 0 mX0_shrinkTo 1 := ⟨⟨TX0, 3, rfl⟩, tw_557, tw_559, ts_14, tw_3, tw_560, rfl, ⟨by decide +kernel, by decide +kernel, by decide +kernel⟩⟩
theorem tw_561 : Cond.methodLink RX6 58 yX4_readsInside ∈ LT := LT_of 561 (by decide +kernel) (by decide +kernel)
theorem tw_562 : Cond.instanceMethod yX4_readsInside ∈ LT := LT_of 562 (by decide +kernel) (by decide +kernel)
theorem tw_563 : Cond.selects RX4 yX4_readsInside yX4_readsInside ∈ LT := LT_of 563 (by decide +kernel) (by decide +kernel)
theorem tw_564 : Cond.code yX4_readsInside cX4_readsInside 8 (some .int) ∈ LT := LT_of 564 (by decide +kernel) (by decide +kernel)
theorem kvX6_58 : CVd RX6 58 4 mX4_readsInside 3 := ⟨⟨TX4, 4, rfl⟩, tw_561, tw_562, tw_563, tw_4, tw_564, rfl, ⟨by decide +kernel, by decide +kernel, by decide +kernel⟩⟩
theorem tw_565 : Cond.methodLink RX4 54 yX4_countBelow ∈ LT := LT_of 565 (by decide +kernel) (by decide +kernel)
theorem kvX4_54 : CVd RX4 54 4 mX4_countBelow 1 := ⟨⟨TX4, 4, rfl⟩, tw_565, tw_478, tw_479, tw_4, tw_480, rfl, ⟨by decide +kernel, by decide +kernel, by decide +kernel⟩⟩
theorem tw_566 : Cond.methodLink RX6 61 yX4_documentAt ∈ LT := LT_of 566 (by decide +kernel) (by decide +kernel)
theorem kvX6_61 : CVd RX6 61 4 mX4_documentAt 1 := ⟨⟨TX4, 4, rfl⟩, tw_566, tw_217, tw_218, tw_4, tw_219, rfl, ⟨by decide +kernel, by decide +kernel, by decide +kernel⟩⟩
theorem tw_567 : Cond.methodLink RL 134 yL_countIntersection ∈ LT := LT_of 567 (by decide +kernel) (by decide +kernel)
theorem tw_568 : Cond.static yL_countIntersection ∈ LT := LT_of 568 (by decide +kernel) (by decide +kernel)
theorem tw_569 : Cond.codeWith yL_countIntersection cL_countIntersection 4 (some .int) [(0, 9, 12, 15)] ∈ LT := LT_of 569 (by decide +kernel) (by decide +kernel)
theorem ksL_134 : CSw RL 134 mL_countIntersection 3 := ⟨tw_567, tw_568, tw_0, tw_569, (fun z => by cases z), ⟨by decide +kernel, by decide +kernel, by decide +kernel⟩⟩
theorem tw_570 : Cond.methodLink RL 59 yX7_countIntersection ∈ LT := LT_of 570 (by decide +kernel) (by decide +kernel)
theorem tw_571 : Cond.instanceMethod yX7_countIntersection ∈ LT := LT_of 571 (by decide +kernel) (by decide +kernel)
theorem tw_572 : Cond.selects RX7 yX7_countIntersection yX7_countIntersection ∈ LT := LT_of 572 (by decide +kernel) (by decide +kernel)
theorem tw_573 : Cond.code yX7_countIntersection cX7_countIntersection 2 (some .int) ∈ LT := LT_of 573 (by decide +kernel) (by decide +kernel)
theorem kvL_59 : CVd RL 59 6 mX7_countIntersection 1 := ⟨⟨TX7, 6, rfl⟩, tw_570, tw_571, tw_572, tw_1, tw_573, rfl, ⟨by decide +kernel, by decide +kernel, by decide +kernel⟩⟩
theorem tw_574 : Cond.methodLink RX7 132 yX7_requireSet ∈ LT := LT_of 574 (by decide +kernel) (by decide +kernel)
theorem tw_575 : Cond.static yX7_requireSet ∈ LT := LT_of 575 (by decide +kernel) (by decide +kernel)
theorem tw_576 : Cond.code yX7_requireSet cX7_requireSet 1 none ∈ LT := LT_of 576 (by decide +kernel) (by decide +kernel)
theorem ksX7_132 : CSd RX7 132 mX7_requireSet 1 := ⟨tw_574, tw_575, tw_1, tw_576, rfl, ⟨by decide +kernel, by decide +kernel, by decide +kernel⟩⟩
theorem tw_577 : Cond.methodLink RX7 135 yX7_findIntersection ∈ LT := LT_of 577 (by decide +kernel) (by decide +kernel)
theorem tw_579 : Cond.instanceMethod yX7_findIntersection ∈ LT := LT_of 579 (by decide +kernel) (by decide +kernel)
theorem ts_15 : Cond.selects RX7 yX7_findIntersection yX7_findIntersection ∈ LT := LT_sel 15 (by decide +kernel) (by decide +kernel)
theorem tw_580 : Cond.code yX7_findIntersection cX7_findIntersection 8 (some .int) ∈ LT := LT_of 580 (by decide +kernel) (by decide +kernel)
theorem kvX7_135 : CVd RX7 135 6 mX7_findIntersection 1 := ⟨⟨TX7, 6, rfl⟩, tw_577, tw_579, ts_15, tw_1, tw_580, rfl, ⟨by decide +kernel, by decide +kernel, by decide +kernel⟩⟩
theorem tw_581 : Cond.methodLink RX7 210 yX7_orderLists ∈ LT := LT_of 581 (by decide +kernel) (by decide +kernel)
theorem tw_583 : Cond.instanceMethod yX7_orderLists ∈ LT := LT_of 583 (by decide +kernel) (by decide +kernel)
theorem ts_16 : Cond.selects RX7 yX7_orderLists yX7_orderLists ∈ LT := LT_sel 16 (by decide +kernel) (by decide +kernel)
theorem tw_584 : Cond.code yX7_orderLists cX7_orderLists 5 (some .int) ∈ LT := LT_of 584 (by decide +kernel) (by decide +kernel)
theorem kvX7_210 : CVd RX7 210 6 mX7_orderLists 1 := ⟨⟨TX7, 6, rfl⟩, tw_581, tw_583, ts_16, tw_1, tw_584, rfl, ⟨by decide +kernel, by decide +kernel, by decide +kernel⟩⟩
theorem tw_585 : Cond.methodLink RX7 213 yX7_askOthers ∈ LT := LT_of 585 (by decide +kernel) (by decide +kernel)
theorem tw_587 : Cond.instanceMethod yX7_askOthers ∈ LT := LT_of 587 (by decide +kernel) (by decide +kernel)
theorem ts_17 : Cond.selects RX7 yX7_askOthers yX7_askOthers ∈ LT := LT_sel 17 (by decide +kernel) (by decide +kernel)
theorem tw_588 : Cond.code yX7_askOthers cX7_askOthers 5 (some .int) ∈ LT := LT_of 588 (by decide +kernel) (by decide +kernel)
theorem kvX7_213 : CVd RX7 213 6 mX7_askOthers 2 := ⟨⟨TX7, 6, rfl⟩, tw_585, tw_587, ts_17, tw_1, tw_588, rfl, ⟨by decide +kernel, by decide +kernel, by decide +kernel⟩⟩
theorem tw_589 : Cond.methodLink RL 137 yL_intersect ∈ LT := LT_of 589 (by decide +kernel) (by decide +kernel)
theorem tw_590 : Cond.static yL_intersect ∈ LT := LT_of 590 (by decide +kernel) (by decide +kernel)
theorem tw_591 : Cond.codeWith yL_intersect cL_intersect 5 (some .int) [(0, 10, 13, 15), (0, 10, 17, 13)] ∈ LT := LT_of 591 (by decide +kernel) (by decide +kernel)
theorem ksL_137 : CSw RL 137 mL_intersect 4 := ⟨tw_589, tw_590, tw_0, tw_591, (fun z => by cases z), ⟨by decide +kernel, by decide +kernel, by decide +kernel⟩⟩
theorem tw_592 : Cond.methodLink RL 62 yX7_intersect ∈ LT := LT_of 592 (by decide +kernel) (by decide +kernel)
theorem tw_593 : Cond.instanceMethod yX7_intersect ∈ LT := LT_of 593 (by decide +kernel) (by decide +kernel)
theorem tw_594 : Cond.selects RX7 yX7_intersect yX7_intersect ∈ LT := LT_of 594 (by decide +kernel) (by decide +kernel)
theorem tw_595 : Cond.code yX7_intersect cX7_intersect 3 (some .int) ∈ LT := LT_of 595 (by decide +kernel) (by decide +kernel)
theorem kvL_62 : CVd RL 62 6 mX7_intersect 2 := ⟨⟨TX7, 6, rfl⟩, tw_592, tw_593, tw_594, tw_1, tw_595, rfl, ⟨by decide +kernel, by decide +kernel, by decide +kernel⟩⟩
theorem tw_596 : Cond.methodLink RL 140 yL_unite ∈ LT := LT_of 596 (by decide +kernel) (by decide +kernel)
theorem tw_597 : Cond.static yL_unite ∈ LT := LT_of 597 (by decide +kernel) (by decide +kernel)
theorem tw_598 : Cond.codeWith yL_unite cL_unite 6 (some .int) [(0, 12, 15, 13), (0, 12, 19, 17)] ∈ LT := LT_of 598 (by decide +kernel) (by decide +kernel)
theorem ksL_140 : CSw RL 140 mL_unite 5 := ⟨tw_596, tw_597, tw_0, tw_598, (fun z => by cases z), ⟨by decide +kernel, by decide +kernel, by decide +kernel⟩⟩
theorem tw_599 : Cond.methodLink RL 65 yX7_unite ∈ LT := LT_of 599 (by decide +kernel) (by decide +kernel)
theorem tw_600 : Cond.instanceMethod yX7_unite ∈ LT := LT_of 600 (by decide +kernel) (by decide +kernel)
theorem tw_601 : Cond.selects RX7 yX7_unite yX7_unite ∈ LT := LT_of 601 (by decide +kernel) (by decide +kernel)
theorem tw_602 : Cond.code yX7_unite cX7_unite 5 (some .int) ∈ LT := LT_of 602 (by decide +kernel) (by decide +kernel)
theorem kvL_65 : CVd RL 65 6 mX7_unite 3 := ⟨⟨TX7, 6, rfl⟩, tw_599, tw_600, tw_601, tw_1, tw_602, rfl, ⟨by decide +kernel, by decide +kernel, by decide +kernel⟩⟩
theorem tw_603 : Cond.methodLink RX7 138 yX7_mergeIntoResult ∈ LT := LT_of 603 (by decide +kernel) (by decide +kernel)
theorem tw_605 : Cond.instanceMethod yX7_mergeIntoResult ∈ LT := LT_of 605 (by decide +kernel) (by decide +kernel)
theorem ts_18 : Cond.selects RX7 yX7_mergeIntoResult yX7_mergeIntoResult ∈ LT := LT_sel 18 (by decide +kernel) (by decide +kernel)
theorem tw_606 : Cond.code yX7_mergeIntoResult cX7_mergeIntoResult 8 (some .int) ∈ LT := LT_of 606 (by decide +kernel) (by decide +kernel)
theorem kvX7_138 : CVd RX7 138 6 mX7_mergeIntoResult 2 := ⟨⟨TX7, 6, rfl⟩, tw_603, tw_605, ts_18, tw_1, tw_606, rfl, ⟨by decide +kernel, by decide +kernel, by decide +kernel⟩⟩
theorem tw_608 : Cond.methodLink RL 143 yL_subtract ∈ LT := LT_of 608 (by decide +kernel) (by decide +kernel)
theorem tw_609 : Cond.static yL_subtract ∈ LT := LT_of 609 (by decide +kernel) (by decide +kernel)
theorem tw_610 : Cond.codeWith yL_subtract cL_subtract 6 (some .int) [(0, 12, 15, 13)] ∈ LT := LT_of 610 (by decide +kernel) (by decide +kernel)
theorem ksL_143 : CSw RL 143 mL_subtract 5 := ⟨tw_608, tw_609, tw_0, tw_610, (fun z => by cases z), ⟨by decide +kernel, by decide +kernel, by decide +kernel⟩⟩
theorem tw_611 : Cond.methodLink RL 68 yX7_subtract ∈ LT := LT_of 611 (by decide +kernel) (by decide +kernel)
theorem tw_612 : Cond.instanceMethod yX7_subtract ∈ LT := LT_of 612 (by decide +kernel) (by decide +kernel)
theorem tw_613 : Cond.selects RX7 yX7_subtract yX7_subtract ∈ LT := LT_of 613 (by decide +kernel) (by decide +kernel)
theorem tw_614 : Cond.code yX7_subtract cX7_subtract 5 (some .int) ∈ LT := LT_of 614 (by decide +kernel) (by decide +kernel)
theorem kvL_68 : CVd RL 68 6 mX7_subtract 3 := ⟨⟨TX7, 6, rfl⟩, tw_611, tw_612, tw_613, tw_1, tw_614, rfl, ⟨by decide +kernel, by decide +kernel, by decide +kernel⟩⟩
theorem tw_615 : Cond.methodLink RX7 144 yX7_differenceIntoResult ∈ LT := LT_of 615 (by decide +kernel) (by decide +kernel)
theorem tw_617 : Cond.instanceMethod yX7_differenceIntoResult ∈ LT := LT_of 617 (by decide +kernel) (by decide +kernel)
theorem ts_19 : Cond.selects RX7 yX7_differenceIntoResult yX7_differenceIntoResult ∈ LT := LT_sel 19 (by decide +kernel) (by decide +kernel)
theorem tw_618 : Cond.code yX7_differenceIntoResult cX7_differenceIntoResult 6 (some .int) ∈ LT := LT_of 618 (by decide +kernel) (by decide +kernel)
theorem kvX7_144 : CVd RX7 144 6 mX7_differenceIntoResult 2 := ⟨⟨TX7, 6, rfl⟩, tw_615, tw_617, ts_19, tw_1, tw_618, rfl, ⟨by decide +kernel, by decide +kernel, by decide +kernel⟩⟩
theorem tw_619 : Cond.methodLink RL 154 yL_setCapacity ∈ LT := LT_of 619 (by decide +kernel) (by decide +kernel)
theorem tw_620 : Cond.static yL_setCapacity ∈ LT := LT_of 620 (by decide +kernel) (by decide +kernel)
theorem tw_621 : Cond.codeWith yL_setCapacity cL_setCapacity 4 (some .int) [(0, 9, 12, 15)] ∈ LT := LT_of 621 (by decide +kernel) (by decide +kernel)
theorem ksL_154 : CSw RL 154 mL_setCapacity 3 := ⟨tw_619, tw_620, tw_0, tw_621, (fun z => by cases z), ⟨by decide +kernel, by decide +kernel, by decide +kernel⟩⟩
theorem tw_622 : Cond.methodLink RL 71 yX7_setCapacity ∈ LT := LT_of 622 (by decide +kernel) (by decide +kernel)
theorem tw_623 : Cond.instanceMethod yX7_setCapacity ∈ LT := LT_of 623 (by decide +kernel) (by decide +kernel)
theorem tw_624 : Cond.selects RX7 yX7_setCapacity yX7_setCapacity ∈ LT := LT_of 624 (by decide +kernel) (by decide +kernel)
theorem tw_625 : Cond.code yX7_setCapacity cX7_setCapacity 3 (some .int) ∈ LT := LT_of 625 (by decide +kernel) (by decide +kernel)
theorem kvL_71 : CVd RL 71 6 mX7_setCapacity 1 := ⟨⟨TX7, 6, rfl⟩, tw_622, tw_623, tw_624, tw_1, tw_625, rfl, ⟨by decide +kernel, by decide +kernel, by decide +kernel⟩⟩
theorem tw_626 : Cond.methodLink RX7 162 yX0_resize ∈ LT := LT_of 626 (by decide +kernel) (by decide +kernel)
theorem tw_627 : Cond.instanceMethod yX0_resize ∈ LT := LT_of 627 (by decide +kernel) (by decide +kernel)
theorem tw_628 : Cond.selects RX0 yX0_resize yX0_resize ∈ LT := LT_of 628 (by decide +kernel) (by decide +kernel)
theorem tw_629 : Cond.code yX0_resize cX0_resize 2 none ∈ LT := LT_of 629 (by decide +kernel) (by decide +kernel)
theorem kvX7_162 : CVd RX7 162 0 mX0_resize 1 := ⟨⟨TX0, 3, rfl⟩, tw_626, tw_627, tw_628, tw_3, tw_629, rfl, ⟨by decide +kernel, by decide +kernel, by decide +kernel⟩⟩
theorem tw_630 : Cond.methodLink RL 161 yL_cachedAt ∈ LT := LT_of 630 (by decide +kernel) (by decide +kernel)
theorem tw_631 : Cond.static yL_cachedAt ∈ LT := LT_of 631 (by decide +kernel) (by decide +kernel)
theorem tw_632 : Cond.codeWith yL_cachedAt cL_cachedAt 4 (some .int) [(0, 9, 12, 13)] ∈ LT := LT_of 632 (by decide +kernel) (by decide +kernel)
theorem ksL_161 : CSw RL 161 mL_cachedAt 3 := ⟨tw_630, tw_631, tw_0, tw_632, (fun z => by cases z), ⟨by decide +kernel, by decide +kernel, by decide +kernel⟩⟩
theorem tw_633 : Cond.methodLink RL 74 yX7_cachedAt ∈ LT := LT_of 633 (by decide +kernel) (by decide +kernel)
theorem tw_634 : Cond.instanceMethod yX7_cachedAt ∈ LT := LT_of 634 (by decide +kernel) (by decide +kernel)
theorem tw_635 : Cond.selects RX7 yX7_cachedAt yX7_cachedAt ∈ LT := LT_of 635 (by decide +kernel) (by decide +kernel)
theorem tw_636 : Cond.code yX7_cachedAt cX7_cachedAt 2 (some .int) ∈ LT := LT_of 636 (by decide +kernel) (by decide +kernel)
theorem kvL_74 : CVd RL 74 6 mX7_cachedAt 1 := ⟨⟨TX7, 6, rfl⟩, tw_633, tw_634, tw_635, tw_1, tw_636, rfl, ⟨by decide +kernel, by decide +kernel, by decide +kernel⟩⟩
theorem tw_637 : Cond.methodLink RL 164 yL_undo ∈ LT := LT_of 637 (by decide +kernel) (by decide +kernel)
theorem tw_638 : Cond.static yL_undo ∈ LT := LT_of 638 (by decide +kernel) (by decide +kernel)
theorem tw_639 : Cond.codeWith yL_undo cL_undo 3 (some .int) [(0, 8, 11, 17)] ∈ LT := LT_of 639 (by decide +kernel) (by decide +kernel)
theorem ksL_164 : CSw RL 164 mL_undo 2 := ⟨tw_637, tw_638, tw_0, tw_639, (fun z => by cases z), ⟨by decide +kernel, by decide +kernel, by decide +kernel⟩⟩
theorem tw_640 : Cond.methodLink RL 77 yX7_undo ∈ LT := LT_of 640 (by decide +kernel) (by decide +kernel)
theorem tw_641 : Cond.instanceMethod yX7_undo ∈ LT := LT_of 641 (by decide +kernel) (by decide +kernel)
theorem tw_642 : Cond.selects RX7 yX7_undo yX7_undo ∈ LT := LT_of 642 (by decide +kernel) (by decide +kernel)
theorem tw_643 : Cond.code yX7_undo cX7_undo 1 (some .int) ∈ LT := LT_of 643 (by decide +kernel) (by decide +kernel)
theorem kvL_77 : CVd RL 77 6 mX7_undo 0 := ⟨⟨TX7, 6, rfl⟩, tw_640, tw_641, tw_642, tw_1, tw_643, rfl, ⟨by decide +kernel, by decide +kernel, by decide +kernel⟩⟩
theorem tw_645 : Cond.methodLink RX7 172 yX2_restore ∈ LT := LT_of 645 (by decide +kernel) (by decide +kernel)
theorem tw_646 : Cond.instanceMethod yX2_restore ∈ LT := LT_of 646 (by decide +kernel) (by decide +kernel)
theorem tw_647 : Cond.selects RX2 yX2_restore yX2_restore ∈ LT := LT_of 647 (by decide +kernel) (by decide +kernel)
theorem tw_648 : Cond.code yX2_restore cX2_restore 2 none ∈ LT := LT_of 648 (by decide +kernel) (by decide +kernel)
theorem kvX7_172 : CVd RX7 172 2 mX2_restore 1 := ⟨⟨TX2, 3, rfl⟩, tw_645, tw_646, tw_647, tw_5, tw_648, rfl, ⟨by decide +kernel, by decide +kernel, by decide +kernel⟩⟩
theorem tw_651 : Cond.methodLink RL 84 yX8_init ∈ LT := LT_of 651 (by decide +kernel) (by decide +kernel)
theorem tw_652 : Cond.instanceMethod yX8_init ∈ LT := LT_of 652 (by decide +kernel) (by decide +kernel)
theorem tw_8 : Cond.initialized RX8 ∈ LT := LT_of 8 (by decide +kernel) (by decide +kernel)
theorem tw_653 : Cond.code yX8_init cX8_init 1 none ∈ LT := LT_of 653 (by decide +kernel) (by decide +kernel)
theorem kiL_84 : CId RL 84 mX8_init 0 := ⟨tw_651, tw_652, rfl, tw_8, tw_653, rfl, rfl, ⟨by decide +kernel, by decide +kernel, by decide +kernel⟩⟩
theorem tw_obj_RX8_1 : Cond.code objectInit ⟨#[0xb1]⟩ 1 none ∈ LT := LT_of 24 (by decide +kernel) (by decide +kernel)
theorem tw_654 : Cond.methodLink RX8 1 objectInit ∈ LT := LT_of 654 (by decide +kernel) (by decide +kernel)
theorem oiX8_1 : Cond.methodLink RX8 1 objectInit ∈ LT ∧ Cond.instanceMethod objectInit ∈ LT ∧ Cond.code objectInit ⟨#[0xb1]⟩ 1 none ∈ LT := ⟨tw_654, tw_23, tw_obj_RX8_1⟩
theorem tw_693 : Cond.methodLink RL 91 yX8_thrown ∈ LT := LT_of 693 (by decide +kernel) (by decide +kernel)
theorem tw_694 : Cond.instanceMethod yX8_thrown ∈ LT := LT_of 694 (by decide +kernel) (by decide +kernel)
theorem tw_695 : Cond.selects RX8 yX8_thrown yX8_thrown ∈ LT := LT_of 695 (by decide +kernel) (by decide +kernel)
theorem tw_696 : Cond.code yX8_thrown cX8_thrown 1 (some .int) ∈ LT := LT_of 696 (by decide +kernel) (by decide +kernel)
theorem kvL_91 : CVd RL 91 7 mX8_thrown 0 := ⟨⟨TX8, 12, rfl⟩, tw_693, tw_694, tw_695, tw_8, tw_696, rfl, ⟨by decide +kernel, by decide +kernel, by decide +kernel⟩⟩
theorem tw_697 : Cond.methodLink RL 90 yX8_append ∈ LT := LT_of 697 (by decide +kernel) (by decide +kernel)
theorem tw_698 : Cond.instanceMethod yX8_append ∈ LT := LT_of 698 (by decide +kernel) (by decide +kernel)
theorem tw_699 : Cond.selects RX8 yX8_append yX8_append ∈ LT := LT_of 699 (by decide +kernel) (by decide +kernel)
theorem tw_700 : Cond.code yX8_append cX8_append 3 (some .int) ∈ LT := LT_of 700 (by decide +kernel) (by decide +kernel)
theorem kvL_90 : CVd RL 90 7 mX8_append 2 := ⟨⟨TX8, 12, rfl⟩, tw_697, tw_698, tw_699, tw_8, tw_700, rfl, ⟨by decide +kernel, by decide +kernel, by decide +kernel⟩⟩
theorem tw_701 : Cond.methodLink RX8 60 yX8_isList ∈ LT := LT_of 701 (by decide +kernel) (by decide +kernel)
theorem tw_702 : Cond.static yX8_isList ∈ LT := LT_of 702 (by decide +kernel) (by decide +kernel)
theorem tw_703 : Cond.code yX8_isList cX8_isList 1 (some .boolean) ∈ LT := LT_of 703 (by decide +kernel) (by decide +kernel)
theorem ksX8_60 : CSd RX8 60 mX8_isList 1 := ⟨tw_701, tw_702, tw_8, tw_703, rfl, ⟨by decide +kernel, by decide +kernel, by decide +kernel⟩⟩
theorem tw_704 : Cond.methodLink RX8 45 yX8_in ∈ LT := LT_of 704 (by decide +kernel) (by decide +kernel)
theorem tw_705 : Cond.static yX8_in ∈ LT := LT_of 705 (by decide +kernel) (by decide +kernel)
theorem tw_706 : Cond.code yX8_in cX8_in 3 (some .boolean) ∈ LT := LT_of 706 (by decide +kernel) (by decide +kernel)
theorem ksX8_45 : CSd RX8 45 mX8_in 3 := ⟨tw_704, tw_705, tw_8, tw_706, rfl, ⟨by decide +kernel, by decide +kernel, by decide +kernel⟩⟩
theorem tw_707 : Cond.methodLink RX8 64 yX8_fails ∈ LT := LT_of 707 (by decide +kernel) (by decide +kernel)
theorem tw_709 : Cond.instanceMethod yX8_fails ∈ LT := LT_of 709 (by decide +kernel) (by decide +kernel)
theorem ts_20 : Cond.selects RX8 yX8_fails yX8_fails ∈ LT := LT_sel 20 (by decide +kernel) (by decide +kernel)
theorem tw_710 : Cond.code yX8_fails cX8_fails 2 (some .int) ∈ LT := LT_of 710 (by decide +kernel) (by decide +kernel)
theorem kvX8_64 : CVd RX8 64 7 mX8_fails 1 := ⟨⟨TX8, 12, rfl⟩, tw_707, tw_709, ts_20, tw_8, tw_710, rfl, ⟨by decide +kernel, by decide +kernel, by decide +kernel⟩⟩
theorem tw_711 : Cond.methodLink RX8 68 yX8_isBehind ∈ LT := LT_of 711 (by decide +kernel) (by decide +kernel)
theorem tw_713 : Cond.instanceMethod yX8_isBehind ∈ LT := LT_of 713 (by decide +kernel) (by decide +kernel)
theorem ts_21 : Cond.selects RX8 yX8_isBehind yX8_isBehind ∈ LT := LT_sel 21 (by decide +kernel) (by decide +kernel)
theorem tw_714 : Cond.code yX8_isBehind cX8_isBehind 3 (some .boolean) ∈ LT := LT_of 714 (by decide +kernel) (by decide +kernel)
theorem kvX8_68 : CVd RX8 68 7 mX8_isBehind 2 := ⟨⟨TX8, 12, rfl⟩, tw_711, tw_713, ts_21, tw_8, tw_714, rfl, ⟨by decide +kernel, by decide +kernel, by decide +kernel⟩⟩
theorem tw_715 : Cond.methodLink RX8 56 yX8_doc ∈ LT := LT_of 715 (by decide +kernel) (by decide +kernel)
theorem tw_717 : Cond.instanceMethod yX8_doc ∈ LT := LT_of 717 (by decide +kernel) (by decide +kernel)
theorem ts_22 : Cond.selects RX8 yX8_doc yX8_doc ∈ LT := LT_sel 22 (by decide +kernel) (by decide +kernel)
theorem tw_718 : Cond.code yX8_doc cX8_doc 3 (some .int) ∈ LT := LT_of 718 (by decide +kernel) (by decide +kernel)
theorem kvX8_56 : CVd RX8 56 7 mX8_doc 2 := ⟨⟨TX8, 12, rfl⟩, tw_715, tw_717, ts_22, tw_8, tw_718, rfl, ⟨by decide +kernel, by decide +kernel, by decide +kernel⟩⟩
theorem tw_719 : Cond.methodLink RX8 72 yX8_save ∈ LT := LT_of 719 (by decide +kernel) (by decide +kernel)
theorem tw_721 : Cond.instanceMethod yX8_save ∈ LT := LT_of 721 (by decide +kernel) (by decide +kernel)
theorem ts_23 : Cond.selects RX8 yX8_save yX8_save ∈ LT := LT_sel 23 (by decide +kernel) (by decide +kernel)
theorem tw_722 : Cond.code yX8_save cX8_save 2 none ∈ LT := LT_of 722 (by decide +kernel) (by decide +kernel)
theorem kvX8_72 : CVd RX8 72 7 mX8_save 0 := ⟨⟨TX8, 12, rfl⟩, tw_719, tw_721, ts_23, tw_8, tw_722, rfl, ⟨by decide +kernel, by decide +kernel, by decide +kernel⟩⟩
theorem tw_723 : Cond.methodLink RX8 75 yX8_changes ∈ LT := LT_of 723 (by decide +kernel) (by decide +kernel)
theorem tw_725 : Cond.instanceMethod yX8_changes ∈ LT := LT_of 725 (by decide +kernel) (by decide +kernel)
theorem ts_24 : Cond.selects RX8 yX8_changes yX8_changes ∈ LT := LT_sel 24 (by decide +kernel) (by decide +kernel)
theorem tw_726 : Cond.code yX8_changes cX8_changes 3 none ∈ LT := LT_of 726 (by decide +kernel) (by decide +kernel)
theorem kvX8_75 : CVd RX8 75 7 mX8_changes 1 := ⟨⟨TX8, 12, rfl⟩, tw_723, tw_725, ts_24, tw_8, tw_726, rfl, ⟨by decide +kernel, by decide +kernel, by decide +kernel⟩⟩
theorem tw_727 : Cond.methodLink RX8 52 yX8_drop ∈ LT := LT_of 727 (by decide +kernel) (by decide +kernel)
theorem tw_729 : Cond.instanceMethod yX8_drop ∈ LT := LT_of 729 (by decide +kernel) (by decide +kernel)
theorem ts_25 : Cond.selects RX8 yX8_drop yX8_drop ∈ LT := LT_sel 25 (by decide +kernel) (by decide +kernel)
theorem tw_730 : Cond.code yX8_drop cX8_drop 3 none ∈ LT := LT_of 730 (by decide +kernel) (by decide +kernel)
theorem kvX8_52 : CVd RX8 52 7 mX8_drop 1 := ⟨⟨TX8, 12, rfl⟩, tw_727, tw_729, ts_25, tw_8, tw_730, rfl, ⟨by decide +kernel, by decide +kernel, by decide +kernel⟩⟩
theorem tw_731 : Cond.methodLink RX8 78 yX8_add ∈ LT := LT_of 731 (by decide +kernel) (by decide +kernel)
theorem tw_733 : Cond.instanceMethod yX8_add ∈ LT := LT_of 733 (by decide +kernel) (by decide +kernel)
theorem ts_26 : Cond.selects RX8 yX8_add yX8_add ∈ LT := LT_sel 26 (by decide +kernel) (by decide +kernel)
theorem tw_734 : Cond.code yX8_add cX8_add 3 none ∈ LT := LT_of 734 (by decide +kernel) (by decide +kernel)
theorem kvX8_78 : CVd RX8 78 7 mX8_add 2 := ⟨⟨TX8, 12, rfl⟩, tw_731, tw_733, ts_26, tw_8, tw_734, rfl, ⟨by decide +kernel, by decide +kernel, by decide +kernel⟩⟩
theorem tw_735 : Cond.methodLink RL 97 yX8_appendRange ∈ LT := LT_of 735 (by decide +kernel) (by decide +kernel)
theorem tw_736 : Cond.instanceMethod yX8_appendRange ∈ LT := LT_of 736 (by decide +kernel) (by decide +kernel)
theorem tw_737 : Cond.selects RX8 yX8_appendRange yX8_appendRange ∈ LT := LT_of 737 (by decide +kernel) (by decide +kernel)
theorem tw_738 : Cond.code yX8_appendRange cX8_appendRange 6 (some .int) ∈ LT := LT_of 738 (by decide +kernel) (by decide +kernel)
theorem kvL_97 : CVd RL 97 7 mX8_appendRange 4 := ⟨⟨TX8, 12, rfl⟩, tw_735, tw_736, tw_737, tw_8, tw_738, rfl, ⟨by decide +kernel, by decide +kernel, by decide +kernel⟩⟩
theorem tw_739 : Cond.methodLink RL 101 yX8_clear ∈ LT := LT_of 739 (by decide +kernel) (by decide +kernel)
theorem tw_740 : Cond.instanceMethod yX8_clear ∈ LT := LT_of 740 (by decide +kernel) (by decide +kernel)
theorem tw_741 : Cond.selects RX8 yX8_clear yX8_clear ∈ LT := LT_of 741 (by decide +kernel) (by decide +kernel)
theorem tw_742 : Cond.code yX8_clear cX8_clear 3 (some .int) ∈ LT := LT_of 742 (by decide +kernel) (by decide +kernel)
theorem kvL_101 : CVd RL 101 7 mX8_clear 1 := ⟨⟨TX8, 12, rfl⟩, tw_739, tw_740, tw_741, tw_8, tw_742, rfl, ⟨by decide +kernel, by decide +kernel, by decide +kernel⟩⟩
theorem tw_743 : Cond.methodLink RL 104 yX8_size ∈ LT := LT_of 743 (by decide +kernel) (by decide +kernel)
theorem tw_744 : Cond.instanceMethod yX8_size ∈ LT := LT_of 744 (by decide +kernel) (by decide +kernel)
theorem tw_745 : Cond.selects RX8 yX8_size yX8_size ∈ LT := LT_of 745 (by decide +kernel) (by decide +kernel)
theorem tw_746 : Cond.code yX8_size cX8_size 2 (some .int) ∈ LT := LT_of 746 (by decide +kernel) (by decide +kernel)
theorem kvL_104 : CVd RL 104 7 mX8_size 1 := ⟨⟨TX8, 12, rfl⟩, tw_743, tw_744, tw_745, tw_8, tw_746, rfl, ⟨by decide +kernel, by decide +kernel, by decide +kernel⟩⟩
theorem tw_747 : Cond.methodLink RL 107 yX8_document ∈ LT := LT_of 747 (by decide +kernel) (by decide +kernel)
theorem tw_748 : Cond.instanceMethod yX8_document ∈ LT := LT_of 748 (by decide +kernel) (by decide +kernel)
theorem tw_749 : Cond.selects RX8 yX8_document yX8_document ∈ LT := LT_of 749 (by decide +kernel) (by decide +kernel)
theorem tw_750 : Cond.code yX8_document cX8_document 3 (some .int) ∈ LT := LT_of 750 (by decide +kernel) (by decide +kernel)
theorem kvL_107 : CVd RL 107 7 mX8_document 2 := ⟨⟨TX8, 12, rfl⟩, tw_747, tw_748, tw_749, tw_8, tw_750, rfl, ⟨by decide +kernel, by decide +kernel, by decide +kernel⟩⟩
theorem tw_751 : Cond.methodLink RL 110 yX8_rank ∈ LT := LT_of 751 (by decide +kernel) (by decide +kernel)
theorem tw_752 : Cond.instanceMethod yX8_rank ∈ LT := LT_of 752 (by decide +kernel) (by decide +kernel)
theorem tw_753 : Cond.selects RX8 yX8_rank yX8_rank ∈ LT := LT_of 753 (by decide +kernel) (by decide +kernel)
theorem tw_754 : Cond.code yX8_rank cX8_rank 5 (some .int) ∈ LT := LT_of 754 (by decide +kernel) (by decide +kernel)
theorem kvL_110 : CVd RL 110 7 mX8_rank 2 := ⟨⟨TX8, 12, rfl⟩, tw_751, tw_752, tw_753, tw_8, tw_754, rfl, ⟨by decide +kernel, by decide +kernel, by decide +kernel⟩⟩
theorem tw_755 : Cond.methodLink RL 113 yX8_partitions ∈ LT := LT_of 755 (by decide +kernel) (by decide +kernel)
theorem tw_756 : Cond.instanceMethod yX8_partitions ∈ LT := LT_of 756 (by decide +kernel) (by decide +kernel)
theorem tw_757 : Cond.selects RX8 yX8_partitions yX8_partitions ∈ LT := LT_of 757 (by decide +kernel) (by decide +kernel)
theorem tw_758 : Cond.code yX8_partitions cX8_partitions 2 (some .int) ∈ LT := LT_of 758 (by decide +kernel) (by decide +kernel)
theorem kvL_113 : CVd RL 113 7 mX8_partitions 1 := ⟨⟨TX8, 12, rfl⟩, tw_755, tw_756, tw_757, tw_8, tw_758, rfl, ⟨by decide +kernel, by decide +kernel, by decide +kernel⟩⟩
theorem tw_759 : Cond.methodLink RX8 114 yX8_lay ∈ LT := LT_of 759 (by decide +kernel) (by decide +kernel)
theorem tw_761 : Cond.instanceMethod yX8_lay ∈ LT := LT_of 761 (by decide +kernel) (by decide +kernel)
theorem ts_27 : Cond.selects RX8 yX8_lay yX8_lay ∈ LT := LT_sel 27 (by decide +kernel) (by decide +kernel)
theorem tw_762 : Cond.code yX8_lay cX8_lay 6 none ∈ LT := LT_of 762 (by decide +kernel) (by decide +kernel)
theorem kvX8_114 : CVd RX8 114 7 mX8_lay 1 := ⟨⟨TX8, 12, rfl⟩, tw_759, tw_761, ts_27, tw_8, tw_762, rfl, ⟨by decide +kernel, by decide +kernel, by decide +kernel⟩⟩
theorem tw_764 : Cond.methodLink RX8 92 yX8_sizeOf ∈ LT := LT_of 764 (by decide +kernel) (by decide +kernel)
theorem tw_766 : Cond.instanceMethod yX8_sizeOf ∈ LT := LT_of 766 (by decide +kernel) (by decide +kernel)
theorem ts_28 : Cond.selects RX8 yX8_sizeOf yX8_sizeOf ∈ LT := LT_sel 28 (by decide +kernel) (by decide +kernel)
theorem tw_767 : Cond.code yX8_sizeOf cX8_sizeOf 6 (some .int) ∈ LT := LT_of 767 (by decide +kernel) (by decide +kernel)
theorem kvX8_92 : CVd RX8 92 7 mX8_sizeOf 3 := ⟨⟨TX8, 12, rfl⟩, tw_764, tw_766, ts_28, tw_8, tw_767, rfl, ⟨by decide +kernel, by decide +kernel, by decide +kernel⟩⟩
theorem tw_768 : Cond.methodLink RX8 88 yX8_kindOf ∈ LT := LT_of 768 (by decide +kernel) (by decide +kernel)
theorem tw_769 : Cond.static yX8_kindOf ∈ LT := LT_of 769 (by decide +kernel) (by decide +kernel)
theorem tw_770 : Cond.code yX8_kindOf cX8_kindOf 2 (some .int) ∈ LT := LT_of 770 (by decide +kernel) (by decide +kernel)
theorem ksX8_88 : CSd RX8 88 mX8_kindOf 2 := ⟨tw_768, tw_769, tw_8, tw_770, rfl, ⟨by decide +kernel, by decide +kernel, by decide +kernel⟩⟩
theorem tw_771 : Cond.methodLink RX8 85 yX8_sparse ∈ LT := LT_of 771 (by decide +kernel) (by decide +kernel)
theorem tw_772 : Cond.static yX8_sparse ∈ LT := LT_of 772 (by decide +kernel) (by decide +kernel)
theorem tw_773 : Cond.code yX8_sparse cX8_sparse 3 (some .int) ∈ LT := LT_of 773 (by decide +kernel) (by decide +kernel)
theorem ksX8_85 : CSd RX8 85 mX8_sparse 2 := ⟨tw_771, tw_772, tw_8, tw_773, rfl, ⟨by decide +kernel, by decide +kernel, by decide +kernel⟩⟩
theorem tw_774 : Cond.methodLink RX8 82 yX8_lowBits ∈ LT := LT_of 774 (by decide +kernel) (by decide +kernel)
theorem tw_775 : Cond.static yX8_lowBits ∈ LT := LT_of 775 (by decide +kernel) (by decide +kernel)
theorem tw_776 : Cond.code yX8_lowBits cX8_lowBits 3 (some .int) ∈ LT := LT_of 776 (by decide +kernel) (by decide +kernel)
theorem ksX8_82 : CSd RX8 82 mX8_lowBits 2 := ⟨tw_774, tw_775, tw_8, tw_776, rfl, ⟨by decide +kernel, by decide +kernel, by decide +kernel⟩⟩
theorem tw_777 : Cond.methodLink RL 117 yX8_partition ∈ LT := LT_of 777 (by decide +kernel) (by decide +kernel)
theorem tw_778 : Cond.instanceMethod yX8_partition ∈ LT := LT_of 778 (by decide +kernel) (by decide +kernel)
theorem tw_779 : Cond.selects RX8 yX8_partition yX8_partition ∈ LT := LT_of 779 (by decide +kernel) (by decide +kernel)
theorem tw_780 : Cond.code yX8_partition cX8_partition 4 (some .int) ∈ LT := LT_of 780 (by decide +kernel) (by decide +kernel)
theorem kvL_117 : CVd RL 117 7 mX8_partition 3 := ⟨⟨TX8, 12, rfl⟩, tw_777, tw_778, tw_779, tw_8, tw_780, rfl, ⟨by decide +kernel, by decide +kernel, by decide +kernel⟩⟩
theorem tw_781 : Cond.methodLink RX8 120 yX8_property ∈ LT := LT_of 781 (by decide +kernel) (by decide +kernel)
theorem tw_783 : Cond.instanceMethod yX8_property ∈ LT := LT_of 783 (by decide +kernel) (by decide +kernel)
theorem ts_29 : Cond.selects RX8 yX8_property yX8_property ∈ LT := LT_sel 29 (by decide +kernel) (by decide +kernel)
theorem tw_784 : Cond.code yX8_property cX8_property 4 (some .int) ∈ LT := LT_of 784 (by decide +kernel) (by decide +kernel)
theorem kvX8_120 : CVd RX8 120 7 mX8_property 3 := ⟨⟨TX8, 12, rfl⟩, tw_781, tw_783, ts_29, tw_8, tw_784, rfl, ⟨by decide +kernel, by decide +kernel, by decide +kernel⟩⟩
theorem tw_785 : Cond.methodLink RX8 111 yX8_kindIn ∈ LT := LT_of 785 (by decide +kernel) (by decide +kernel)
theorem tw_787 : Cond.instanceMethod yX8_kindIn ∈ LT := LT_of 787 (by decide +kernel) (by decide +kernel)
theorem ts_30 : Cond.selects RX8 yX8_kindIn yX8_kindIn ∈ LT := LT_sel 30 (by decide +kernel) (by decide +kernel)
theorem tw_788 : Cond.code yX8_kindIn cX8_kindIn 3 (some .int) ∈ LT := LT_of 788 (by decide +kernel) (by decide +kernel)
theorem kvX8_111 : CVd RX8 111 7 mX8_kindIn 2 := ⟨⟨TX8, 12, rfl⟩, tw_785, tw_787, ts_30, tw_8, tw_788, rfl, ⟨by decide +kernel, by decide +kernel, by decide +kernel⟩⟩
theorem tw_789 : Cond.methodLink RX8 105 yX8_documentsIn ∈ LT := LT_of 789 (by decide +kernel) (by decide +kernel)
theorem tw_791 : Cond.instanceMethod yX8_documentsIn ∈ LT := LT_of 791 (by decide +kernel) (by decide +kernel)
theorem ts_31 : Cond.selects RX8 yX8_documentsIn yX8_documentsIn ∈ LT := LT_sel 31 (by decide +kernel) (by decide +kernel)
theorem tw_792 : Cond.code yX8_documentsIn cX8_documentsIn 3 (some .int) ∈ LT := LT_of 792 (by decide +kernel) (by decide +kernel)
theorem kvX8_105 : CVd RX8 105 7 mX8_documentsIn 2 := ⟨⟨TX8, 12, rfl⟩, tw_789, tw_791, ts_31, tw_8, tw_792, rfl, ⟨by decide +kernel, by decide +kernel, by decide +kernel⟩⟩
theorem tw_793 : Cond.methodLink RX8 96 yX8_beginOf ∈ LT := LT_of 793 (by decide +kernel) (by decide +kernel)
theorem tw_795 : Cond.instanceMethod yX8_beginOf ∈ LT := LT_of 795 (by decide +kernel) (by decide +kernel)
theorem ts_32 : Cond.selects RX8 yX8_beginOf yX8_beginOf ∈ LT := LT_sel 32 (by decide +kernel) (by decide +kernel)
theorem tw_796 : Cond.code yX8_beginOf cX8_beginOf 3 (some .int) ∈ LT := LT_of 796 (by decide +kernel) (by decide +kernel)
theorem kvX8_96 : CVd RX8 96 7 mX8_beginOf 2 := ⟨⟨TX8, 12, rfl⟩, tw_793, tw_795, ts_32, tw_8, tw_796, rfl, ⟨by decide +kernel, by decide +kernel, by decide +kernel⟩⟩
theorem tw_797 : Cond.methodLink RX8 108 yX8_widthOf ∈ LT := LT_of 797 (by decide +kernel) (by decide +kernel)
theorem tw_799 : Cond.instanceMethod yX8_widthOf ∈ LT := LT_of 799 (by decide +kernel) (by decide +kernel)
theorem ts_33 : Cond.selects RX8 yX8_widthOf yX8_widthOf ∈ LT := LT_sel 33 (by decide +kernel) (by decide +kernel)
theorem tw_800 : Cond.code yX8_widthOf cX8_widthOf 3 (some .int) ∈ LT := LT_of 800 (by decide +kernel) (by decide +kernel)
theorem kvX8_108 : CVd RX8 108 7 mX8_widthOf 2 := ⟨⟨TX8, 12, rfl⟩, tw_797, tw_799, ts_33, tw_8, tw_800, rfl, ⟨by decide +kernel, by decide +kernel, by decide +kernel⟩⟩
theorem tw_801 : Cond.methodLink RX8 99 yX8_lastIn ∈ LT := LT_of 801 (by decide +kernel) (by decide +kernel)
theorem tw_803 : Cond.instanceMethod yX8_lastIn ∈ LT := LT_of 803 (by decide +kernel) (by decide +kernel)
theorem ts_34 : Cond.selects RX8 yX8_lastIn yX8_lastIn ∈ LT := LT_sel 34 (by decide +kernel) (by decide +kernel)
theorem tw_804 : Cond.code yX8_lastIn cX8_lastIn 3 (some .int) ∈ LT := LT_of 804 (by decide +kernel) (by decide +kernel)
theorem kvX8_99 : CVd RX8 99 7 mX8_lastIn 2 := ⟨⟨TX8, 12, rfl⟩, tw_801, tw_803, ts_34, tw_8, tw_804, rfl, ⟨by decide +kernel, by decide +kernel, by decide +kernel⟩⟩
theorem tw_805 : Cond.methodLink RX8 102 yX8_firstIn ∈ LT := LT_of 805 (by decide +kernel) (by decide +kernel)
theorem tw_807 : Cond.instanceMethod yX8_firstIn ∈ LT := LT_of 807 (by decide +kernel) (by decide +kernel)
theorem ts_35 : Cond.selects RX8 yX8_firstIn yX8_firstIn ∈ LT := LT_sel 35 (by decide +kernel) (by decide +kernel)
theorem tw_808 : Cond.code yX8_firstIn cX8_firstIn 3 (some .int) ∈ LT := LT_of 808 (by decide +kernel) (by decide +kernel)
theorem kvX8_102 : CVd RX8 102 7 mX8_firstIn 2 := ⟨⟨TX8, 12, rfl⟩, tw_805, tw_807, ts_35, tw_8, tw_808, rfl, ⟨by decide +kernel, by decide +kernel, by decide +kernel⟩⟩
theorem tw_809 : Cond.methodLink RX8 117 yX8_lowIn ∈ LT := LT_of 809 (by decide +kernel) (by decide +kernel)
theorem tw_811 : Cond.instanceMethod yX8_lowIn ∈ LT := LT_of 811 (by decide +kernel) (by decide +kernel)
theorem ts_36 : Cond.selects RX8 yX8_lowIn yX8_lowIn ∈ LT := LT_sel 36 (by decide +kernel) (by decide +kernel)
theorem tw_812 : Cond.code yX8_lowIn cX8_lowIn 3 (some .int) ∈ LT := LT_of 812 (by decide +kernel) (by decide +kernel)
theorem kvX8_117 : CVd RX8 117 7 mX8_lowIn 2 := ⟨⟨TX8, 12, rfl⟩, tw_809, tw_811, ts_36, tw_8, tw_812, rfl, ⟨by decide +kernel, by decide +kernel, by decide +kernel⟩⟩
theorem tw_813 : Cond.methodLink RL 120 yX8_codeLength ∈ LT := LT_of 813 (by decide +kernel) (by decide +kernel)
theorem tw_814 : Cond.instanceMethod yX8_codeLength ∈ LT := LT_of 814 (by decide +kernel) (by decide +kernel)
theorem tw_815 : Cond.selects RX8 yX8_codeLength yX8_codeLength ∈ LT := LT_of 815 (by decide +kernel) (by decide +kernel)
theorem tw_816 : Cond.code yX8_codeLength cX8_codeLength 2 (some .int) ∈ LT := LT_of 816 (by decide +kernel) (by decide +kernel)
theorem kvL_120 : CVd RL 120 7 mX8_codeLength 1 := ⟨⟨TX8, 12, rfl⟩, tw_813, tw_814, tw_815, tw_8, tw_816, rfl, ⟨by decide +kernel, by decide +kernel, by decide +kernel⟩⟩
theorem tw_817 : Cond.methodLink RX8 123 yX8_bitsOf ∈ LT := LT_of 817 (by decide +kernel) (by decide +kernel)
theorem tw_819 : Cond.instanceMethod yX8_bitsOf ∈ LT := LT_of 819 (by decide +kernel) (by decide +kernel)
theorem ts_37 : Cond.selects RX8 yX8_bitsOf yX8_bitsOf ∈ LT := LT_sel 37 (by decide +kernel) (by decide +kernel)
theorem tw_820 : Cond.code yX8_bitsOf cX8_bitsOf 4 (some .int) ∈ LT := LT_of 820 (by decide +kernel) (by decide +kernel)
theorem kvX8_123 : CVd RX8 123 7 mX8_bitsOf 1 := ⟨⟨TX8, 12, rfl⟩, tw_817, tw_819, ts_37, tw_8, tw_820, rfl, ⟨by decide +kernel, by decide +kernel, by decide +kernel⟩⟩
theorem tw_821 : Cond.methodLink RL 123 yX8_codeBit ∈ LT := LT_of 821 (by decide +kernel) (by decide +kernel)
theorem tw_822 : Cond.instanceMethod yX8_codeBit ∈ LT := LT_of 822 (by decide +kernel) (by decide +kernel)
theorem tw_823 : Cond.selects RX8 yX8_codeBit yX8_codeBit ∈ LT := LT_of 823 (by decide +kernel) (by decide +kernel)
theorem tw_824 : Cond.code yX8_codeBit cX8_codeBit 3 (some .int) ∈ LT := LT_of 824 (by decide +kernel) (by decide +kernel)
theorem kvL_123 : CVd RL 123 7 mX8_codeBit 2 := ⟨⟨TX8, 12, rfl⟩, tw_821, tw_822, tw_823, tw_8, tw_824, rfl, ⟨by decide +kernel, by decide +kernel, by decide +kernel⟩⟩
theorem tw_825 : Cond.methodLink RX8 132 yX8_bitOf ∈ LT := LT_of 825 (by decide +kernel) (by decide +kernel)
theorem tw_827 : Cond.instanceMethod yX8_bitOf ∈ LT := LT_of 827 (by decide +kernel) (by decide +kernel)
theorem ts_38 : Cond.selects RX8 yX8_bitOf yX8_bitOf ∈ LT := LT_sel 38 (by decide +kernel) (by decide +kernel)
theorem tw_828 : Cond.code yX8_bitOf cX8_bitOf 5 (some .int) ∈ LT := LT_of 828 (by decide +kernel) (by decide +kernel)
theorem kvX8_132 : CVd RX8 132 7 mX8_bitOf 2 := ⟨⟨TX8, 12, rfl⟩, tw_825, tw_827, ts_38, tw_8, tw_828, rfl, ⟨by decide +kernel, by decide +kernel, by decide +kernel⟩⟩
theorem tw_829 : Cond.methodLink RX8 126 yX8_headerBit ∈ LT := LT_of 829 (by decide +kernel) (by decide +kernel)
theorem tw_831 : Cond.instanceMethod yX8_headerBit ∈ LT := LT_of 831 (by decide +kernel) (by decide +kernel)
theorem ts_39 : Cond.selects RX8 yX8_headerBit yX8_headerBit ∈ LT := LT_sel 39 (by decide +kernel) (by decide +kernel)
theorem tw_832 : Cond.code yX8_headerBit cX8_headerBit 5 (some .int) ∈ LT := LT_of 832 (by decide +kernel) (by decide +kernel)
theorem kvX8_126 : CVd RX8 126 7 mX8_headerBit 3 := ⟨⟨TX8, 12, rfl⟩, tw_829, tw_831, ts_39, tw_8, tw_832, rfl, ⟨by decide +kernel, by decide +kernel, by decide +kernel⟩⟩
theorem tw_833 : Cond.methodLink RX8 129 yX8_bodyBit ∈ LT := LT_of 833 (by decide +kernel) (by decide +kernel)
theorem tw_835 : Cond.instanceMethod yX8_bodyBit ∈ LT := LT_of 835 (by decide +kernel) (by decide +kernel)
theorem ts_40 : Cond.selects RX8 yX8_bodyBit yX8_bodyBit ∈ LT := LT_sel 40 (by decide +kernel) (by decide +kernel)
theorem tw_836 : Cond.code yX8_bodyBit cX8_bodyBit 12 (some .int) ∈ LT := LT_of 836 (by decide +kernel) (by decide +kernel)
theorem kvX8_129 : CVd RX8 129 7 mX8_bodyBit 3 := ⟨⟨TX8, 12, rfl⟩, tw_833, tw_835, ts_40, tw_8, tw_836, rfl, ⟨by decide +kernel, by decide +kernel, by decide +kernel⟩⟩
theorem tw_837 : Cond.methodLink RL 126 yX8_fixedLength ∈ LT := LT_of 837 (by decide +kernel) (by decide +kernel)
theorem tw_838 : Cond.instanceMethod yX8_fixedLength ∈ LT := LT_of 838 (by decide +kernel) (by decide +kernel)
theorem tw_839 : Cond.selects RX8 yX8_fixedLength yX8_fixedLength ∈ LT := LT_of 839 (by decide +kernel) (by decide +kernel)
theorem tw_840 : Cond.code yX8_fixedLength cX8_fixedLength 5 (some .int) ∈ LT := LT_of 840 (by decide +kernel) (by decide +kernel)
theorem kvL_126 : CVd RL 126 7 mX8_fixedLength 2 := ⟨⟨TX8, 12, rfl⟩, tw_837, tw_838, tw_839, tw_8, tw_840, rfl, ⟨by decide +kernel, by decide +kernel, by decide +kernel⟩⟩
theorem tw_841 : Cond.methodLink RL 130 yX8_bitsPerDocument ∈ LT := LT_of 841 (by decide +kernel) (by decide +kernel)
theorem tw_842 : Cond.instanceMethod yX8_bitsPerDocument ∈ LT := LT_of 842 (by decide +kernel) (by decide +kernel)
theorem tw_843 : Cond.selects RX8 yX8_bitsPerDocument yX8_bitsPerDocument ∈ LT := LT_of 843 (by decide +kernel) (by decide +kernel)
theorem tw_844 : Cond.code yX8_bitsPerDocument cX8_bitsPerDocument 2 (some .double) ∈ LT := LT_of 844 (by decide +kernel) (by decide +kernel)
theorem kvL_130 : CVd RL 130 7 mX8_bitsPerDocument 1 := ⟨⟨TX8, 12, rfl⟩, tw_841, tw_842, tw_843, tw_8, tw_844, rfl, ⟨by decide +kernel, by decide +kernel, by decide +kernel⟩⟩
theorem tw_845 : Cond.methodLink RL 133 yX8_nextAtLeast ∈ LT := LT_of 845 (by decide +kernel) (by decide +kernel)
theorem tw_846 : Cond.instanceMethod yX8_nextAtLeast ∈ LT := LT_of 846 (by decide +kernel) (by decide +kernel)
theorem tw_847 : Cond.selects RX8 yX8_nextAtLeast yX8_nextAtLeast ∈ LT := LT_of 847 (by decide +kernel) (by decide +kernel)
theorem tw_848 : Cond.code yX8_nextAtLeast cX8_nextAtLeast 3 (some .int) ∈ LT := LT_of 848 (by decide +kernel) (by decide +kernel)
theorem kvL_133 : CVd RL 133 7 mX8_nextAtLeast 2 := ⟨⟨TX8, 12, rfl⟩, tw_845, tw_846, tw_847, tw_8, tw_848, rfl, ⟨by decide +kernel, by decide +kernel, by decide +kernel⟩⟩
theorem tw_849 : Cond.methodLink RX8 142 yX8_asks ∈ LT := LT_of 849 (by decide +kernel) (by decide +kernel)
theorem tw_851 : Cond.instanceMethod yX8_asks ∈ LT := LT_of 851 (by decide +kernel) (by decide +kernel)
theorem ts_41 : Cond.selects RX8 yX8_asks yX8_asks ∈ LT := LT_sel 41 (by decide +kernel) (by decide +kernel)
theorem tw_852 : Cond.code yX8_asks cX8_asks 4 (some .int) ∈ LT := LT_of 852 (by decide +kernel) (by decide +kernel)
theorem kvX8_142 : CVd RX8 142 7 mX8_asks 2 := ⟨⟨TX8, 12, rfl⟩, tw_849, tw_851, ts_41, tw_8, tw_852, rfl, ⟨by decide +kernel, by decide +kernel, by decide +kernel⟩⟩
theorem tw_853 : Cond.methodLink RX8 139 yX8_opens ∈ LT := LT_of 853 (by decide +kernel) (by decide +kernel)
theorem tw_855 : Cond.instanceMethod yX8_opens ∈ LT := LT_of 855 (by decide +kernel) (by decide +kernel)
theorem ts_42 : Cond.selects RX8 yX8_opens yX8_opens ∈ LT := LT_sel 42 (by decide +kernel) (by decide +kernel)
theorem tw_856 : Cond.code yX8_opens cX8_opens 7 (some .int) ∈ LT := LT_of 856 (by decide +kernel) (by decide +kernel)
theorem kvX8_139 : CVd RX8 139 7 mX8_opens 3 := ⟨⟨TX8, 12, rfl⟩, tw_853, tw_855, ts_42, tw_8, tw_856, rfl, ⟨by decide +kernel, by decide +kernel, by decide +kernel⟩⟩
theorem tw_857 : Cond.methodLink RX8 135 yX8_readsFor ∈ LT := LT_of 857 (by decide +kernel) (by decide +kernel)
theorem tw_859 : Cond.instanceMethod yX8_readsFor ∈ LT := LT_of 859 (by decide +kernel) (by decide +kernel)
theorem ts_43 : Cond.selects RX8 yX8_readsFor yX8_readsFor ∈ LT := LT_sel 43 (by decide +kernel) (by decide +kernel)
theorem tw_860 : Cond.code yX8_readsFor cX8_readsFor 10 (some .int) ∈ LT := LT_of 860 (by decide +kernel) (by decide +kernel)
theorem kvX8_135 : CVd RX8 135 7 mX8_readsFor 4 := ⟨⟨TX8, 12, rfl⟩, tw_857, tw_859, ts_43, tw_8, tw_860, rfl, ⟨by decide +kernel, by decide +kernel, by decide +kernel⟩⟩
theorem tw_861 : Cond.methodLink RL 136 yX8_countIntersection ∈ LT := LT_of 861 (by decide +kernel) (by decide +kernel)
theorem tw_862 : Cond.instanceMethod yX8_countIntersection ∈ LT := LT_of 862 (by decide +kernel) (by decide +kernel)
theorem tw_863 : Cond.selects RX8 yX8_countIntersection yX8_countIntersection ∈ LT := LT_of 863 (by decide +kernel) (by decide +kernel)
theorem tw_864 : Cond.code yX8_countIntersection cX8_countIntersection 2 (some .int) ∈ LT := LT_of 864 (by decide +kernel) (by decide +kernel)
theorem kvL_136 : CVd RL 136 7 mX8_countIntersection 1 := ⟨⟨TX8, 12, rfl⟩, tw_861, tw_862, tw_863, tw_8, tw_864, rfl, ⟨by decide +kernel, by decide +kernel, by decide +kernel⟩⟩
theorem tw_865 : Cond.methodLink RX8 145 yX8_isSet ∈ LT := LT_of 865 (by decide +kernel) (by decide +kernel)
theorem tw_866 : Cond.static yX8_isSet ∈ LT := LT_of 866 (by decide +kernel) (by decide +kernel)
theorem tw_867 : Cond.code yX8_isSet cX8_isSet 1 (some .boolean) ∈ LT := LT_of 867 (by decide +kernel) (by decide +kernel)
theorem ksX8_145 : CSd RX8 145 mX8_isSet 1 := ⟨tw_865, tw_866, tw_8, tw_867, rfl, ⟨by decide +kernel, by decide +kernel, by decide +kernel⟩⟩
theorem tw_868 : Cond.methodLink RX8 148 yX8_meets ∈ LT := LT_of 868 (by decide +kernel) (by decide +kernel)
theorem tw_870 : Cond.instanceMethod yX8_meets ∈ LT := LT_of 870 (by decide +kernel) (by decide +kernel)
theorem ts_44 : Cond.selects RX8 yX8_meets yX8_meets ∈ LT := LT_sel 44 (by decide +kernel) (by decide +kernel)
theorem tw_871 : Cond.code yX8_meets cX8_meets 7 (some .int) ∈ LT := LT_of 871 (by decide +kernel) (by decide +kernel)
theorem kvX8_148 : CVd RX8 148 7 mX8_meets 1 := ⟨⟨TX8, 12, rfl⟩, tw_868, tw_870, ts_44, tw_8, tw_871, rfl, ⟨by decide +kernel, by decide +kernel, by decide +kernel⟩⟩
theorem tw_872 : Cond.methodLink RL 139 yX8_intersect ∈ LT := LT_of 872 (by decide +kernel) (by decide +kernel)
theorem tw_873 : Cond.instanceMethod yX8_intersect ∈ LT := LT_of 873 (by decide +kernel) (by decide +kernel)
theorem tw_874 : Cond.selects RX8 yX8_intersect yX8_intersect ∈ LT := LT_of 874 (by decide +kernel) (by decide +kernel)
theorem tw_875 : Cond.code yX8_intersect cX8_intersect 3 (some .int) ∈ LT := LT_of 875 (by decide +kernel) (by decide +kernel)
theorem kvL_139 : CVd RL 139 7 mX8_intersect 2 := ⟨⟨TX8, 12, rfl⟩, tw_872, tw_873, tw_874, tw_8, tw_875, rfl, ⟨by decide +kernel, by decide +kernel, by decide +kernel⟩⟩
theorem tw_876 : Cond.methodLink RX8 151 yX8_writes ∈ LT := LT_of 876 (by decide +kernel) (by decide +kernel)
theorem tw_878 : Cond.instanceMethod yX8_writes ∈ LT := LT_of 878 (by decide +kernel) (by decide +kernel)
theorem ts_45 : Cond.selects RX8 yX8_writes yX8_writes ∈ LT := LT_sel 45 (by decide +kernel) (by decide +kernel)
theorem tw_879 : Cond.code yX8_writes cX8_writes 4 (some .int) ∈ LT := LT_of 879 (by decide +kernel) (by decide +kernel)
theorem kvX8_151 : CVd RX8 151 7 mX8_writes 2 := ⟨⟨TX8, 12, rfl⟩, tw_876, tw_878, ts_45, tw_8, tw_879, rfl, ⟨by decide +kernel, by decide +kernel, by decide +kernel⟩⟩
theorem tw_880 : Cond.methodLink RL 142 yX8_unite ∈ LT := LT_of 880 (by decide +kernel) (by decide +kernel)
theorem tw_881 : Cond.instanceMethod yX8_unite ∈ LT := LT_of 881 (by decide +kernel) (by decide +kernel)
theorem tw_882 : Cond.selects RX8 yX8_unite yX8_unite ∈ LT := LT_of 882 (by decide +kernel) (by decide +kernel)
theorem tw_883 : Cond.code yX8_unite cX8_unite 6 (some .int) ∈ LT := LT_of 883 (by decide +kernel) (by decide +kernel)
theorem kvL_142 : CVd RL 142 7 mX8_unite 3 := ⟨⟨TX8, 12, rfl⟩, tw_880, tw_881, tw_882, tw_8, tw_883, rfl, ⟨by decide +kernel, by decide +kernel, by decide +kernel⟩⟩
theorem tw_884 : Cond.methodLink RX8 154 yX8_has ∈ LT := LT_of 884 (by decide +kernel) (by decide +kernel)
theorem tw_886 : Cond.instanceMethod yX8_has ∈ LT := LT_of 886 (by decide +kernel) (by decide +kernel)
theorem ts_46 : Cond.selects RX8 yX8_has yX8_has ∈ LT := LT_sel 46 (by decide +kernel) (by decide +kernel)
theorem tw_887 : Cond.code yX8_has cX8_has 5 (some .boolean) ∈ LT := LT_of 887 (by decide +kernel) (by decide +kernel)
theorem kvX8_154 : CVd RX8 154 7 mX8_has 2 := ⟨⟨TX8, 12, rfl⟩, tw_884, tw_886, ts_46, tw_8, tw_887, rfl, ⟨by decide +kernel, by decide +kernel, by decide +kernel⟩⟩
theorem tw_888 : Cond.methodLink RL 145 yX8_subtract ∈ LT := LT_of 888 (by decide +kernel) (by decide +kernel)
theorem tw_889 : Cond.instanceMethod yX8_subtract ∈ LT := LT_of 889 (by decide +kernel) (by decide +kernel)
theorem tw_890 : Cond.selects RX8 yX8_subtract yX8_subtract ∈ LT := LT_of 890 (by decide +kernel) (by decide +kernel)
theorem tw_891 : Cond.code yX8_subtract cX8_subtract 6 (some .int) ∈ LT := LT_of 891 (by decide +kernel) (by decide +kernel)
theorem kvL_145 : CVd RL 145 7 mX8_subtract 3 := ⟨⟨TX8, 12, rfl⟩, tw_888, tw_889, tw_890, tw_8, tw_891, rfl, ⟨by decide +kernel, by decide +kernel, by decide +kernel⟩⟩
theorem tw_892 : Cond.methodLink RL 149 yX8_reads ∈ LT := LT_of 892 (by decide +kernel) (by decide +kernel)
theorem tw_893 : Cond.instanceMethod yX8_reads ∈ LT := LT_of 893 (by decide +kernel) (by decide +kernel)
theorem tw_894 : Cond.selects RX8 yX8_reads yX8_reads ∈ LT := LT_of 894 (by decide +kernel) (by decide +kernel)
theorem tw_895 : Cond.code yX8_reads cX8_reads 1 (some .int) ∈ LT := LT_of 895 (by decide +kernel) (by decide +kernel)
theorem kvL_149 : CVd RL 149 7 mX8_reads 0 := ⟨⟨TX8, 12, rfl⟩, tw_892, tw_893, tw_894, tw_8, tw_895, rfl, ⟨by decide +kernel, by decide +kernel, by decide +kernel⟩⟩
theorem tw_896 : Cond.methodLink RL 153 yX8_hits ∈ LT := LT_of 896 (by decide +kernel) (by decide +kernel)
theorem tw_897 : Cond.instanceMethod yX8_hits ∈ LT := LT_of 897 (by decide +kernel) (by decide +kernel)
theorem tw_898 : Cond.selects RX8 yX8_hits yX8_hits ∈ LT := LT_of 898 (by decide +kernel) (by decide +kernel)
theorem tw_899 : Cond.code yX8_hits cX8_hits 1 (some .int) ∈ LT := LT_of 899 (by decide +kernel) (by decide +kernel)
theorem kvL_153 : CVd RL 153 7 mX8_hits 0 := ⟨⟨TX8, 12, rfl⟩, tw_896, tw_897, tw_898, tw_8, tw_899, rfl, ⟨by decide +kernel, by decide +kernel, by decide +kernel⟩⟩
theorem tw_900 : Cond.methodLink RL 156 yX8_setCapacity ∈ LT := LT_of 900 (by decide +kernel) (by decide +kernel)
theorem tw_901 : Cond.instanceMethod yX8_setCapacity ∈ LT := LT_of 901 (by decide +kernel) (by decide +kernel)
theorem tw_902 : Cond.selects RX8 yX8_setCapacity yX8_setCapacity ∈ LT := LT_of 902 (by decide +kernel) (by decide +kernel)
theorem tw_903 : Cond.code yX8_setCapacity cX8_setCapacity 3 (some .int) ∈ LT := LT_of 903 (by decide +kernel) (by decide +kernel)
theorem kvL_156 : CVd RL 156 7 mX8_setCapacity 1 := ⟨⟨TX8, 12, rfl⟩, tw_900, tw_901, tw_902, tw_8, tw_903, rfl, ⟨by decide +kernel, by decide +kernel, by decide +kernel⟩⟩
theorem tw_904 : Cond.methodLink RL 160 yX8_cached ∈ LT := LT_of 904 (by decide +kernel) (by decide +kernel)
theorem tw_905 : Cond.instanceMethod yX8_cached ∈ LT := LT_of 905 (by decide +kernel) (by decide +kernel)
theorem tw_906 : Cond.selects RX8 yX8_cached yX8_cached ∈ LT := LT_of 906 (by decide +kernel) (by decide +kernel)
theorem tw_907 : Cond.code yX8_cached cX8_cached 1 (some .int) ∈ LT := LT_of 907 (by decide +kernel) (by decide +kernel)
theorem kvL_160 : CVd RL 160 7 mX8_cached 0 := ⟨⟨TX8, 12, rfl⟩, tw_904, tw_905, tw_906, tw_8, tw_907, rfl, ⟨by decide +kernel, by decide +kernel, by decide +kernel⟩⟩
theorem tw_908 : Cond.methodLink RL 163 yX8_cachedAt ∈ LT := LT_of 908 (by decide +kernel) (by decide +kernel)
theorem tw_909 : Cond.instanceMethod yX8_cachedAt ∈ LT := LT_of 909 (by decide +kernel) (by decide +kernel)
theorem tw_910 : Cond.selects RX8 yX8_cachedAt yX8_cachedAt ∈ LT := LT_of 910 (by decide +kernel) (by decide +kernel)
theorem tw_911 : Cond.code yX8_cachedAt cX8_cachedAt 2 (some .int) ∈ LT := LT_of 911 (by decide +kernel) (by decide +kernel)
theorem kvL_163 : CVd RL 163 7 mX8_cachedAt 1 := ⟨⟨TX8, 12, rfl⟩, tw_908, tw_909, tw_910, tw_8, tw_911, rfl, ⟨by decide +kernel, by decide +kernel, by decide +kernel⟩⟩
theorem tw_912 : Cond.methodLink RL 167 yX8_undo ∈ LT := LT_of 912 (by decide +kernel) (by decide +kernel)
theorem tw_913 : Cond.instanceMethod yX8_undo ∈ LT := LT_of 913 (by decide +kernel) (by decide +kernel)
theorem tw_914 : Cond.selects RX8 yX8_undo yX8_undo ∈ LT := LT_of 914 (by decide +kernel) (by decide +kernel)
theorem tw_915 : Cond.code yX8_undo cX8_undo 2 (some .int) ∈ LT := LT_of 915 (by decide +kernel) (by decide +kernel)
theorem kvL_167 : CVd RL 167 7 mX8_undo 0 := ⟨⟨TX8, 12, rfl⟩, tw_912, tw_913, tw_914, tw_8, tw_915, rfl, ⟨by decide +kernel, by decide +kernel, by decide +kernel⟩⟩
theorem tw_916 : Cond.methodLink RL 172 yX8_digest ∈ LT := LT_of 916 (by decide +kernel) (by decide +kernel)
theorem tw_917 : Cond.instanceMethod yX8_digest ∈ LT := LT_of 917 (by decide +kernel) (by decide +kernel)
theorem tw_918 : Cond.selects RX8 yX8_digest yX8_digest ∈ LT := LT_of 918 (by decide +kernel) (by decide +kernel)
theorem tw_919 : Cond.code yX8_digest cX8_digest 6 (some .long) ∈ LT := LT_of 919 (by decide +kernel) (by decide +kernel)
theorem kvL_172 : CVd RL 172 7 mX8_digest 0 := ⟨⟨TX8, 12, rfl⟩, tw_916, tw_917, tw_918, tw_8, tw_919, rfl, ⟨by decide +kernel, by decide +kernel, by decide +kernel⟩⟩
theorem tw_921 : Cond.methodLink RX8 161 yX8_mixed ∈ LT := LT_of 921 (by decide +kernel) (by decide +kernel)
theorem tw_922 : Cond.static yX8_mixed ∈ LT := LT_of 922 (by decide +kernel) (by decide +kernel)
theorem tw_923 : Cond.code yX8_mixed cX8_mixed 4 (some .long) ∈ LT := LT_of 923 (by decide +kernel) (by decide +kernel)
theorem ksX8_161 : CSd RX8 161 mX8_mixed 2 := ⟨tw_921, tw_922, tw_8, tw_923, rfl, ⟨by decide +kernel, by decide +kernel, by decide +kernel⟩⟩
theorem tw_36 : Cond.instanceMethod yX0_init ∈ LT := LT_of 36 (by decide +kernel) (by decide +kernel)
theorem tw_37 : Cond.code yX0_init cX0_init 1 none ∈ LT := LT_of 37 (by decide +kernel) (by decide +kernel)
theorem knX6_19 : CNd RX6 19 mX0_init RX7 0 := ⟨by decide +kernel, tw_36, rfl, tw_3, tw_37, rfl, rfl, ⟨by decide +kernel, by decide +kernel, by decide +kernel⟩⟩
theorem tw_55 : Cond.instanceMethod yX4_init ∈ LT := LT_of 55 (by decide +kernel) (by decide +kernel)
theorem tw_56 : Cond.code yX4_init cX4_init 1 none ∈ LT := LT_of 56 (by decide +kernel) (by decide +kernel)
theorem knX6_31 : CNd RX6 31 mX4_init RX7 0 := ⟨by decide +kernel, tw_55, rfl, tw_4, tw_56, rfl, rfl, ⟨by decide +kernel, by decide +kernel, by decide +kernel⟩⟩
theorem tw_119 : Cond.instanceMethod yX3_init ∈ LT := LT_of 119 (by decide +kernel) (by decide +kernel)
theorem tw_120 : Cond.code yX3_init cX3_init 1 none ∈ LT := LT_of 120 (by decide +kernel) (by decide +kernel)
theorem knX7_25 : CNd RX7 25 mX3_init RX7 0 := ⟨by decide +kernel, tw_119, rfl, tw_6, tw_120, rfl, rfl, ⟨by decide +kernel, by decide +kernel, by decide +kernel⟩⟩
theorem tw_132 : Cond.instanceMethod yX1_init ∈ LT := LT_of 132 (by decide +kernel) (by decide +kernel)
theorem tw_133 : Cond.code yX1_init cX1_init 1 none ∈ LT := LT_of 133 (by decide +kernel) (by decide +kernel)
theorem knX7_32 : CNd RX7 32 mX1_init RX7 0 := ⟨by decide +kernel, tw_132, rfl, tw_7, tw_133, rfl, rfl, ⟨by decide +kernel, by decide +kernel, by decide +kernel⟩⟩
theorem tw_17 : Cond.classLink RL 8 RX7 ∈ LT := LT_of 17 (by decide +kernel) (by decide +kernel)
theorem tw_18 : Cond.instantiable RX7 6 ∈ LT := LT_of 18 (by decide +kernel) (by decide +kernel)
theorem nwL_8 : NWd RL 8 6 6 [.null, .null, .null, .null, .null, .null] := ⟨RX7, TX7, tyX7, rfl, luX7, tyX7_ok, tw_17, tw_18, tw_1, fun B b j hj => by
  match j, hj with
  | 0, _ => rfl
  | 1, _ => rfl
  | 2, _ => rfl
  | 3, _ => rfl
  | 4, _ => rfl
  | 5, _ => rfl
  | j + 6, hj => omega⟩
theorem tw_25 : Cond.classLink RX7 9 RX6 ∈ LT := LT_of 25 (by decide +kernel) (by decide +kernel)
theorem tw_26 : Cond.instantiable RX6 4 ∈ LT := LT_of 26 (by decide +kernel) (by decide +kernel)
theorem nwX7_9 : NWd RX7 9 5 4 [.null, .null, .int (iI 0), .int (iI 0)] := ⟨RX6, TX6, tyX6, rfl, luX6, tyX6_ok, tw_25, tw_26, tw_2, fun B b j hj => by
  match j, hj with
  | 0, _ => rfl
  | 1, _ => rfl
  | 2, _ => rfl
  | 3, _ => rfl
  | j + 4, hj => omega⟩
theorem tw_31 : Cond.classLink RX6 9 RX4 ∈ LT := LT_of 31 (by decide +kernel) (by decide +kernel)
theorem tw_53 : Cond.instantiable RX4 4 ∈ LT := LT_of 53 (by decide +kernel) (by decide +kernel)
theorem nwX6_9 : NWd RX6 9 4 4 [.null, .int (iI 0), .null, .int (iI 0)] := ⟨RX4, TX4, tyX4, rfl, luX4, tyX4_ok, tw_31, tw_53, tw_4, fun B b j hj => by
  match j, hj with
  | 0, _ => rfl
  | 1, _ => rfl
  | 2, _ => rfl
  | 3, _ => rfl
  | j + 4, hj => omega⟩
theorem tw_33 : Cond.classLink RX6 17 RX0 ∈ LT := LT_of 33 (by decide +kernel) (by decide +kernel)
theorem tw_34 : Cond.instantiable RX0 3 ∈ LT := LT_of 34 (by decide +kernel) (by decide +kernel)
theorem nwX6_17 : NWd RX6 17 0 3 [.null, .int (iI 0), .int (iI 0)] := ⟨RX0, TX0, tyX0, rfl, luX0, tyX0_ok, tw_33, tw_34, tw_3, fun B b j hj => by
  match j, hj with
  | 0, _ => rfl
  | 1, _ => rfl
  | 2, _ => rfl
  | j + 3, hj => omega⟩
theorem tw_96 : Cond.classLink RX7 16 RX2 ∈ LT := LT_of 96 (by decide +kernel) (by decide +kernel)
theorem tw_97 : Cond.instantiable RX2 3 ∈ LT := LT_of 97 (by decide +kernel) (by decide +kernel)
theorem nwX7_16 : NWd RX7 16 2 3 [.null, .int (iI 0), .int (iI 0)] := ⟨RX2, TX2, tyX2, rfl, luX2, tyX2_ok, tw_96, tw_97, tw_5, fun B b j hj => by
  match j, hj with
  | 0, _ => rfl
  | 1, _ => rfl
  | 2, _ => rfl
  | j + 3, hj => omega⟩
theorem tw_102 : Cond.classLink RX2 9 RX6 ∈ LT := LT_of 102 (by decide +kernel) (by decide +kernel)
theorem nwX2_9 : NWd RX2 9 5 4 [.null, .null, .int (iI 0), .int (iI 0)] := ⟨RX6, TX6, tyX6, rfl, luX6, tyX6_ok, tw_102, tw_26, tw_2, fun B b j hj => by
  match j, hj with
  | 0, _ => rfl
  | 1, _ => rfl
  | 2, _ => rfl
  | 3, _ => rfl
  | j + 4, hj => omega⟩
theorem tw_116 : Cond.classLink RX7 23 RX3 ∈ LT := LT_of 116 (by decide +kernel) (by decide +kernel)
theorem tw_117 : Cond.instantiable RX3 2 ∈ LT := LT_of 117 (by decide +kernel) (by decide +kernel)
theorem nwX7_23 : NWd RX7 23 3 2 [.null, .null] := ⟨RX3, TX3, tyX3, rfl, luX3, tyX3_ok, tw_116, tw_117, tw_6, fun B b j hj => by
  match j, hj with
  | 0, _ => rfl
  | 1, _ => rfl
  | j + 2, hj => omega⟩
theorem tw_129 : Cond.classLink RX7 30 RX1 ∈ LT := LT_of 129 (by decide +kernel) (by decide +kernel)
theorem tw_130 : Cond.instantiable RX1 2 ∈ LT := LT_of 130 (by decide +kernel) (by decide +kernel)
theorem nwX7_30 : NWd RX7 30 1 2 [.null, .int (iI 0)] := ⟨RX1, TX1, tyX1, rfl, luX1, tyX1_ok, tw_129, tw_130, tw_7, fun B b j hj => by
  match j, hj with
  | 0, _ => rfl
  | 1, _ => rfl
  | j + 2, hj => omega⟩
theorem tw_238 : Cond.classLink RL 13 "java/lang/IndexOutOfBoundsException" ∈ LT := LT_of 238 (by decide +kernel) (by decide +kernel)
theorem tw_239 : Cond.classLink RL 15 "java/lang/IllegalArgumentException" ∈ LT := LT_of 239 (by decide +kernel) (by decide +kernel)
theorem tw_240 : Cond.classLink RL 17 "java/lang/IllegalStateException" ∈ LT := LT_of 240 (by decide +kernel) (by decide +kernel)
theorem tw_259 : Cond.classLink RX7 193 "java/lang/IndexOutOfBoundsException" ∈ LT := LT_of 259 (by decide +kernel) (by decide +kernel)
theorem tw_333 : Cond.classLink RX7 62 "java/lang/IllegalArgumentException" ∈ LT := LT_of 333 (by decide +kernel) (by decide +kernel)
theorem tw_355 : Cond.classLink RX7 73 "java/lang/IllegalStateException" ∈ LT := LT_of 355 (by decide +kernel) (by decide +kernel)
theorem tw_649 : Cond.classLink RL 82 RX8 ∈ LT := LT_of 649 (by decide +kernel) (by decide +kernel)
theorem tw_650 : Cond.instantiable RX8 12 ∈ LT := LT_of 650 (by decide +kernel) (by decide +kernel)
theorem nwL_82 : NWd RL 82 7 12 [.int (iI 0), .null, .null, .int (iI 0), .null, .null, .null, .null, .null, .null, .null, .null] := ⟨RX8, TX8, tyX8, rfl, luX8, tyX8_ok, tw_649, tw_650, tw_8, fun B b j hj => by
  match j, hj with
  | 0, _ => rfl
  | 1, _ => rfl
  | 2, _ => rfl
  | 3, _ => rfl
  | 4, _ => rfl
  | 5, _ => rfl
  | 6, _ => rfl
  | 7, _ => rfl
  | 8, _ => rfl
  | 9, _ => rfl
  | 10, _ => rfl
  | 11, _ => rfl
  | j + 12, hj => omega⟩
theorem tw_179 : Cond.constantLong RX7 175 2791 ∈ LT := LT_of 179 (by decide +kernel) (by decide +kernel)
theorem tw_187 : Cond.constantLong RX7 216 31 ∈ LT := LT_of 187 (by decide +kernel) (by decide +kernel)
theorem tw_763 : Cond.constant RX8 91 1000000 ∈ LT := LT_of 763 (by decide +kernel) (by decide +kernel)
theorem tw_920 : Cond.constantLong RX8 159 2791 ∈ LT := LT_of 920 (by decide +kernel) (by decide +kernel)
theorem tw_924 : Cond.constantLong RX8 157 31 ∈ LT := LT_of 924 (by decide +kernel) (by decide +kernel)
theorem tw_52 : Cond.arrayClass .int ∈ LT := LT_of 52 (by decide +kernel) (by decide +kernel)
theorem ak_int : Cond.arrayClass .int ∈ LT := tw_52
theorem tw_692 : Cond.arrayClass .boolean ∈ LT := LT_of 692 (by decide +kernel) (by decide +kernel)
theorem ak_boolean : Cond.arrayClass .boolean ∈ LT := tw_692
theorem tw_925 : Cond.arrayClass .long ∈ LT := LT_of 925 (by decide +kernel) (by decide +kernel)
theorem ak_long : Cond.arrayClass .long ∈ LT := tw_925
theorem tw_926 : Cond.arrayClass .double ∈ LT := LT_of 926 (by decide +kernel) (by decide +kernel)
theorem ak_double : Cond.arrayClass .double ∈ LT := tw_926
theorem tw_12 : Cond.initialized "java/lang/IndexOutOfBoundsException" ∈ LT := LT_of 12 (by decide +kernel) (by decide +kernel)
theorem th_IO : THd 193 195 197 eIO "no such list or index" := ⟨by decide +kernel, tw_259, tw_12, by decide +kernel, by decide +kernel, fun w hw => List.mem_filter.mpr ⟨wsL_law_x2 w hw, (List.mem_filter.mp hw).2⟩, by decide +kernel, by decide +kernel⟩
theorem tw_13 : Cond.initialized "java/lang/IllegalArgumentException" ∈ LT := LT_of 13 (by decide +kernel) (by decide +kernel)
theorem th_IA1 : THd 62 198 66 eIA "out of range" := ⟨by decide +kernel, tw_333, tw_13, by decide +kernel, by decide +kernel, fun w hw => List.mem_filter.mpr ⟨wsL_law_x0 w hw, (List.mem_filter.mp hw).2⟩, by decide +kernel, by decide +kernel⟩
theorem th_IA2 : THd 62 64 66 eIA "not greater than the last document" := ⟨by decide +kernel, tw_333, tw_13, by decide +kernel, by decide +kernel, fun w hw => List.mem_filter.mpr ⟨wsL_law_x0 w hw, (List.mem_filter.mp hw).2⟩, by decide +kernel, by decide +kernel⟩
theorem tw_14 : Cond.initialized "java/lang/IllegalStateException" ∈ LT := LT_of 14 (by decide +kernel) (by decide +kernel)
theorem th_IS1 : THd 73 75 77 eIS "the list is full" := ⟨by decide +kernel, tw_355, tw_14, by decide +kernel, by decide +kernel, fun w hw => List.mem_filter.mpr ⟨wsL_law_x1 w hw, (List.mem_filter.mp hw).2⟩, by decide +kernel, by decide +kernel⟩
theorem th_IS2 : THd 73 142 77 eIS "the union is too long" := ⟨by decide +kernel, tw_355, tw_14, by decide +kernel, by decide +kernel, fun w hw => List.mem_filter.mpr ⟨wsL_law_x1 w hw, (List.mem_filter.mp hw).2⟩, by decide +kernel, by decide +kernel⟩
theorem th_IS3 : THd 73 170 77 eIS "no saved state" := ⟨by decide +kernel, tw_355, tw_14, by decide +kernel, by decide +kernel, fun w hw => List.mem_filter.mpr ⟨wsL_law_x1 w hw, (List.mem_filter.mp hw).2⟩, by decide +kernel, by decide +kernel⟩
end
