section
-- ===== PART A: goes FIRST, ahead of the names: the tables' words, and 'selects' of the private methods out of them =====
/-- a private method of a class that the tables say can be made, by its rows of tables_1 -/
def lw_okq (q : MethodName × Nat) : Prop := (q.1.cls ≠ "java/lang/invoke/MethodHandle" ∧ q.1.cls ≠ "java/lang/invoke/VarHandle") ∧ Cond.instantiable q.1.cls q.2 ∈ tables_1 ∧ Cond.privateMethod q.1 ∈ tables_1 ∧ Cond.instanceMethod q.1 ∈ tables_1
theorem lw_p0 : lw_okq (⟨"PolyDesk$Bench", "beginProduct", "(JI)V"⟩, 5) := ⟨⟨by decide +kernel, by decide +kernel⟩, List.mem_of_getElem? (i := 50) (by decide +kernel), List.mem_of_getElem? (i := 107) (by decide +kernel), List.mem_of_getElem? (i := 108) (by decide +kernel)⟩
theorem lw_p1 : lw_okq (⟨"PolyDesk$Poly", "clear", "()V"⟩, 5) := ⟨⟨by decide +kernel, by decide +kernel⟩, List.mem_of_getElem? (i := 15) (by decide +kernel), List.mem_of_getElem? (i := 111) (by decide +kernel), List.mem_of_getElem? (i := 112) (by decide +kernel)⟩
theorem lw_p2 : lw_okq (⟨"PolyDesk$Poly", "append", "(JJ)Z"⟩, 5) := ⟨⟨by decide +kernel, by decide +kernel⟩, List.mem_of_getElem? (i := 15) (by decide +kernel), List.mem_of_getElem? (i := 115) (by decide +kernel), List.mem_of_getElem? (i := 116) (by decide +kernel)⟩
theorem lw_p3 : lw_okq (⟨"PolyDesk", "store", "(ILPolyDesk$Poly;)I"⟩, 7) := ⟨⟨by decide +kernel, by decide +kernel⟩, List.mem_of_getElem? (i := 7) (by decide +kernel), List.mem_of_getElem? (i := 121) (by decide +kernel), List.mem_of_getElem? (i := 122) (by decide +kernel)⟩
theorem lw_p4 : lw_okq (⟨"PolyDesk$Poly", "copied", "()LPolyDesk$Poly;"⟩, 5) := ⟨⟨by decide +kernel, by decide +kernel⟩, List.mem_of_getElem? (i := 15) (by decide +kernel), List.mem_of_getElem? (i := 125) (by decide +kernel), List.mem_of_getElem? (i := 126) (by decide +kernel)⟩
theorem lw_p5 : lw_okq (⟨"PolyDesk", "combine", "(IIII)I"⟩, 7) := ⟨⟨by decide +kernel, by decide +kernel⟩, List.mem_of_getElem? (i := 7) (by decide +kernel), List.mem_of_getElem? (i := 148) (by decide +kernel), List.mem_of_getElem? (i := 149) (by decide +kernel)⟩
theorem lw_p6 : lw_okq (⟨"PolyDesk$Bench", "makeTotal", "(LPolyDesk$Poly;LPolyDesk$Poly;I)Z"⟩, 5) := ⟨⟨by decide +kernel, by decide +kernel⟩, List.mem_of_getElem? (i := 50) (by decide +kernel), List.mem_of_getElem? (i := 152) (by decide +kernel), List.mem_of_getElem? (i := 153) (by decide +kernel)⟩
theorem lw_p7 : lw_okq (⟨"PolyDesk$Poly", "takeSum", "(LPolyDesk$Poly;LPolyDesk$Poly;I)Z"⟩, 5) := ⟨⟨by decide +kernel, by decide +kernel⟩, List.mem_of_getElem? (i := 15) (by decide +kernel), List.mem_of_getElem? (i := 156) (by decide +kernel), List.mem_of_getElem? (i := 157) (by decide +kernel)⟩
theorem lw_p8 : lw_okq (⟨"PolyDesk$Bench", "makeProduct", "(LPolyDesk$Poly;LPolyDesk$Poly;)Z"⟩, 5) := ⟨⟨by decide +kernel, by decide +kernel⟩, List.mem_of_getElem? (i := 50) (by decide +kernel), List.mem_of_getElem? (i := 169) (by decide +kernel), List.mem_of_getElem? (i := 170) (by decide +kernel)⟩
theorem lw_p9 : lw_okq (⟨"PolyDesk$Bench", "fillProduct", "(LPolyDesk$Poly;LPolyDesk$Poly;LPolyDesk$Poly;)Z"⟩, 5) := ⟨⟨by decide +kernel, by decide +kernel⟩, List.mem_of_getElem? (i := 50) (by decide +kernel), List.mem_of_getElem? (i := 173) (by decide +kernel), List.mem_of_getElem? (i := 174) (by decide +kernel)⟩
theorem lw_p10 : lw_okq (⟨"PolyDesk$Poly", "takeTops", "(LPolyDesk$Poly;LPolyDesk$Poly;)Z"⟩, 5) := ⟨⟨by decide +kernel, by decide +kernel⟩, List.mem_of_getElem? (i := 15) (by decide +kernel), List.mem_of_getElem? (i := 177) (by decide +kernel), List.mem_of_getElem? (i := 178) (by decide +kernel)⟩
theorem lw_p11 : lw_okq (⟨"PolyDesk$Poly", "findTops", "()V"⟩, 5) := ⟨⟨by decide +kernel, by decide +kernel⟩, List.mem_of_getElem? (i := 15) (by decide +kernel), List.mem_of_getElem? (i := 181) (by decide +kernel), List.mem_of_getElem? (i := 182) (by decide +kernel)⟩
theorem lw_p12 : lw_okq (⟨"PolyDesk$Bench", "merge", "(LPolyDesk$Poly;LPolyDesk$Poly;LPolyDesk$Poly;)Z"⟩, 5) := ⟨⟨by decide +kernel, by decide +kernel⟩, List.mem_of_getElem? (i := 50) (by decide +kernel), List.mem_of_getElem? (i := 186) (by decide +kernel), List.mem_of_getElem? (i := 187) (by decide +kernel)⟩
theorem lw_p13 : lw_okq (⟨"PolyDesk$Bench", "greatestCode", "(LPolyDesk$Poly;LPolyDesk$Poly;)J"⟩, 5) := ⟨⟨by decide +kernel, by decide +kernel⟩, List.mem_of_getElem? (i := 50) (by decide +kernel), List.mem_of_getElem? (i := 190) (by decide +kernel), List.mem_of_getElem? (i := 191) (by decide +kernel)⟩
theorem lw_p14 : lw_okq (⟨"PolyDesk$Bench", "gather", "(JLPolyDesk$Poly;LPolyDesk$Poly;)J"⟩, 5) := ⟨⟨by decide +kernel, by decide +kernel⟩, List.mem_of_getElem? (i := 50) (by decide +kernel), List.mem_of_getElem? (i := 198) (by decide +kernel), List.mem_of_getElem? (i := 199) (by decide +kernel)⟩
theorem lw_p15 : lw_okq (⟨"PolyDesk$Bench", "beginTotal", "()V"⟩, 5) := ⟨⟨by decide +kernel, by decide +kernel⟩, List.mem_of_getElem? (i := 50) (by decide +kernel), List.mem_of_getElem? (i := 206) (by decide +kernel), List.mem_of_getElem? (i := 207) (by decide +kernel)⟩
def lw_privs_1 : List (MethodName × Nat) := [(⟨"PolyDesk$Bench", "beginProduct", "(JI)V"⟩, 5), (⟨"PolyDesk$Poly", "clear", "()V"⟩, 5), (⟨"PolyDesk$Poly", "append", "(JJ)Z"⟩, 5), (⟨"PolyDesk", "store", "(ILPolyDesk$Poly;)I"⟩, 7), (⟨"PolyDesk$Poly", "copied", "()LPolyDesk$Poly;"⟩, 5), (⟨"PolyDesk", "combine", "(IIII)I"⟩, 7), (⟨"PolyDesk$Bench", "makeTotal", "(LPolyDesk$Poly;LPolyDesk$Poly;I)Z"⟩, 5), (⟨"PolyDesk$Poly", "takeSum", "(LPolyDesk$Poly;LPolyDesk$Poly;I)Z"⟩, 5), (⟨"PolyDesk$Bench", "makeProduct", "(LPolyDesk$Poly;LPolyDesk$Poly;)Z"⟩, 5), (⟨"PolyDesk$Bench", "fillProduct", "(LPolyDesk$Poly;LPolyDesk$Poly;LPolyDesk$Poly;)Z"⟩, 5), (⟨"PolyDesk$Poly", "takeTops", "(LPolyDesk$Poly;LPolyDesk$Poly;)Z"⟩, 5), (⟨"PolyDesk$Poly", "findTops", "()V"⟩, 5), (⟨"PolyDesk$Bench", "merge", "(LPolyDesk$Poly;LPolyDesk$Poly;LPolyDesk$Poly;)Z"⟩, 5), (⟨"PolyDesk$Bench", "greatestCode", "(LPolyDesk$Poly;LPolyDesk$Poly;)J"⟩, 5), (⟨"PolyDesk$Bench", "gather", "(JLPolyDesk$Poly;LPolyDesk$Poly;)J"⟩, 5), (⟨"PolyDesk$Bench", "beginTotal", "()V"⟩, 5)]
theorem lw_r1 : ∀ q ∈ lw_privs_1, lw_okq q := List.forall_mem_cons.mpr ⟨lw_p0, List.forall_mem_cons.mpr ⟨lw_p1, List.forall_mem_cons.mpr ⟨lw_p2, List.forall_mem_cons.mpr ⟨lw_p3, List.forall_mem_cons.mpr ⟨lw_p4, List.forall_mem_cons.mpr ⟨lw_p5, List.forall_mem_cons.mpr ⟨lw_p6, List.forall_mem_cons.mpr ⟨lw_p7, List.forall_mem_cons.mpr ⟨lw_p8, List.forall_mem_cons.mpr ⟨lw_p9, List.forall_mem_cons.mpr ⟨lw_p10, List.forall_mem_cons.mpr ⟨lw_p11, List.forall_mem_cons.mpr ⟨lw_p12, List.forall_mem_cons.mpr ⟨lw_p13, List.forall_mem_cons.mpr ⟨lw_p14, List.forall_mem_cons.mpr ⟨lw_p15, fun _ h => absurd h List.not_mem_nil⟩⟩⟩⟩⟩⟩⟩⟩⟩⟩⟩⟩⟩⟩⟩⟩
theorem lw_p16 : lw_okq (⟨"PolyDesk", "workTerm", "(LPolyDesk$Poly;I)Z"⟩, 7) := ⟨⟨by decide +kernel, by decide +kernel⟩, List.mem_of_getElem? (i := 7) (by decide +kernel), List.mem_of_getElem? (i := 210) (by decide +kernel), List.mem_of_getElem? (i := 211) (by decide +kernel)⟩
theorem lw_p17 : lw_okq (⟨"PolyDesk$Poly", "coefficientAt", "(I)I"⟩, 5) := ⟨⟨by decide +kernel, by decide +kernel⟩, List.mem_of_getElem? (i := 15) (by decide +kernel), List.mem_of_getElem? (i := 214) (by decide +kernel), List.mem_of_getElem? (i := 215) (by decide +kernel)⟩
theorem lw_p18 : lw_okq (⟨"PolyDesk$Poly", "hasTerm", "(I)Z"⟩, 5) := ⟨⟨by decide +kernel, by decide +kernel⟩, List.mem_of_getElem? (i := 15) (by decide +kernel), List.mem_of_getElem? (i := 218) (by decide +kernel), List.mem_of_getElem? (i := 219) (by decide +kernel)⟩
theorem lw_p19 : lw_okq (⟨"PolyDesk$Poly", "powerAt", "(II)I"⟩, 5) := ⟨⟨by decide +kernel, by decide +kernel⟩, List.mem_of_getElem? (i := 15) (by decide +kernel), List.mem_of_getElem? (i := 222) (by decide +kernel), List.mem_of_getElem? (i := 223) (by decide +kernel)⟩
theorem lw_p20 : lw_okq (⟨"PolyDesk$Bench", "multiplyBy", "(LPolyDesk$Poly;)Z"⟩, 5) := ⟨⟨by decide +kernel, by decide +kernel⟩, List.mem_of_getElem? (i := 50) (by decide +kernel), List.mem_of_getElem? (i := 227) (by decide +kernel), List.mem_of_getElem? (i := 228) (by decide +kernel)⟩
theorem lw_p21 : lw_okq (⟨"PolyDesk$Bench", "addProduct", "()Z"⟩, 5) := ⟨⟨by decide +kernel, by decide +kernel⟩, List.mem_of_getElem? (i := 50) (by decide +kernel), List.mem_of_getElem? (i := 231) (by decide +kernel), List.mem_of_getElem? (i := 232) (by decide +kernel)⟩
theorem lw_p22 : lw_okq (⟨"PolyDesk$Poly", "matches", "(LPolyDesk$Poly;)Z"⟩, 5) := ⟨⟨by decide +kernel, by decide +kernel⟩, List.mem_of_getElem? (i := 15) (by decide +kernel), List.mem_of_getElem? (i := 247) (by decide +kernel), List.mem_of_getElem? (i := 248) (by decide +kernel)⟩
theorem lw_p23 : lw_okq (⟨"PolyDesk$Poly", "valueWith", "(I)J"⟩, 5) := ⟨⟨by decide +kernel, by decide +kernel⟩, List.mem_of_getElem? (i := 15) (by decide +kernel), List.mem_of_getElem? (i := 255) (by decide +kernel), List.mem_of_getElem? (i := 256) (by decide +kernel)⟩
theorem lw_p24 : lw_okq (⟨"PolyDesk", "judge", "(LPolyDesk$Poly;I)I"⟩, 7) := ⟨⟨by decide +kernel, by decide +kernel⟩, List.mem_of_getElem? (i := 7) (by decide +kernel), List.mem_of_getElem? (i := 276) (by decide +kernel), List.mem_of_getElem? (i := 277) (by decide +kernel)⟩
theorem lw_p25 : lw_okq (⟨"PolyDesk", "factorsAreThere", "()Z"⟩, 7) := ⟨⟨by decide +kernel, by decide +kernel⟩, List.mem_of_getElem? (i := 7) (by decide +kernel), List.mem_of_getElem? (i := 280) (by decide +kernel), List.mem_of_getElem? (i := 281) (by decide +kernel)⟩
theorem lw_p26 : lw_okq (⟨"PolyDesk", "workPart", "(I)Z"⟩, 7) := ⟨⟨by decide +kernel, by decide +kernel⟩, List.mem_of_getElem? (i := 7) (by decide +kernel), List.mem_of_getElem? (i := 284) (by decide +kernel), List.mem_of_getElem? (i := 285) (by decide +kernel)⟩
theorem lw_p27 : lw_okq (⟨"PolyDeskModel", "whole", "(IJ)Z"⟩, 16) := ⟨⟨by decide +kernel, by decide +kernel⟩, List.mem_of_getElem? (i := 292) (by decide +kernel), List.mem_of_getElem? (i := 354) (by decide +kernel), List.mem_of_getElem? (i := 355) (by decide +kernel)⟩
theorem lw_p28 : lw_okq (⟨"PolyDeskModel", "begin", "()V"⟩, 16) := ⟨⟨by decide +kernel, by decide +kernel⟩, List.mem_of_getElem? (i := 292) (by decide +kernel), List.mem_of_getElem? (i := 358) (by decide +kernel), List.mem_of_getElem? (i := 359) (by decide +kernel)⟩
theorem lw_p29 : lw_okq (⟨"PolyDeskModel", "add", "(JJJ)V"⟩, 16) := ⟨⟨by decide +kernel, by decide +kernel⟩, List.mem_of_getElem? (i := 292) (by decide +kernel), List.mem_of_getElem? (i := 362) (by decide +kernel), List.mem_of_getElem? (i := 363) (by decide +kernel)⟩
theorem lw_p30 : lw_okq (⟨"PolyDeskModel", "to", "(I)Z"⟩, 16) := ⟨⟨by decide +kernel, by decide +kernel⟩, List.mem_of_getElem? (i := 292) (by decide +kernel), List.mem_of_getElem? (i := 366) (by decide +kernel), List.mem_of_getElem? (i := 367) (by decide +kernel)⟩
theorem lw_p31 : lw_okq (⟨"PolyDeskModel", "swap", "(II)V"⟩, 16) := ⟨⟨by decide +kernel, by decide +kernel⟩, List.mem_of_getElem? (i := 292) (by decide +kernel), List.mem_of_getElem? (i := 370) (by decide +kernel), List.mem_of_getElem? (i := 371) (by decide +kernel)⟩
def lw_privs_2 : List (MethodName × Nat) := [(⟨"PolyDesk", "workTerm", "(LPolyDesk$Poly;I)Z"⟩, 7), (⟨"PolyDesk$Poly", "coefficientAt", "(I)I"⟩, 5), (⟨"PolyDesk$Poly", "hasTerm", "(I)Z"⟩, 5), (⟨"PolyDesk$Poly", "powerAt", "(II)I"⟩, 5), (⟨"PolyDesk$Bench", "multiplyBy", "(LPolyDesk$Poly;)Z"⟩, 5), (⟨"PolyDesk$Bench", "addProduct", "()Z"⟩, 5), (⟨"PolyDesk$Poly", "matches", "(LPolyDesk$Poly;)Z"⟩, 5), (⟨"PolyDesk$Poly", "valueWith", "(I)J"⟩, 5), (⟨"PolyDesk", "judge", "(LPolyDesk$Poly;I)I"⟩, 7), (⟨"PolyDesk", "factorsAreThere", "()Z"⟩, 7), (⟨"PolyDesk", "workPart", "(I)Z"⟩, 7), (⟨"PolyDeskModel", "whole", "(IJ)Z"⟩, 16), (⟨"PolyDeskModel", "begin", "()V"⟩, 16), (⟨"PolyDeskModel", "add", "(JJJ)V"⟩, 16), (⟨"PolyDeskModel", "to", "(I)Z"⟩, 16), (⟨"PolyDeskModel", "swap", "(II)V"⟩, 16)]
theorem lw_r2 : ∀ q ∈ lw_privs_2, lw_okq q := List.forall_mem_cons.mpr ⟨lw_p16, List.forall_mem_cons.mpr ⟨lw_p17, List.forall_mem_cons.mpr ⟨lw_p18, List.forall_mem_cons.mpr ⟨lw_p19, List.forall_mem_cons.mpr ⟨lw_p20, List.forall_mem_cons.mpr ⟨lw_p21, List.forall_mem_cons.mpr ⟨lw_p22, List.forall_mem_cons.mpr ⟨lw_p23, List.forall_mem_cons.mpr ⟨lw_p24, List.forall_mem_cons.mpr ⟨lw_p25, List.forall_mem_cons.mpr ⟨lw_p26, List.forall_mem_cons.mpr ⟨lw_p27, List.forall_mem_cons.mpr ⟨lw_p28, List.forall_mem_cons.mpr ⟨lw_p29, List.forall_mem_cons.mpr ⟨lw_p30, List.forall_mem_cons.mpr ⟨lw_p31, fun _ h => absurd h List.not_mem_nil⟩⟩⟩⟩⟩⟩⟩⟩⟩⟩⟩⟩⟩⟩⟩⟩
theorem lw_p32 : lw_okq (⟨"PolyDeskModel", "isAhead", "(II)Z"⟩, 16) := ⟨⟨by decide +kernel, by decide +kernel⟩, List.mem_of_getElem? (i := 292) (by decide +kernel), List.mem_of_getElem? (i := 376) (by decide +kernel), List.mem_of_getElem? (i := 377) (by decide +kernel)⟩
theorem lw_p33 : lw_okq (⟨"PolyDeskModel", "sum", "(IIIJ)Z"⟩, 16) := ⟨⟨by decide +kernel, by decide +kernel⟩, List.mem_of_getElem? (i := 292) (by decide +kernel), List.mem_of_getElem? (i := 392) (by decide +kernel), List.mem_of_getElem? (i := 393) (by decide +kernel)⟩
theorem lw_p34 : lw_okq (⟨"PolyDeskModel", "addAll", "(IJ)V"⟩, 16) := ⟨⟨by decide +kernel, by decide +kernel⟩, List.mem_of_getElem? (i := 292) (by decide +kernel), List.mem_of_getElem? (i := 396) (by decide +kernel), List.mem_of_getElem? (i := 397) (by decide +kernel)⟩
theorem lw_p35 : lw_okq (⟨"PolyDeskModel", "product", "(III)Z"⟩, 16) := ⟨⟨by decide +kernel, by decide +kernel⟩, List.mem_of_getElem? (i := 292) (by decide +kernel), List.mem_of_getElem? (i := 409) (by decide +kernel), List.mem_of_getElem? (i := 410) (by decide +kernel)⟩
theorem lw_p36 : lw_okq (⟨"PolyDeskModel", "power", "(II)I"⟩, 16) := ⟨⟨by decide +kernel, by decide +kernel⟩, List.mem_of_getElem? (i := 292) (by decide +kernel), List.mem_of_getElem? (i := 421) (by decide +kernel), List.mem_of_getElem? (i := 422) (by decide +kernel)⟩
theorem lw_p37 : lw_okq (⟨"PolyDeskModel", "copy", "(II)V"⟩, 16) := ⟨⟨by decide +kernel, by decide +kernel⟩, List.mem_of_getElem? (i := 292) (by decide +kernel), List.mem_of_getElem? (i := 425) (by decide +kernel), List.mem_of_getElem? (i := 426) (by decide +kernel)⟩
theorem lw_p38 : lw_okq (⟨"PolyDeskModel", "isSame", "(II)Z"⟩, 16) := ⟨⟨by decide +kernel, by decide +kernel⟩, List.mem_of_getElem? (i := 292) (by decide +kernel), List.mem_of_getElem? (i := 441) (by decide +kernel), List.mem_of_getElem? (i := 442) (by decide +kernel)⟩
theorem lw_p39 : lw_okq (⟨"PolyDeskModel", "hypOf", "(II)I"⟩, 16) := ⟨⟨by decide +kernel, by decide +kernel⟩, List.mem_of_getElem? (i := 292) (by decide +kernel), List.mem_of_getElem? (i := 466) (by decide +kernel), List.mem_of_getElem? (i := 467) (by decide +kernel)⟩
def lw_privs_3 : List (MethodName × Nat) := [(⟨"PolyDeskModel", "isAhead", "(II)Z"⟩, 16), (⟨"PolyDeskModel", "sum", "(IIIJ)Z"⟩, 16), (⟨"PolyDeskModel", "addAll", "(IJ)V"⟩, 16), (⟨"PolyDeskModel", "product", "(III)Z"⟩, 16), (⟨"PolyDeskModel", "power", "(II)I"⟩, 16), (⟨"PolyDeskModel", "copy", "(II)V"⟩, 16), (⟨"PolyDeskModel", "isSame", "(II)Z"⟩, 16), (⟨"PolyDeskModel", "hypOf", "(II)I"⟩, 16)]
theorem lw_r3 : ∀ q ∈ lw_privs_3, lw_okq q := List.forall_mem_cons.mpr ⟨lw_p32, List.forall_mem_cons.mpr ⟨lw_p33, List.forall_mem_cons.mpr ⟨lw_p34, List.forall_mem_cons.mpr ⟨lw_p35, List.forall_mem_cons.mpr ⟨lw_p36, List.forall_mem_cons.mpr ⟨lw_p37, List.forall_mem_cons.mpr ⟨lw_p38, List.forall_mem_cons.mpr ⟨lw_p39, fun _ h => absurd h List.not_mem_nil⟩⟩⟩⟩⟩⟩⟩⟩
def lw_privs : List (MethodName × Nat) := lw_privs_1 ++ (lw_privs_2 ++ (lw_privs_3))
def lw_tbl : List Cond := k2_sels lw_privs ++ tables_1
theorem lw_privs_ok : ∀ q ∈ lw_privs, lw_okq q := by
  show ∀ q ∈ lw_privs_1 ++ (lw_privs_2 ++ (lw_privs_3)), lw_okq q
  exact List.forall_mem_append.mpr ⟨lw_r1, List.forall_mem_append.mpr ⟨lw_r2, lw_r3⟩⟩
end
section
def RX0 : String := "PolyDesk$Bench"
def TX0 : u_T := fun k => match k with
  | 0 => ("PolyDesk$Bench", "product", "LPolyDesk$Poly;", false)
  | 1 => ("PolyDesk$Bench", "total", "LPolyDesk$Poly;", false)
  | 2 => ("PolyDesk$Bench", "spare", "LPolyDesk$Poly;", false)
  | 3 => ("PolyDesk$Bench", "met", "[I", true)
  | _ => ("PolyDesk$Bench", "begun", "I", false)
def tyX0 : Nat → FieldType := fun k => match k with
  | 0 => .object "PolyDesk$Poly"
  | 1 => .object "PolyDesk$Poly"
  | 2 => .object "PolyDesk$Poly"
  | 3 => .array .int
  | _ => .int
abbrev wsX00 : List Cond := u_ws RX0 TX0 5
theorem nmX0 : ∀ a, a < 5 → ∀ b, b < 5 → a ≠ b → (TX0 a).2.1 ≠ (TX0 b).2.1 := by decide +kernel
theorem tyX0_ok : ∀ k, k < 5 → parseFieldDescriptor (TX0 k).2.2.1 = some (tyX0 k) := by decide +kernel
abbrev cX0_init : ByteArray := prog_2_method_1_code
def yX0_init : MethodName := ⟨RX0, "<init>", "()V"⟩
abbrev cX0_beginProduct : ByteArray := prog_2_method_2_code
def yX0_beginProduct : MethodName := ⟨RX0, "beginProduct", "(JI)V"⟩
abbrev cX0_beginTotal : ByteArray := prog_2_method_3_code
def yX0_beginTotal : MethodName := ⟨RX0, "beginTotal", "()V"⟩
abbrev cX0_makeTotal : ByteArray := prog_2_method_4_code
def yX0_makeTotal : MethodName := ⟨RX0, "makeTotal", "(LPolyDesk$Poly;LPolyDesk$Poly;I)Z"⟩
abbrev cX0_makeProduct : ByteArray := prog_2_method_5_code
def yX0_makeProduct : MethodName := ⟨RX0, "makeProduct", "(LPolyDesk$Poly;LPolyDesk$Poly;)Z"⟩
abbrev cX0_multiplyBy : ByteArray := prog_2_method_6_code
def yX0_multiplyBy : MethodName := ⟨RX0, "multiplyBy", "(LPolyDesk$Poly;)Z"⟩
abbrev cX0_addProduct : ByteArray := prog_2_method_7_code
def yX0_addProduct : MethodName := ⟨RX0, "addProduct", "()Z"⟩
abbrev cX0_fillProduct : ByteArray := prog_2_method_8_code
def yX0_fillProduct : MethodName := ⟨RX0, "fillProduct", "(LPolyDesk$Poly;LPolyDesk$Poly;LPolyDesk$Poly;)Z"⟩
abbrev cX0_merge : ByteArray := prog_2_method_9_code
def yX0_merge : MethodName := ⟨RX0, "merge", "(LPolyDesk$Poly;LPolyDesk$Poly;LPolyDesk$Poly;)Z"⟩
abbrev cX0_greatestCode : ByteArray := prog_2_method_10_code
def yX0_greatestCode : MethodName := ⟨RX0, "greatestCode", "(LPolyDesk$Poly;LPolyDesk$Poly;)J"⟩
abbrev cX0_gather : ByteArray := prog_2_method_11_code
def yX0_gather : MethodName := ⟨RX0, "gather", "(JLPolyDesk$Poly;LPolyDesk$Poly;)J"⟩
def RX1 : String := "PolyDesk$Poly"
def TX1 : u_T := fun k => match k with
  | 0 => ("PolyDesk$Poly", "codes", "[J", true)
  | 1 => ("PolyDesk$Poly", "coefficients", "[I", true)
  | 2 => ("PolyDesk$Poly", "length", "I", false)
  | 3 => ("PolyDesk$Poly", "tops", "[I", true)
  | _ => ("PolyDesk$Poly", "topsKnown", "Z", false)
def tyX1 : Nat → FieldType := fun k => match k with
  | 0 => .array .long
  | 1 => .array .int
  | 2 => .int
  | 3 => .array .int
  | _ => .boolean
abbrev wsX10 : List Cond := u_ws RX1 TX1 5
theorem nmX1 : ∀ a, a < 5 → ∀ b, b < 5 → a ≠ b → (TX1 a).2.1 ≠ (TX1 b).2.1 := by decide +kernel
theorem tyX1_ok : ∀ k, k < 5 → parseFieldDescriptor (TX1 k).2.2.1 = some (tyX1 k) := by decide +kernel
abbrev cX1_init : ByteArray := prog_3_method_1_code
def yX1_init : MethodName := ⟨RX1, "<init>", "(I)V"⟩
abbrev cX1_clear : ByteArray := prog_3_method_2_code
def yX1_clear : MethodName := ⟨RX1, "clear", "()V"⟩
abbrev cX1_append : ByteArray := prog_3_method_3_code
def yX1_append : MethodName := ⟨RX1, "append", "(JJ)Z"⟩
abbrev cX1_copied : ByteArray := prog_3_method_4_code
def yX1_copied : MethodName := ⟨RX1, "copied", "()LPolyDesk$Poly;"⟩
abbrev cX1_hasTerm : ByteArray := prog_3_method_5_code
def yX1_hasTerm : MethodName := ⟨RX1, "hasTerm", "(I)Z"⟩
abbrev cX1_coefficientAt : ByteArray := prog_3_method_6_code
def yX1_coefficientAt : MethodName := ⟨RX1, "coefficientAt", "(I)I"⟩
abbrev cX1_powerAt : ByteArray := prog_3_method_7_code
def yX1_powerAt : MethodName := ⟨RX1, "powerAt", "(II)I"⟩
abbrev cX1_matches : ByteArray := prog_3_method_8_code
def yX1_matches : MethodName := ⟨RX1, "matches", "(LPolyDesk$Poly;)Z"⟩
abbrev cX1_valueWith : ByteArray := prog_3_method_9_code
def yX1_valueWith : MethodName := ⟨RX1, "valueWith", "(I)J"⟩
abbrev cX1_findTops : ByteArray := prog_3_method_10_code
def yX1_findTops : MethodName := ⟨RX1, "findTops", "()V"⟩
abbrev cX1_takeTops : ByteArray := prog_3_method_11_code
def yX1_takeTops : MethodName := ⟨RX1, "takeTops", "(LPolyDesk$Poly;LPolyDesk$Poly;)Z"⟩
abbrev cX1_takeSum : ByteArray := prog_3_method_12_code
def yX1_takeSum : MethodName := ⟨RX1, "takeSum", "(LPolyDesk$Poly;LPolyDesk$Poly;I)Z"⟩
def RX2 : String := "PolyDesk"
def TX2 : u_T := fun k => match k with
  | 0 => ("PolyDesk", "registers", "[LPolyDesk$Poly;", true)
  | 1 => ("PolyDesk", "hypotheses", "[LPolyDesk$Poly;", true)
  | 2 => ("PolyDesk", "hypothesisCount", "I", false)
  | 3 => ("PolyDesk", "partNumbers", "[I", true)
  | 4 => ("PolyDesk", "partFactors", "[I", true)
  | 5 => ("PolyDesk", "partCount", "I", false)
  | _ => ("PolyDesk", "bench", "LPolyDesk$Bench;", true)
def tyX2 : Nat → FieldType := fun k => match k with
  | 0 => .array (.object "PolyDesk$Poly")
  | 1 => .array (.object "PolyDesk$Poly")
  | 2 => .int
  | 3 => .array .int
  | 4 => .array .int
  | 5 => .int
  | _ => .object "PolyDesk$Bench"
abbrev wsX20 : List Cond := u_ws RX2 TX2 7
theorem nmX2 : ∀ a, a < 7 → ∀ b, b < 7 → a ≠ b → (TX2 a).2.1 ≠ (TX2 b).2.1 := by decide +kernel
theorem tyX2_ok : ∀ k, k < 7 → parseFieldDescriptor (TX2 k).2.2.1 = some (tyX2 k) := by decide +kernel
abbrev cX2_init : ByteArray := prog_1_method_1_code
def yX2_init : MethodName := ⟨RX2, "<init>", "()V"⟩
abbrev cX2_constant : ByteArray := prog_1_method_2_code
def yX2_constant : MethodName := ⟨RX2, "constant", "(II)I"⟩
abbrev cX2_symbol : ByteArray := prog_1_method_3_code
def yX2_symbol : MethodName := ⟨RX2, "symbol", "(II)I"⟩
abbrev cX2_plus : ByteArray := prog_1_method_4_code
def yX2_plus : MethodName := ⟨RX2, "plus", "(III)I"⟩
abbrev cX2_minus : ByteArray := prog_1_method_5_code
def yX2_minus : MethodName := ⟨RX2, "minus", "(III)I"⟩
abbrev cX2_times : ByteArray := prog_1_method_6_code
def yX2_times : MethodName := ⟨RX2, "times", "(III)I"⟩
abbrev cX2_put : ByteArray := prog_1_method_7_code
def yX2_put : MethodName := ⟨RX2, "put", "(II)I"⟩
abbrev cX2_size : ByteArray := prog_1_method_8_code
def yX2_size : MethodName := ⟨RX2, "size", "(I)I"⟩
abbrev cX2_term : ByteArray := prog_1_method_9_code
def yX2_term : MethodName := ⟨RX2, "term", "(III)I"⟩
abbrev cX2_same : ByteArray := prog_1_method_10_code
def yX2_same : MethodName := ⟨RX2, "same", "(II)I"⟩
abbrev cX2_value : ByteArray := prog_1_method_11_code
def yX2_value : MethodName := ⟨RX2, "value", "(II)J"⟩
abbrev cX2_hypothesis : ByteArray := prog_1_method_12_code
def yX2_hypothesis : MethodName := ⟨RX2, "hypothesis", "(I)I"⟩
abbrev cX2_keep : ByteArray := prog_1_method_13_code
def yX2_keep : MethodName := ⟨RX2, "keep", "(I)I"⟩
abbrev cX2_part : ByteArray := prog_1_method_14_code
def yX2_part : MethodName := ⟨RX2, "part", "(IIIII)I"⟩
abbrev cX2_show : ByteArray := prog_1_method_15_code
def yX2_show : MethodName := ⟨RX2, "show", "(II)I"⟩
abbrev cX2_count : ByteArray := prog_1_method_16_code
def yX2_count : MethodName := ⟨RX2, "count", "(I)I"⟩
abbrev cX2_isRegister : ByteArray := prog_1_method_17_code
def yX2_isRegister : MethodName := ⟨RX2, "isRegister", "(I)Z"⟩
abbrev cX2_isSymbol : ByteArray := prog_1_method_18_code
def yX2_isSymbol : MethodName := ⟨RX2, "isSymbol", "(I)Z"⟩
abbrev cX2_symbolCode : ByteArray := prog_1_method_19_code
def yX2_symbolCode : MethodName := ⟨RX2, "symbolCode", "(I)J"⟩
abbrev cX2_store : ByteArray := prog_1_method_20_code
def yX2_store : MethodName := ⟨RX2, "store", "(ILPolyDesk$Poly;)I"⟩
abbrev cX2_combine : ByteArray := prog_1_method_21_code
def yX2_combine : MethodName := ⟨RX2, "combine", "(IIII)I"⟩
abbrev cX2_workTerm : ByteArray := prog_1_method_22_code
def yX2_workTerm : MethodName := ⟨RX2, "workTerm", "(LPolyDesk$Poly;I)Z"⟩
abbrev cX2_judge : ByteArray := prog_1_method_23_code
def yX2_judge : MethodName := ⟨RX2, "judge", "(LPolyDesk$Poly;I)I"⟩
abbrev cX2_factorsAreThere : ByteArray := prog_1_method_24_code
def yX2_factorsAreThere : MethodName := ⟨RX2, "factorsAreThere", "()Z"⟩
abbrev cX2_workPart : ByteArray := prog_1_method_25_code
def yX2_workPart : MethodName := ⟨RX2, "workPart", "(I)Z"⟩
def RX3 : String := "PolyDeskModel"
def TX3 : u_T := fun k => match k with
  | 0 => ("PolyDeskModel", "many", "[I", true)
  | 1 => ("PolyDeskModel", "coefficient", "[J", true)
  | 2 => ("PolyDeskModel", "high", "[J", true)
  | 3 => ("PolyDeskModel", "low", "[J", true)
  | 4 => ("PolyDeskModel", "hyps", "I", false)
  | 5 => ("PolyDeskModel", "parts", "I", false)
  | 6 => ("PolyDeskModel", "number", "[I", true)
  | 7 => ("PolyDeskModel", "first", "[I", true)
  | 8 => ("PolyDeskModel", "second", "[I", true)
  | 9 => ("PolyDeskModel", "third", "[I", true)
  | 10 => ("PolyDeskModel", "fourth", "[I", true)
  | 11 => ("PolyDeskModel", "n", "I", false)
  | 12 => ("PolyDeskModel", "isBig", "Z", false)
  | 13 => ("PolyDeskModel", "c", "[J", true)
  | 14 => ("PolyDeskModel", "hi", "[J", true)
  | _ => ("PolyDeskModel", "lo", "[J", true)
def tyX3 : Nat → FieldType := fun k => match k with
  | 0 => .array .int
  | 1 => .array .long
  | 2 => .array .long
  | 3 => .array .long
  | 4 => .int
  | 5 => .int
  | 6 => .array .int
  | 7 => .array .int
  | 8 => .array .int
  | 9 => .array .int
  | 10 => .array .int
  | 11 => .int
  | 12 => .boolean
  | 13 => .array .long
  | 14 => .array .long
  | _ => .array .long
abbrev wsX30 : List Cond := u_ws RX3 TX3 16
theorem nmX3 : ∀ a, a < 16 → ∀ b, b < 16 → a ≠ b → (TX3 a).2.1 ≠ (TX3 b).2.1 := by decide +kernel
theorem tyX3_ok : ∀ k, k < 16 → parseFieldDescriptor (TX3 k).2.2.1 = some (tyX3 k) := by decide +kernel
abbrev cX3_init : ByteArray := prog_5_method_1_code
def yX3_init : MethodName := ⟨RX3, "<init>", "()V"⟩
abbrev cX3_begin : ByteArray := prog_5_method_2_code
def yX3_begin : MethodName := ⟨RX3, "begin", "()V"⟩
abbrev cX3_add : ByteArray := prog_5_method_3_code
def yX3_add : MethodName := ⟨RX3, "add", "(JJJ)V"⟩
abbrev cX3_isFar : ByteArray := prog_5_method_4_code
def yX3_isFar : MethodName := ⟨RX3, "isFar", "(J)Z"⟩
abbrev cX3_degree : ByteArray := prog_5_method_5_code
def yX3_degree : MethodName := ⟨RX3, "degree", "(JJ)I"⟩
abbrev cX3_isAhead : ByteArray := prog_5_method_6_code
def yX3_isAhead : MethodName := ⟨RX3, "isAhead", "(II)Z"⟩
abbrev cX3_swap : ByteArray := prog_5_method_7_code
def yX3_swap : MethodName := ⟨RX3, "swap", "(II)V"⟩
abbrev cX3_to : ByteArray := prog_5_method_8_code
def yX3_to : MethodName := ⟨RX3, "to", "(I)Z"⟩
abbrev cX3_addAll : ByteArray := prog_5_method_9_code
def yX3_addAll : MethodName := ⟨RX3, "addAll", "(IJ)V"⟩
abbrev cX3_sum : ByteArray := prog_5_method_10_code
def yX3_sum : MethodName := ⟨RX3, "sum", "(IIIJ)Z"⟩
abbrev cX3_product : ByteArray := prog_5_method_11_code
def yX3_product : MethodName := ⟨RX3, "product", "(III)Z"⟩
abbrev cX3_whole : ByteArray := prog_5_method_12_code
def yX3_whole : MethodName := ⟨RX3, "whole", "(IJ)Z"⟩
abbrev cX3_power : ByteArray := prog_5_method_13_code
def yX3_power : MethodName := ⟨RX3, "power", "(II)I"⟩
abbrev cX3_copy : ByteArray := prog_5_method_14_code
def yX3_copy : MethodName := ⟨RX3, "copy", "(II)V"⟩
abbrev cX3_is : ByteArray := prog_5_method_15_code
def yX3_is : MethodName := ⟨RX3, "is", "(I)Z"⟩
abbrev cX3_constant : ByteArray := prog_5_method_16_code
def yX3_constant : MethodName := ⟨RX3, "constant", "(II)I"⟩
abbrev cX3_symbol : ByteArray := prog_5_method_17_code
def yX3_symbol : MethodName := ⟨RX3, "symbol", "(II)I"⟩
abbrev cX3_plus : ByteArray := prog_5_method_18_code
def yX3_plus : MethodName := ⟨RX3, "plus", "(III)I"⟩
abbrev cX3_minus : ByteArray := prog_5_method_19_code
def yX3_minus : MethodName := ⟨RX3, "minus", "(III)I"⟩
abbrev cX3_times : ByteArray := prog_5_method_20_code
def yX3_times : MethodName := ⟨RX3, "times", "(III)I"⟩
abbrev cX3_put : ByteArray := prog_5_method_21_code
def yX3_put : MethodName := ⟨RX3, "put", "(II)I"⟩
abbrev cX3_size : ByteArray := prog_5_method_22_code
def yX3_size : MethodName := ⟨RX3, "size", "(I)I"⟩
abbrev cX3_term : ByteArray := prog_5_method_23_code
def yX3_term : MethodName := ⟨RX3, "term", "(III)I"⟩
abbrev cX3_isSame : ByteArray := prog_5_method_24_code
def yX3_isSame : MethodName := ⟨RX3, "isSame", "(II)Z"⟩
abbrev cX3_same : ByteArray := prog_5_method_25_code
def yX3_same : MethodName := ⟨RX3, "same", "(II)I"⟩
abbrev cX3_value : ByteArray := prog_5_method_26_code
def yX3_value : MethodName := ⟨RX3, "value", "(II)J"⟩
abbrev cX3_hypothesis : ByteArray := prog_5_method_27_code
def yX3_hypothesis : MethodName := ⟨RX3, "hypothesis", "(I)I"⟩
abbrev cX3_keep : ByteArray := prog_5_method_28_code
def yX3_keep : MethodName := ⟨RX3, "keep", "(I)I"⟩
abbrev cX3_part : ByteArray := prog_5_method_29_code
def yX3_part : MethodName := ⟨RX3, "part", "(IIIII)I"⟩
abbrev cX3_hypOf : ByteArray := prog_5_method_30_code
def yX3_hypOf : MethodName := ⟨RX3, "hypOf", "(II)I"⟩
abbrev cX3_show : ByteArray := prog_5_method_31_code
def yX3_show : MethodName := ⟨RX3, "show", "(II)I"⟩
abbrev cX3_count : ByteArray := prog_5_method_32_code
def yX3_count : MethodName := ⟨RX3, "count", "(I)I"⟩
def RJ9 : String := "java/lang/Math"
def TJ9 : u_T := fun k => match k with
  | _ => ("", "", "", false)
def tyJ9 : Nat → FieldType := fun k => match k with
  | _ => .int
theorem nmJ9 : ∀ a, a < 0 → ∀ b, b < 0 → a ≠ b → (TJ9 a).2.1 ≠ (TJ9 b).2.1 := by decide +kernel
theorem tyJ9_ok : ∀ k, k < 0 → parseFieldDescriptor (TJ9 k).2.2.1 = some (tyJ9 k) := by decide +kernel
abbrev cJ9_max_7cf53 : ByteArray := prog_6_method_65_code
def yJ9_max_7cf53 : MethodName := ⟨RJ9, "max", "(II)I"⟩
abbrev cJ9_max_f86c9 : ByteArray := prog_6_method_66_code
def yJ9_max_f86c9 : MethodName := ⟨RJ9, "max", "(JJ)J"⟩
abbrev cJ9_min_7cf53 : ByteArray := prog_6_method_69_code
def yJ9_min_7cf53 : MethodName := ⟨RJ9, "min", "(II)I"⟩
def RL : String := "PolyDeskLaw"
abbrev cL_law : ByteArray := code
def yL_law : MethodName := ⟨RL, "law", "([I)Z"⟩
abbrev vwCl : List vw_C := [(RX0, TX0, 5), (RX1, TX1, 5), (RX2, TX2, 7), (RX3, TX3, 16)]
end
section
/-- the words of the tables that every method keeps -/
def BW : List Cond := lw_tbl.filter goodWord
theorem BW_of {w : Cond} (h : w ∈ tables_1) (hg : goodWord w = true) : w ∈ BW := List.mem_filter.mpr ⟨List.mem_append_right _ h, hg⟩
theorem BW_in : ∀ w ∈ BW, w ∈ lw_tbl := fun _ h => (List.mem_filter.mp h).1
theorem BW_good : ∀ w ∈ BW, (w.onTables && w.keeps) = true ∨ ∃ ty, w = .arrayClass ty := fun _ h => good_of_word (List.mem_filter.mp h).2
theorem mW0 : (Jvm.Cond.initialized "PolyDeskLaw") ∈ BW := BW_of (List.mem_of_getElem? (i := 0) (by decide +kernel)) (by decide +kernel)
theorem mW1 : (Jvm.Cond.initialized "PolyDesk") ∈ BW := BW_of (List.mem_of_getElem? (i := 1) (by decide +kernel)) (by decide +kernel)
theorem mW2 : (Jvm.Cond.initialized "PolyDesk$Poly") ∈ BW := BW_of (List.mem_of_getElem? (i := 2) (by decide +kernel)) (by decide +kernel)
theorem mW3 : (Jvm.Cond.initialized "java/lang/Math") ∈ BW := BW_of (List.mem_of_getElem? (i := 3) (by decide +kernel)) (by decide +kernel)
theorem mW4 : (Jvm.Cond.initialized "PolyDesk$Bench") ∈ BW := BW_of (List.mem_of_getElem? (i := 4) (by decide +kernel)) (by decide +kernel)
theorem mW5 : (Jvm.Cond.initialized "PolyDeskModel") ∈ BW := BW_of (List.mem_of_getElem? (i := 5) (by decide +kernel)) (by decide +kernel)
theorem mW6 : (Jvm.Cond.classLink "PolyDeskLaw" (7 : Nat) "PolyDesk") ∈ BW := BW_of (List.mem_of_getElem? (i := 6) (by decide +kernel)) (by decide +kernel)
theorem mW7 : (Jvm.Cond.instantiable "PolyDesk" (7 : Nat)) ∈ BW := BW_of (List.mem_of_getElem? (i := 7) (by decide +kernel)) (by decide +kernel)
theorem mW8 : (Jvm.Cond.methodLink "PolyDeskLaw" (9 : Nat) ({ cls := "PolyDesk", name := "<init>", desc := "()V" } : Jvm.MethodName)) ∈ BW := BW_of (List.mem_of_getElem? (i := 8) (by decide +kernel)) (by decide +kernel)
theorem mW9 : (Jvm.Cond.instanceMethod ({ cls := "PolyDesk", name := "<init>", desc := "()V" } : Jvm.MethodName)) ∈ BW := BW_of (List.mem_of_getElem? (i := 9) (by decide +kernel)) (by decide +kernel)
theorem mW10 : (Jvm.Cond.code ({ cls := "PolyDesk", name := "<init>", desc := "()V" } : Jvm.MethodName) prog_1_method_1_code (3 : Nat) (Option.none : Option Jvm.ClassFile.FieldType)) ∈ BW := BW_of (List.mem_of_getElem? (i := 10) (by decide +kernel)) (by decide +kernel)
theorem mW11 : (Jvm.Cond.methodLink "PolyDesk" (1 : Nat) ({ cls := "java/lang/Object", name := "<init>", desc := "()V" } : Jvm.MethodName)) ∈ BW := BW_of (List.mem_of_getElem? (i := 11) (by decide +kernel)) (by decide +kernel)
theorem mW12 : (Jvm.Cond.instanceMethod ({ cls := "java/lang/Object", name := "<init>", desc := "()V" } : Jvm.MethodName)) ∈ BW := BW_of (List.mem_of_getElem? (i := 12) (by decide +kernel)) (by decide +kernel)
theorem mW13 : (Jvm.Cond.code ({ cls := "java/lang/Object", name := "<init>", desc := "()V" } : Jvm.MethodName) object_method_1_code (1 : Nat) (Option.none : Option Jvm.ClassFile.FieldType)) ∈ BW := BW_of (List.mem_of_getElem? (i := 13) (by decide +kernel)) (by decide +kernel)
theorem mW14 : (Jvm.Cond.classLink "PolyDesk" (7 : Nat) "PolyDesk$Poly") ∈ BW := BW_of (List.mem_of_getElem? (i := 14) (by decide +kernel)) (by decide +kernel)
theorem mW15 : (Jvm.Cond.instantiable "PolyDesk$Poly" (5 : Nat)) ∈ BW := BW_of (List.mem_of_getElem? (i := 15) (by decide +kernel)) (by decide +kernel)
theorem mW17 : (Jvm.Cond.instanceMethod ({ cls := "PolyDesk$Poly", name := "<init>", desc := "(I)V" } : Jvm.MethodName)) ∈ BW := BW_of (List.mem_of_getElem? (i := 17) (by decide +kernel)) (by decide +kernel)
theorem mW18 : (Jvm.Cond.code ({ cls := "PolyDesk$Poly", name := "<init>", desc := "(I)V" } : Jvm.MethodName) prog_3_method_1_code (3 : Nat) (Option.none : Option Jvm.ClassFile.FieldType)) ∈ BW := BW_of (List.mem_of_getElem? (i := 18) (by decide +kernel)) (by decide +kernel)
theorem mW19 : (Jvm.Cond.methodLink "PolyDesk$Poly" (3 : Nat) ({ cls := "java/lang/Object", name := "<init>", desc := "()V" } : Jvm.MethodName)) ∈ BW := BW_of (List.mem_of_getElem? (i := 19) (by decide +kernel)) (by decide +kernel)
theorem mW20 : (Jvm.Cond.methodLink "PolyDesk$Poly" (9 : Nat) ({ cls := "java/lang/Math", name := "min", desc := "(II)I" } : Jvm.MethodName)) ∈ BW := BW_of (List.mem_of_getElem? (i := 20) (by decide +kernel)) (by decide +kernel)
theorem mW21 : (Jvm.Cond.static ({ cls := "java/lang/Math", name := "min", desc := "(II)I" } : Jvm.MethodName)) ∈ BW := BW_of (List.mem_of_getElem? (i := 21) (by decide +kernel)) (by decide +kernel)
theorem mW22 : (Jvm.Cond.code ({ cls := "java/lang/Math", name := "min", desc := "(II)I" } : Jvm.MethodName) prog_6_method_69_code (2 : Nat) (Option.some Jvm.ClassFile.FieldType.int)) ∈ BW := BW_of (List.mem_of_getElem? (i := 22) (by decide +kernel)) (by decide +kernel)
theorem mW23 : (Jvm.Cond.methodLink "PolyDesk$Poly" (15 : Nat) ({ cls := "java/lang/Math", name := "max", desc := "(II)I" } : Jvm.MethodName)) ∈ BW := BW_of (List.mem_of_getElem? (i := 23) (by decide +kernel)) (by decide +kernel)
theorem mW24 : (Jvm.Cond.static ({ cls := "java/lang/Math", name := "max", desc := "(II)I" } : Jvm.MethodName)) ∈ BW := BW_of (List.mem_of_getElem? (i := 24) (by decide +kernel)) (by decide +kernel)
theorem mW25 : (Jvm.Cond.code ({ cls := "java/lang/Math", name := "max", desc := "(II)I" } : Jvm.MethodName) prog_6_method_65_code (2 : Nat) (Option.some Jvm.ClassFile.FieldType.int)) ∈ BW := BW_of (List.mem_of_getElem? (i := 25) (by decide +kernel)) (by decide +kernel)
theorem mW26 : (Jvm.Cond.fieldLink "PolyDesk$Poly" (18 : Nat) "PolyDesk$Poly" "codes" "[J") ∈ BW := BW_of (List.mem_of_getElem? (i := 26) (by decide +kernel)) (by decide +kernel)
theorem mW28 : (Jvm.Cond.fieldLink "PolyDesk$Poly" (24 : Nat) "PolyDesk$Poly" "coefficients" "[I") ∈ BW := BW_of (List.mem_of_getElem? (i := 28) (by decide +kernel)) (by decide +kernel)
theorem mW30 : (Jvm.Cond.fieldLink "PolyDesk$Poly" (28 : Nat) "PolyDesk$Poly" "length" "I") ∈ BW := BW_of (List.mem_of_getElem? (i := 30) (by decide +kernel)) (by decide +kernel)
theorem mW33 : (Jvm.Cond.fieldLink "PolyDesk$Poly" (32 : Nat) "PolyDesk$Poly" "tops" "[I") ∈ BW := BW_of (List.mem_of_getElem? (i := 33) (by decide +kernel)) (by decide +kernel)
theorem mW34 : (Jvm.Cond.fieldLink "PolyDesk$Poly" (35 : Nat) "PolyDesk$Poly" "topsKnown" "Z") ∈ BW := BW_of (List.mem_of_getElem? (i := 34) (by decide +kernel)) (by decide +kernel)
theorem mW35 : (Jvm.Cond.laysFinal "PolyDesk$Poly" "PolyDesk$Poly" "codes" "[J") ∈ BW := BW_of (List.mem_of_getElem? (i := 35) (by decide +kernel)) (by decide +kernel)
theorem mW37 : (Jvm.Cond.laysFinal "PolyDesk$Poly" "PolyDesk$Poly" "coefficients" "[I") ∈ BW := BW_of (List.mem_of_getElem? (i := 37) (by decide +kernel)) (by decide +kernel)
theorem mW39 : (Jvm.Cond.lays "PolyDesk$Poly" "PolyDesk$Poly" "length" "I") ∈ BW := BW_of (List.mem_of_getElem? (i := 39) (by decide +kernel)) (by decide +kernel)
theorem mW41 : (Jvm.Cond.laysFinal "PolyDesk$Poly" "PolyDesk$Poly" "tops" "[I") ∈ BW := BW_of (List.mem_of_getElem? (i := 41) (by decide +kernel)) (by decide +kernel)
theorem mW43 : (Jvm.Cond.lays "PolyDesk$Poly" "PolyDesk$Poly" "topsKnown" "Z") ∈ BW := BW_of (List.mem_of_getElem? (i := 43) (by decide +kernel)) (by decide +kernel)
theorem mW46 : (Jvm.Cond.arrayClass Jvm.ClassFile.FieldType.long) ∈ BW := BW_of (List.mem_of_getElem? (i := 46) (by decide +kernel)) (by decide +kernel)
theorem mW47 : (Jvm.Cond.arrayClass Jvm.ClassFile.FieldType.int) ∈ BW := BW_of (List.mem_of_getElem? (i := 47) (by decide +kernel)) (by decide +kernel)
theorem mW49 : (Jvm.Cond.classLink "PolyDesk" (35 : Nat) "PolyDesk$Bench") ∈ BW := BW_of (List.mem_of_getElem? (i := 49) (by decide +kernel)) (by decide +kernel)
theorem mW50 : (Jvm.Cond.instantiable "PolyDesk$Bench" (5 : Nat)) ∈ BW := BW_of (List.mem_of_getElem? (i := 50) (by decide +kernel)) (by decide +kernel)
theorem mW52 : (Jvm.Cond.instanceMethod ({ cls := "PolyDesk$Bench", name := "<init>", desc := "()V" } : Jvm.MethodName)) ∈ BW := BW_of (List.mem_of_getElem? (i := 52) (by decide +kernel)) (by decide +kernel)
theorem mW53 : (Jvm.Cond.code ({ cls := "PolyDesk$Bench", name := "<init>", desc := "()V" } : Jvm.MethodName) prog_2_method_1_code (1 : Nat) (Option.none : Option Jvm.ClassFile.FieldType)) ∈ BW := BW_of (List.mem_of_getElem? (i := 53) (by decide +kernel)) (by decide +kernel)
theorem mW54 : (Jvm.Cond.methodLink "PolyDesk$Bench" (3 : Nat) ({ cls := "java/lang/Object", name := "<init>", desc := "()V" } : Jvm.MethodName)) ∈ BW := BW_of (List.mem_of_getElem? (i := 54) (by decide +kernel)) (by decide +kernel)
theorem mW55 : (Jvm.Cond.classLink "PolyDesk$Bench" (9 : Nat) "PolyDesk$Poly") ∈ BW := BW_of (List.mem_of_getElem? (i := 55) (by decide +kernel)) (by decide +kernel)
theorem mW57 : (Jvm.Cond.fieldLink "PolyDesk$Bench" (14 : Nat) "PolyDesk$Bench" "product" "LPolyDesk$Poly;") ∈ BW := BW_of (List.mem_of_getElem? (i := 57) (by decide +kernel)) (by decide +kernel)
theorem mW59 : (Jvm.Cond.fieldLink "PolyDesk$Bench" (20 : Nat) "PolyDesk$Bench" "total" "LPolyDesk$Poly;") ∈ BW := BW_of (List.mem_of_getElem? (i := 59) (by decide +kernel)) (by decide +kernel)
theorem mW61 : (Jvm.Cond.fieldLink "PolyDesk$Bench" (23 : Nat) "PolyDesk$Bench" "spare" "LPolyDesk$Poly;") ∈ BW := BW_of (List.mem_of_getElem? (i := 61) (by decide +kernel)) (by decide +kernel)
theorem mW62 : (Jvm.Cond.fieldLink "PolyDesk$Bench" (26 : Nat) "PolyDesk$Bench" "met" "[I") ∈ BW := BW_of (List.mem_of_getElem? (i := 62) (by decide +kernel)) (by decide +kernel)
theorem mW63 : (Jvm.Cond.fieldLink "PolyDesk$Bench" (30 : Nat) "PolyDesk$Bench" "begun" "I") ∈ BW := BW_of (List.mem_of_getElem? (i := 63) (by decide +kernel)) (by decide +kernel)
theorem mW64 : (Jvm.Cond.lays "PolyDesk$Bench" "PolyDesk$Bench" "product" "LPolyDesk$Poly;") ∈ BW := BW_of (List.mem_of_getElem? (i := 64) (by decide +kernel)) (by decide +kernel)
theorem mW66 : (Jvm.Cond.lays "PolyDesk$Bench" "PolyDesk$Bench" "total" "LPolyDesk$Poly;") ∈ BW := BW_of (List.mem_of_getElem? (i := 66) (by decide +kernel)) (by decide +kernel)
theorem mW68 : (Jvm.Cond.lays "PolyDesk$Bench" "PolyDesk$Bench" "spare" "LPolyDesk$Poly;") ∈ BW := BW_of (List.mem_of_getElem? (i := 68) (by decide +kernel)) (by decide +kernel)
theorem mW70 : (Jvm.Cond.laysFinal "PolyDesk$Bench" "PolyDesk$Bench" "met" "[I") ∈ BW := BW_of (List.mem_of_getElem? (i := 70) (by decide +kernel)) (by decide +kernel)
theorem mW72 : (Jvm.Cond.lays "PolyDesk$Bench" "PolyDesk$Bench" "begun" "I") ∈ BW := BW_of (List.mem_of_getElem? (i := 72) (by decide +kernel)) (by decide +kernel)
theorem mW75 : (Jvm.Cond.fieldLink "PolyDesk" (14 : Nat) "PolyDesk" "registers" "[LPolyDesk$Poly;") ∈ BW := BW_of (List.mem_of_getElem? (i := 75) (by decide +kernel)) (by decide +kernel)
theorem mW76 : (Jvm.Cond.fieldLink "PolyDesk" (18 : Nat) "PolyDesk" "hypotheses" "[LPolyDesk$Poly;") ∈ BW := BW_of (List.mem_of_getElem? (i := 76) (by decide +kernel)) (by decide +kernel)
theorem mW77 : (Jvm.Cond.fieldLink "PolyDesk" (21 : Nat) "PolyDesk" "hypothesisCount" "I") ∈ BW := BW_of (List.mem_of_getElem? (i := 77) (by decide +kernel)) (by decide +kernel)
theorem mW78 : (Jvm.Cond.fieldLink "PolyDesk" (25 : Nat) "PolyDesk" "partNumbers" "[I") ∈ BW := BW_of (List.mem_of_getElem? (i := 78) (by decide +kernel)) (by decide +kernel)
theorem mW79 : (Jvm.Cond.fieldLink "PolyDesk" (29 : Nat) "PolyDesk" "partFactors" "[I") ∈ BW := BW_of (List.mem_of_getElem? (i := 79) (by decide +kernel)) (by decide +kernel)
theorem mW80 : (Jvm.Cond.fieldLink "PolyDesk" (32 : Nat) "PolyDesk" "partCount" "I") ∈ BW := BW_of (List.mem_of_getElem? (i := 80) (by decide +kernel)) (by decide +kernel)
theorem mW81 : (Jvm.Cond.fieldLink "PolyDesk" (38 : Nat) "PolyDesk" "bench" "LPolyDesk$Bench;") ∈ BW := BW_of (List.mem_of_getElem? (i := 81) (by decide +kernel)) (by decide +kernel)
theorem mW82 : (Jvm.Cond.laysFinal "PolyDesk" "PolyDesk" "registers" "[LPolyDesk$Poly;") ∈ BW := BW_of (List.mem_of_getElem? (i := 82) (by decide +kernel)) (by decide +kernel)
theorem mW84 : (Jvm.Cond.laysFinal "PolyDesk" "PolyDesk" "hypotheses" "[LPolyDesk$Poly;") ∈ BW := BW_of (List.mem_of_getElem? (i := 84) (by decide +kernel)) (by decide +kernel)
theorem mW86 : (Jvm.Cond.lays "PolyDesk" "PolyDesk" "hypothesisCount" "I") ∈ BW := BW_of (List.mem_of_getElem? (i := 86) (by decide +kernel)) (by decide +kernel)
theorem mW88 : (Jvm.Cond.laysFinal "PolyDesk" "PolyDesk" "partNumbers" "[I") ∈ BW := BW_of (List.mem_of_getElem? (i := 88) (by decide +kernel)) (by decide +kernel)
theorem mW90 : (Jvm.Cond.laysFinal "PolyDesk" "PolyDesk" "partFactors" "[I") ∈ BW := BW_of (List.mem_of_getElem? (i := 90) (by decide +kernel)) (by decide +kernel)
theorem mW92 : (Jvm.Cond.lays "PolyDesk" "PolyDesk" "partCount" "I") ∈ BW := BW_of (List.mem_of_getElem? (i := 92) (by decide +kernel)) (by decide +kernel)
theorem mW94 : (Jvm.Cond.laysFinal "PolyDesk" "PolyDesk" "bench" "LPolyDesk$Bench;") ∈ BW := BW_of (List.mem_of_getElem? (i := 94) (by decide +kernel)) (by decide +kernel)
theorem mW97 : (Jvm.Cond.methodLink "PolyDeskLaw" (13 : Nat) ({ cls := "PolyDesk", name := "constant", desc := "(II)I" } : Jvm.MethodName)) ∈ BW := BW_of (List.mem_of_getElem? (i := 97) (by decide +kernel)) (by decide +kernel)
theorem mW98 : (Jvm.Cond.instanceMethod ({ cls := "PolyDesk", name := "constant", desc := "(II)I" } : Jvm.MethodName)) ∈ BW := BW_of (List.mem_of_getElem? (i := 98) (by decide +kernel)) (by decide +kernel)
theorem mW99 : (Jvm.Cond.selects "PolyDesk" ({ cls := "PolyDesk", name := "constant", desc := "(II)I" } : Jvm.MethodName) ({ cls := "PolyDesk", name := "constant", desc := "(II)I" } : Jvm.MethodName)) ∈ BW := BW_of (List.mem_of_getElem? (i := 99) (by decide +kernel)) (by decide +kernel)
theorem mW100 : (Jvm.Cond.code ({ cls := "PolyDesk", name := "constant", desc := "(II)I" } : Jvm.MethodName) prog_1_method_2_code (3 : Nat) (Option.some Jvm.ClassFile.FieldType.int)) ∈ BW := BW_of (List.mem_of_getElem? (i := 100) (by decide +kernel)) (by decide +kernel)
theorem mW101 : (Jvm.Cond.methodLink "PolyDesk" (42 : Nat) ({ cls := "PolyDesk", name := "isRegister", desc := "(I)Z" } : Jvm.MethodName)) ∈ BW := BW_of (List.mem_of_getElem? (i := 101) (by decide +kernel)) (by decide +kernel)
theorem mW102 : (Jvm.Cond.static ({ cls := "PolyDesk", name := "isRegister", desc := "(I)Z" } : Jvm.MethodName)) ∈ BW := BW_of (List.mem_of_getElem? (i := 102) (by decide +kernel)) (by decide +kernel)
theorem mW103 : (Jvm.Cond.code ({ cls := "PolyDesk", name := "isRegister", desc := "(I)Z" } : Jvm.MethodName) prog_1_method_17_code (1 : Nat) (Option.some Jvm.ClassFile.FieldType.boolean)) ∈ BW := BW_of (List.mem_of_getElem? (i := 103) (by decide +kernel)) (by decide +kernel)
theorem mW104 : (Jvm.Cond.constant "PolyDesk" (46 : Nat) (99999999 : Int32)) ∈ BW := BW_of (List.mem_of_getElem? (i := 104) (by decide +kernel)) (by decide +kernel)
theorem mW105 : (Jvm.Cond.constant "PolyDesk" (47 : Nat) (-99999999 : Int32)) ∈ BW := BW_of (List.mem_of_getElem? (i := 105) (by decide +kernel)) (by decide +kernel)
theorem mW108 : (Jvm.Cond.instanceMethod ({ cls := "PolyDesk$Bench", name := "beginProduct", desc := "(JI)V" } : Jvm.MethodName)) ∈ BW := BW_of (List.mem_of_getElem? (i := 108) (by decide +kernel)) (by decide +kernel)
theorem mW109 : (Jvm.Cond.code ({ cls := "PolyDesk$Bench", name := "beginProduct", desc := "(JI)V" } : Jvm.MethodName) prog_2_method_2_code (4 : Nat) (Option.none : Option Jvm.ClassFile.FieldType)) ∈ BW := BW_of (List.mem_of_getElem? (i := 109) (by decide +kernel)) (by decide +kernel)
theorem mW112 : (Jvm.Cond.instanceMethod ({ cls := "PolyDesk$Poly", name := "clear", desc := "()V" } : Jvm.MethodName)) ∈ BW := BW_of (List.mem_of_getElem? (i := 112) (by decide +kernel)) (by decide +kernel)
theorem mW113 : (Jvm.Cond.code ({ cls := "PolyDesk$Poly", name := "clear", desc := "()V" } : Jvm.MethodName) prog_3_method_2_code (1 : Nat) (Option.none : Option Jvm.ClassFile.FieldType)) ∈ BW := BW_of (List.mem_of_getElem? (i := 113) (by decide +kernel)) (by decide +kernel)
theorem mW116 : (Jvm.Cond.instanceMethod ({ cls := "PolyDesk$Poly", name := "append", desc := "(JJ)Z" } : Jvm.MethodName)) ∈ BW := BW_of (List.mem_of_getElem? (i := 116) (by decide +kernel)) (by decide +kernel)
theorem mW117 : (Jvm.Cond.code ({ cls := "PolyDesk$Poly", name := "append", desc := "(JJ)Z" } : Jvm.MethodName) prog_3_method_3_code (5 : Nat) (Option.some Jvm.ClassFile.FieldType.boolean)) ∈ BW := BW_of (List.mem_of_getElem? (i := 117) (by decide +kernel)) (by decide +kernel)
theorem mW118 : (Jvm.Cond.constantLong "PolyDesk$Poly" (39 : Nat) (99999999 : Int64)) ∈ BW := BW_of (List.mem_of_getElem? (i := 118) (by decide +kernel)) (by decide +kernel)
theorem mW119 : (Jvm.Cond.constantLong "PolyDesk$Poly" (41 : Nat) (-99999999 : Int64)) ∈ BW := BW_of (List.mem_of_getElem? (i := 119) (by decide +kernel)) (by decide +kernel)
theorem mW120 : (Jvm.Cond.methodLink "PolyDesk" (56 : Nat) ({ cls := "PolyDesk", name := "store", desc := "(ILPolyDesk$Poly;)I" } : Jvm.MethodName)) ∈ BW := BW_of (List.mem_of_getElem? (i := 120) (by decide +kernel)) (by decide +kernel)
theorem mW122 : (Jvm.Cond.instanceMethod ({ cls := "PolyDesk", name := "store", desc := "(ILPolyDesk$Poly;)I" } : Jvm.MethodName)) ∈ BW := BW_of (List.mem_of_getElem? (i := 122) (by decide +kernel)) (by decide +kernel)
theorem mW123 : (Jvm.Cond.code ({ cls := "PolyDesk", name := "store", desc := "(ILPolyDesk$Poly;)I" } : Jvm.MethodName) prog_1_method_20_code (3 : Nat) (Option.some Jvm.ClassFile.FieldType.int)) ∈ BW := BW_of (List.mem_of_getElem? (i := 123) (by decide +kernel)) (by decide +kernel)
theorem mW126 : (Jvm.Cond.instanceMethod ({ cls := "PolyDesk$Poly", name := "copied", desc := "()LPolyDesk$Poly;" } : Jvm.MethodName)) ∈ BW := BW_of (List.mem_of_getElem? (i := 126) (by decide +kernel)) (by decide +kernel)
theorem mW127 : (Jvm.Cond.code ({ cls := "PolyDesk$Poly", name := "copied", desc := "()LPolyDesk$Poly;" } : Jvm.MethodName) prog_3_method_4_code (3 : Nat) (Option.some (Jvm.ClassFile.FieldType.object "PolyDesk$Poly"))) ∈ BW := BW_of (List.mem_of_getElem? (i := 127) (by decide +kernel)) (by decide +kernel)
theorem mW128 : (Jvm.Cond.classLink "PolyDesk$Poly" (19 : Nat) "PolyDesk$Poly") ∈ BW := BW_of (List.mem_of_getElem? (i := 128) (by decide +kernel)) (by decide +kernel)
theorem mW129 : (Jvm.Cond.methodLink "PolyDesk$Poly" (43 : Nat) ({ cls := "PolyDesk$Poly", name := "<init>", desc := "(I)V" } : Jvm.MethodName)) ∈ BW := BW_of (List.mem_of_getElem? (i := 129) (by decide +kernel)) (by decide +kernel)
theorem mW130 : (Jvm.Cond.methodLink "PolyDesk$Poly" (46 : Nat) ({ cls := "PolyDesk$Poly", name := "append", desc := "(JJ)Z" } : Jvm.MethodName)) ∈ BW := BW_of (List.mem_of_getElem? (i := 130) (by decide +kernel)) (by decide +kernel)
theorem mW131 : (Jvm.Cond.methodLink "PolyDeskLaw" (18 : Nat) ({ cls := "PolyDesk", name := "symbol", desc := "(II)I" } : Jvm.MethodName)) ∈ BW := BW_of (List.mem_of_getElem? (i := 131) (by decide +kernel)) (by decide +kernel)
theorem mW132 : (Jvm.Cond.instanceMethod ({ cls := "PolyDesk", name := "symbol", desc := "(II)I" } : Jvm.MethodName)) ∈ BW := BW_of (List.mem_of_getElem? (i := 132) (by decide +kernel)) (by decide +kernel)
theorem mW133 : (Jvm.Cond.selects "PolyDesk" ({ cls := "PolyDesk", name := "symbol", desc := "(II)I" } : Jvm.MethodName) ({ cls := "PolyDesk", name := "symbol", desc := "(II)I" } : Jvm.MethodName)) ∈ BW := BW_of (List.mem_of_getElem? (i := 133) (by decide +kernel)) (by decide +kernel)
theorem mW134 : (Jvm.Cond.code ({ cls := "PolyDesk", name := "symbol", desc := "(II)I" } : Jvm.MethodName) prog_1_method_3_code (3 : Nat) (Option.some Jvm.ClassFile.FieldType.int)) ∈ BW := BW_of (List.mem_of_getElem? (i := 134) (by decide +kernel)) (by decide +kernel)
theorem mW135 : (Jvm.Cond.methodLink "PolyDesk" (60 : Nat) ({ cls := "PolyDesk", name := "isSymbol", desc := "(I)Z" } : Jvm.MethodName)) ∈ BW := BW_of (List.mem_of_getElem? (i := 135) (by decide +kernel)) (by decide +kernel)
theorem mW136 : (Jvm.Cond.static ({ cls := "PolyDesk", name := "isSymbol", desc := "(I)Z" } : Jvm.MethodName)) ∈ BW := BW_of (List.mem_of_getElem? (i := 136) (by decide +kernel)) (by decide +kernel)
theorem mW137 : (Jvm.Cond.code ({ cls := "PolyDesk", name := "isSymbol", desc := "(I)Z" } : Jvm.MethodName) prog_1_method_18_code (1 : Nat) (Option.some Jvm.ClassFile.FieldType.boolean)) ∈ BW := BW_of (List.mem_of_getElem? (i := 137) (by decide +kernel)) (by decide +kernel)
theorem mW138 : (Jvm.Cond.methodLink "PolyDesk" (63 : Nat) ({ cls := "PolyDesk", name := "symbolCode", desc := "(I)J" } : Jvm.MethodName)) ∈ BW := BW_of (List.mem_of_getElem? (i := 138) (by decide +kernel)) (by decide +kernel)
theorem mW139 : (Jvm.Cond.static ({ cls := "PolyDesk", name := "symbolCode", desc := "(I)J" } : Jvm.MethodName)) ∈ BW := BW_of (List.mem_of_getElem? (i := 139) (by decide +kernel)) (by decide +kernel)
theorem mW140 : (Jvm.Cond.code ({ cls := "PolyDesk", name := "symbolCode", desc := "(I)J" } : Jvm.MethodName) prog_1_method_19_code (4 : Nat) (Option.some Jvm.ClassFile.FieldType.long)) ∈ BW := BW_of (List.mem_of_getElem? (i := 140) (by decide +kernel)) (by decide +kernel)
theorem mW141 : (Jvm.Cond.constantLong "PolyDesk" (111 : Nat) (10 : Int64)) ∈ BW := BW_of (List.mem_of_getElem? (i := 141) (by decide +kernel)) (by decide +kernel)
theorem mW142 : (Jvm.Cond.constantLong "PolyDesk" (113 : Nat) (10000000000000000 : Int64)) ∈ BW := BW_of (List.mem_of_getElem? (i := 142) (by decide +kernel)) (by decide +kernel)
theorem mW143 : (Jvm.Cond.methodLink "PolyDeskLaw" (22 : Nat) ({ cls := "PolyDesk", name := "plus", desc := "(III)I" } : Jvm.MethodName)) ∈ BW := BW_of (List.mem_of_getElem? (i := 143) (by decide +kernel)) (by decide +kernel)
theorem mW144 : (Jvm.Cond.instanceMethod ({ cls := "PolyDesk", name := "plus", desc := "(III)I" } : Jvm.MethodName)) ∈ BW := BW_of (List.mem_of_getElem? (i := 144) (by decide +kernel)) (by decide +kernel)
theorem mW145 : (Jvm.Cond.selects "PolyDesk" ({ cls := "PolyDesk", name := "plus", desc := "(III)I" } : Jvm.MethodName) ({ cls := "PolyDesk", name := "plus", desc := "(III)I" } : Jvm.MethodName)) ∈ BW := BW_of (List.mem_of_getElem? (i := 145) (by decide +kernel)) (by decide +kernel)
theorem mW146 : (Jvm.Cond.code ({ cls := "PolyDesk", name := "plus", desc := "(III)I" } : Jvm.MethodName) prog_1_method_4_code (4 : Nat) (Option.some Jvm.ClassFile.FieldType.int)) ∈ BW := BW_of (List.mem_of_getElem? (i := 146) (by decide +kernel)) (by decide +kernel)
theorem mW147 : (Jvm.Cond.methodLink "PolyDesk" (67 : Nat) ({ cls := "PolyDesk", name := "combine", desc := "(IIII)I" } : Jvm.MethodName)) ∈ BW := BW_of (List.mem_of_getElem? (i := 147) (by decide +kernel)) (by decide +kernel)
theorem mW149 : (Jvm.Cond.instanceMethod ({ cls := "PolyDesk", name := "combine", desc := "(IIII)I" } : Jvm.MethodName)) ∈ BW := BW_of (List.mem_of_getElem? (i := 149) (by decide +kernel)) (by decide +kernel)
theorem mW150 : (Jvm.Cond.code ({ cls := "PolyDesk", name := "combine", desc := "(IIII)I" } : Jvm.MethodName) prog_1_method_21_code (5 : Nat) (Option.some Jvm.ClassFile.FieldType.int)) ∈ BW := BW_of (List.mem_of_getElem? (i := 150) (by decide +kernel)) (by decide +kernel)
theorem mW153 : (Jvm.Cond.instanceMethod ({ cls := "PolyDesk$Bench", name := "makeTotal", desc := "(LPolyDesk$Poly;LPolyDesk$Poly;I)Z" } : Jvm.MethodName)) ∈ BW := BW_of (List.mem_of_getElem? (i := 153) (by decide +kernel)) (by decide +kernel)
theorem mW154 : (Jvm.Cond.code ({ cls := "PolyDesk$Bench", name := "makeTotal", desc := "(LPolyDesk$Poly;LPolyDesk$Poly;I)Z" } : Jvm.MethodName) prog_2_method_4_code (4 : Nat) (Option.some Jvm.ClassFile.FieldType.boolean)) ∈ BW := BW_of (List.mem_of_getElem? (i := 154) (by decide +kernel)) (by decide +kernel)
theorem mW157 : (Jvm.Cond.instanceMethod ({ cls := "PolyDesk$Poly", name := "takeSum", desc := "(LPolyDesk$Poly;LPolyDesk$Poly;I)Z" } : Jvm.MethodName)) ∈ BW := BW_of (List.mem_of_getElem? (i := 157) (by decide +kernel)) (by decide +kernel)
theorem mW158 : (Jvm.Cond.code ({ cls := "PolyDesk$Poly", name := "takeSum", desc := "(LPolyDesk$Poly;LPolyDesk$Poly;I)Z" } : Jvm.MethodName) prog_3_method_12_code (14 : Nat) (Option.some Jvm.ClassFile.FieldType.boolean)) ∈ BW := BW_of (List.mem_of_getElem? (i := 158) (by decide +kernel)) (by decide +kernel)
theorem mW159 : (Jvm.Cond.methodLink "PolyDesk$Poly" (64 : Nat) ({ cls := "PolyDesk$Poly", name := "clear", desc := "()V" } : Jvm.MethodName)) ∈ BW := BW_of (List.mem_of_getElem? (i := 159) (by decide +kernel)) (by decide +kernel)
theorem mW160 : (Jvm.Cond.methodLink "PolyDeskLaw" (27 : Nat) ({ cls := "PolyDesk", name := "minus", desc := "(III)I" } : Jvm.MethodName)) ∈ BW := BW_of (List.mem_of_getElem? (i := 160) (by decide +kernel)) (by decide +kernel)
theorem mW161 : (Jvm.Cond.instanceMethod ({ cls := "PolyDesk", name := "minus", desc := "(III)I" } : Jvm.MethodName)) ∈ BW := BW_of (List.mem_of_getElem? (i := 161) (by decide +kernel)) (by decide +kernel)
theorem mW162 : (Jvm.Cond.selects "PolyDesk" ({ cls := "PolyDesk", name := "minus", desc := "(III)I" } : Jvm.MethodName) ({ cls := "PolyDesk", name := "minus", desc := "(III)I" } : Jvm.MethodName)) ∈ BW := BW_of (List.mem_of_getElem? (i := 162) (by decide +kernel)) (by decide +kernel)
theorem mW163 : (Jvm.Cond.code ({ cls := "PolyDesk", name := "minus", desc := "(III)I" } : Jvm.MethodName) prog_1_method_5_code (4 : Nat) (Option.some Jvm.ClassFile.FieldType.int)) ∈ BW := BW_of (List.mem_of_getElem? (i := 163) (by decide +kernel)) (by decide +kernel)
theorem mW164 : (Jvm.Cond.methodLink "PolyDeskLaw" (31 : Nat) ({ cls := "PolyDesk", name := "times", desc := "(III)I" } : Jvm.MethodName)) ∈ BW := BW_of (List.mem_of_getElem? (i := 164) (by decide +kernel)) (by decide +kernel)
theorem mW165 : (Jvm.Cond.instanceMethod ({ cls := "PolyDesk", name := "times", desc := "(III)I" } : Jvm.MethodName)) ∈ BW := BW_of (List.mem_of_getElem? (i := 165) (by decide +kernel)) (by decide +kernel)
theorem mW166 : (Jvm.Cond.selects "PolyDesk" ({ cls := "PolyDesk", name := "times", desc := "(III)I" } : Jvm.MethodName) ({ cls := "PolyDesk", name := "times", desc := "(III)I" } : Jvm.MethodName)) ∈ BW := BW_of (List.mem_of_getElem? (i := 166) (by decide +kernel)) (by decide +kernel)
theorem mW167 : (Jvm.Cond.code ({ cls := "PolyDesk", name := "times", desc := "(III)I" } : Jvm.MethodName) prog_1_method_6_code (4 : Nat) (Option.some Jvm.ClassFile.FieldType.int)) ∈ BW := BW_of (List.mem_of_getElem? (i := 167) (by decide +kernel)) (by decide +kernel)
theorem mW170 : (Jvm.Cond.instanceMethod ({ cls := "PolyDesk$Bench", name := "makeProduct", desc := "(LPolyDesk$Poly;LPolyDesk$Poly;)Z" } : Jvm.MethodName)) ∈ BW := BW_of (List.mem_of_getElem? (i := 170) (by decide +kernel)) (by decide +kernel)
theorem mW171 : (Jvm.Cond.code ({ cls := "PolyDesk$Bench", name := "makeProduct", desc := "(LPolyDesk$Poly;LPolyDesk$Poly;)Z" } : Jvm.MethodName) prog_2_method_5_code (3 : Nat) (Option.some Jvm.ClassFile.FieldType.boolean)) ∈ BW := BW_of (List.mem_of_getElem? (i := 171) (by decide +kernel)) (by decide +kernel)
theorem mW172 : (Jvm.Cond.methodLink "PolyDesk$Bench" (45 : Nat) ({ cls := "PolyDesk$Bench", name := "fillProduct", desc := "(LPolyDesk$Poly;LPolyDesk$Poly;LPolyDesk$Poly;)Z" } : Jvm.MethodName)) ∈ BW := BW_of (List.mem_of_getElem? (i := 172) (by decide +kernel)) (by decide +kernel)
theorem mW174 : (Jvm.Cond.instanceMethod ({ cls := "PolyDesk$Bench", name := "fillProduct", desc := "(LPolyDesk$Poly;LPolyDesk$Poly;LPolyDesk$Poly;)Z" } : Jvm.MethodName)) ∈ BW := BW_of (List.mem_of_getElem? (i := 174) (by decide +kernel)) (by decide +kernel)
theorem mW175 : (Jvm.Cond.code ({ cls := "PolyDesk$Bench", name := "fillProduct", desc := "(LPolyDesk$Poly;LPolyDesk$Poly;LPolyDesk$Poly;)Z" } : Jvm.MethodName) prog_2_method_8_code (4 : Nat) (Option.some Jvm.ClassFile.FieldType.boolean)) ∈ BW := BW_of (List.mem_of_getElem? (i := 175) (by decide +kernel)) (by decide +kernel)
theorem mW178 : (Jvm.Cond.instanceMethod ({ cls := "PolyDesk$Poly", name := "takeTops", desc := "(LPolyDesk$Poly;LPolyDesk$Poly;)Z" } : Jvm.MethodName)) ∈ BW := BW_of (List.mem_of_getElem? (i := 178) (by decide +kernel)) (by decide +kernel)
theorem mW179 : (Jvm.Cond.code ({ cls := "PolyDesk$Poly", name := "takeTops", desc := "(LPolyDesk$Poly;LPolyDesk$Poly;)Z" } : Jvm.MethodName) prog_3_method_11_code (4 : Nat) (Option.some Jvm.ClassFile.FieldType.boolean)) ∈ BW := BW_of (List.mem_of_getElem? (i := 179) (by decide +kernel)) (by decide +kernel)
theorem mW180 : (Jvm.Cond.methodLink "PolyDesk$Poly" (61 : Nat) ({ cls := "PolyDesk$Poly", name := "findTops", desc := "()V" } : Jvm.MethodName)) ∈ BW := BW_of (List.mem_of_getElem? (i := 180) (by decide +kernel)) (by decide +kernel)
theorem mW182 : (Jvm.Cond.instanceMethod ({ cls := "PolyDesk$Poly", name := "findTops", desc := "()V" } : Jvm.MethodName)) ∈ BW := BW_of (List.mem_of_getElem? (i := 182) (by decide +kernel)) (by decide +kernel)
theorem mW183 : (Jvm.Cond.code ({ cls := "PolyDesk$Poly", name := "findTops", desc := "()V" } : Jvm.MethodName) prog_3_method_10_code (5 : Nat) (Option.none : Option Jvm.ClassFile.FieldType)) ∈ BW := BW_of (List.mem_of_getElem? (i := 183) (by decide +kernel)) (by decide +kernel)
theorem mW184 : (Jvm.Cond.constantLong "PolyDesk$Poly" (57 : Nat) (10 : Int64)) ∈ BW := BW_of (List.mem_of_getElem? (i := 184) (by decide +kernel)) (by decide +kernel)
theorem mW185 : (Jvm.Cond.methodLink "PolyDesk$Bench" (56 : Nat) ({ cls := "PolyDesk$Bench", name := "merge", desc := "(LPolyDesk$Poly;LPolyDesk$Poly;LPolyDesk$Poly;)Z" } : Jvm.MethodName)) ∈ BW := BW_of (List.mem_of_getElem? (i := 185) (by decide +kernel)) (by decide +kernel)
theorem mW187 : (Jvm.Cond.instanceMethod ({ cls := "PolyDesk$Bench", name := "merge", desc := "(LPolyDesk$Poly;LPolyDesk$Poly;LPolyDesk$Poly;)Z" } : Jvm.MethodName)) ∈ BW := BW_of (List.mem_of_getElem? (i := 187) (by decide +kernel)) (by decide +kernel)
theorem mW188 : (Jvm.Cond.code ({ cls := "PolyDesk$Bench", name := "merge", desc := "(LPolyDesk$Poly;LPolyDesk$Poly;LPolyDesk$Poly;)Z" } : Jvm.MethodName) prog_2_method_9_code (8 : Nat) (Option.some Jvm.ClassFile.FieldType.boolean)) ∈ BW := BW_of (List.mem_of_getElem? (i := 188) (by decide +kernel)) (by decide +kernel)
theorem mW189 : (Jvm.Cond.methodLink "PolyDesk$Bench" (59 : Nat) ({ cls := "PolyDesk$Bench", name := "greatestCode", desc := "(LPolyDesk$Poly;LPolyDesk$Poly;)J" } : Jvm.MethodName)) ∈ BW := BW_of (List.mem_of_getElem? (i := 189) (by decide +kernel)) (by decide +kernel)
theorem mW191 : (Jvm.Cond.instanceMethod ({ cls := "PolyDesk$Bench", name := "greatestCode", desc := "(LPolyDesk$Poly;LPolyDesk$Poly;)J" } : Jvm.MethodName)) ∈ BW := BW_of (List.mem_of_getElem? (i := 191) (by decide +kernel)) (by decide +kernel)
theorem mW192 : (Jvm.Cond.code ({ cls := "PolyDesk$Bench", name := "greatestCode", desc := "(LPolyDesk$Poly;LPolyDesk$Poly;)J" } : Jvm.MethodName) prog_2_method_10_code (6 : Nat) (Option.some Jvm.ClassFile.FieldType.long)) ∈ BW := BW_of (List.mem_of_getElem? (i := 192) (by decide +kernel)) (by decide +kernel)
theorem mW193 : (Jvm.Cond.constantLong "PolyDesk$Bench" (67 : Nat) (-1 : Int64)) ∈ BW := BW_of (List.mem_of_getElem? (i := 193) (by decide +kernel)) (by decide +kernel)
theorem mW194 : (Jvm.Cond.methodLink "PolyDesk$Bench" (73 : Nat) ({ cls := "java/lang/Math", name := "max", desc := "(JJ)J" } : Jvm.MethodName)) ∈ BW := BW_of (List.mem_of_getElem? (i := 194) (by decide +kernel)) (by decide +kernel)
theorem mW195 : (Jvm.Cond.static ({ cls := "java/lang/Math", name := "max", desc := "(JJ)J" } : Jvm.MethodName)) ∈ BW := BW_of (List.mem_of_getElem? (i := 195) (by decide +kernel)) (by decide +kernel)
theorem mW196 : (Jvm.Cond.code ({ cls := "java/lang/Math", name := "max", desc := "(JJ)J" } : Jvm.MethodName) prog_6_method_66_code (4 : Nat) (Option.some Jvm.ClassFile.FieldType.long)) ∈ BW := BW_of (List.mem_of_getElem? (i := 196) (by decide +kernel)) (by decide +kernel)
theorem mW197 : (Jvm.Cond.methodLink "PolyDesk$Bench" (63 : Nat) ({ cls := "PolyDesk$Bench", name := "gather", desc := "(JLPolyDesk$Poly;LPolyDesk$Poly;)J" } : Jvm.MethodName)) ∈ BW := BW_of (List.mem_of_getElem? (i := 197) (by decide +kernel)) (by decide +kernel)
theorem mW199 : (Jvm.Cond.instanceMethod ({ cls := "PolyDesk$Bench", name := "gather", desc := "(JLPolyDesk$Poly;LPolyDesk$Poly;)J" } : Jvm.MethodName)) ∈ BW := BW_of (List.mem_of_getElem? (i := 199) (by decide +kernel)) (by decide +kernel)
theorem mW200 : (Jvm.Cond.code ({ cls := "PolyDesk$Bench", name := "gather", desc := "(JLPolyDesk$Poly;LPolyDesk$Poly;)J" } : Jvm.MethodName) prog_2_method_11_code (9 : Nat) (Option.some Jvm.ClassFile.FieldType.long)) ∈ BW := BW_of (List.mem_of_getElem? (i := 200) (by decide +kernel)) (by decide +kernel)
theorem mW201 : (Jvm.Cond.methodLink "PolyDeskLaw" (35 : Nat) ({ cls := "PolyDesk", name := "put", desc := "(II)I" } : Jvm.MethodName)) ∈ BW := BW_of (List.mem_of_getElem? (i := 201) (by decide +kernel)) (by decide +kernel)
theorem mW202 : (Jvm.Cond.instanceMethod ({ cls := "PolyDesk", name := "put", desc := "(II)I" } : Jvm.MethodName)) ∈ BW := BW_of (List.mem_of_getElem? (i := 202) (by decide +kernel)) (by decide +kernel)
theorem mW203 : (Jvm.Cond.selects "PolyDesk" ({ cls := "PolyDesk", name := "put", desc := "(II)I" } : Jvm.MethodName) ({ cls := "PolyDesk", name := "put", desc := "(II)I" } : Jvm.MethodName)) ∈ BW := BW_of (List.mem_of_getElem? (i := 203) (by decide +kernel)) (by decide +kernel)
theorem mW204 : (Jvm.Cond.code ({ cls := "PolyDesk", name := "put", desc := "(II)I" } : Jvm.MethodName) prog_1_method_7_code (5 : Nat) (Option.some Jvm.ClassFile.FieldType.int)) ∈ BW := BW_of (List.mem_of_getElem? (i := 204) (by decide +kernel)) (by decide +kernel)
theorem mW207 : (Jvm.Cond.instanceMethod ({ cls := "PolyDesk$Bench", name := "beginTotal", desc := "()V" } : Jvm.MethodName)) ∈ BW := BW_of (List.mem_of_getElem? (i := 207) (by decide +kernel)) (by decide +kernel)
theorem mW208 : (Jvm.Cond.code ({ cls := "PolyDesk$Bench", name := "beginTotal", desc := "()V" } : Jvm.MethodName) prog_2_method_3_code (1 : Nat) (Option.none : Option Jvm.ClassFile.FieldType)) ∈ BW := BW_of (List.mem_of_getElem? (i := 208) (by decide +kernel)) (by decide +kernel)
theorem mW209 : (Jvm.Cond.methodLink "PolyDesk" (81 : Nat) ({ cls := "PolyDesk", name := "workTerm", desc := "(LPolyDesk$Poly;I)Z" } : Jvm.MethodName)) ∈ BW := BW_of (List.mem_of_getElem? (i := 209) (by decide +kernel)) (by decide +kernel)
theorem mW211 : (Jvm.Cond.instanceMethod ({ cls := "PolyDesk", name := "workTerm", desc := "(LPolyDesk$Poly;I)Z" } : Jvm.MethodName)) ∈ BW := BW_of (List.mem_of_getElem? (i := 211) (by decide +kernel)) (by decide +kernel)
theorem mW212 : (Jvm.Cond.code ({ cls := "PolyDesk", name := "workTerm", desc := "(LPolyDesk$Poly;I)Z" } : Jvm.MethodName) prog_1_method_22_code (6 : Nat) (Option.some Jvm.ClassFile.FieldType.boolean)) ∈ BW := BW_of (List.mem_of_getElem? (i := 212) (by decide +kernel)) (by decide +kernel)
theorem mW215 : (Jvm.Cond.instanceMethod ({ cls := "PolyDesk$Poly", name := "coefficientAt", desc := "(I)I" } : Jvm.MethodName)) ∈ BW := BW_of (List.mem_of_getElem? (i := 215) (by decide +kernel)) (by decide +kernel)
theorem mW216 : (Jvm.Cond.code ({ cls := "PolyDesk$Poly", name := "coefficientAt", desc := "(I)I" } : Jvm.MethodName) prog_3_method_6_code (2 : Nat) (Option.some Jvm.ClassFile.FieldType.int)) ∈ BW := BW_of (List.mem_of_getElem? (i := 216) (by decide +kernel)) (by decide +kernel)
theorem mW217 : (Jvm.Cond.methodLink "PolyDesk$Poly" (50 : Nat) ({ cls := "PolyDesk$Poly", name := "hasTerm", desc := "(I)Z" } : Jvm.MethodName)) ∈ BW := BW_of (List.mem_of_getElem? (i := 217) (by decide +kernel)) (by decide +kernel)
theorem mW219 : (Jvm.Cond.instanceMethod ({ cls := "PolyDesk$Poly", name := "hasTerm", desc := "(I)Z" } : Jvm.MethodName)) ∈ BW := BW_of (List.mem_of_getElem? (i := 219) (by decide +kernel)) (by decide +kernel)
theorem mW220 : (Jvm.Cond.code ({ cls := "PolyDesk$Poly", name := "hasTerm", desc := "(I)Z" } : Jvm.MethodName) prog_3_method_5_code (2 : Nat) (Option.some Jvm.ClassFile.FieldType.boolean)) ∈ BW := BW_of (List.mem_of_getElem? (i := 220) (by decide +kernel)) (by decide +kernel)
theorem mW223 : (Jvm.Cond.instanceMethod ({ cls := "PolyDesk$Poly", name := "powerAt", desc := "(II)I" } : Jvm.MethodName)) ∈ BW := BW_of (List.mem_of_getElem? (i := 223) (by decide +kernel)) (by decide +kernel)
theorem mW224 : (Jvm.Cond.code ({ cls := "PolyDesk$Poly", name := "powerAt", desc := "(II)I" } : Jvm.MethodName) prog_3_method_7_code (6 : Nat) (Option.some Jvm.ClassFile.FieldType.int)) ∈ BW := BW_of (List.mem_of_getElem? (i := 224) (by decide +kernel)) (by decide +kernel)
theorem mW228 : (Jvm.Cond.instanceMethod ({ cls := "PolyDesk$Bench", name := "multiplyBy", desc := "(LPolyDesk$Poly;)Z" } : Jvm.MethodName)) ∈ BW := BW_of (List.mem_of_getElem? (i := 228) (by decide +kernel)) (by decide +kernel)
theorem mW229 : (Jvm.Cond.code ({ cls := "PolyDesk$Bench", name := "multiplyBy", desc := "(LPolyDesk$Poly;)Z" } : Jvm.MethodName) prog_2_method_6_code (4 : Nat) (Option.some Jvm.ClassFile.FieldType.boolean)) ∈ BW := BW_of (List.mem_of_getElem? (i := 229) (by decide +kernel)) (by decide +kernel)
theorem mW232 : (Jvm.Cond.instanceMethod ({ cls := "PolyDesk$Bench", name := "addProduct", desc := "()Z" } : Jvm.MethodName)) ∈ BW := BW_of (List.mem_of_getElem? (i := 232) (by decide +kernel)) (by decide +kernel)
theorem mW233 : (Jvm.Cond.code ({ cls := "PolyDesk$Bench", name := "addProduct", desc := "()Z" } : Jvm.MethodName) prog_2_method_7_code (3 : Nat) (Option.some Jvm.ClassFile.FieldType.boolean)) ∈ BW := BW_of (List.mem_of_getElem? (i := 233) (by decide +kernel)) (by decide +kernel)
theorem mW234 : (Jvm.Cond.methodLink "PolyDeskLaw" (39 : Nat) ({ cls := "PolyDesk", name := "size", desc := "(I)I" } : Jvm.MethodName)) ∈ BW := BW_of (List.mem_of_getElem? (i := 234) (by decide +kernel)) (by decide +kernel)
theorem mW235 : (Jvm.Cond.instanceMethod ({ cls := "PolyDesk", name := "size", desc := "(I)I" } : Jvm.MethodName)) ∈ BW := BW_of (List.mem_of_getElem? (i := 235) (by decide +kernel)) (by decide +kernel)
theorem mW236 : (Jvm.Cond.selects "PolyDesk" ({ cls := "PolyDesk", name := "size", desc := "(I)I" } : Jvm.MethodName) ({ cls := "PolyDesk", name := "size", desc := "(I)I" } : Jvm.MethodName)) ∈ BW := BW_of (List.mem_of_getElem? (i := 236) (by decide +kernel)) (by decide +kernel)
theorem mW237 : (Jvm.Cond.code ({ cls := "PolyDesk", name := "size", desc := "(I)I" } : Jvm.MethodName) prog_1_method_8_code (2 : Nat) (Option.some Jvm.ClassFile.FieldType.int)) ∈ BW := BW_of (List.mem_of_getElem? (i := 237) (by decide +kernel)) (by decide +kernel)
theorem mW238 : (Jvm.Cond.methodLink "PolyDeskLaw" (44 : Nat) ({ cls := "PolyDesk", name := "term", desc := "(III)I" } : Jvm.MethodName)) ∈ BW := BW_of (List.mem_of_getElem? (i := 238) (by decide +kernel)) (by decide +kernel)
theorem mW239 : (Jvm.Cond.instanceMethod ({ cls := "PolyDesk", name := "term", desc := "(III)I" } : Jvm.MethodName)) ∈ BW := BW_of (List.mem_of_getElem? (i := 239) (by decide +kernel)) (by decide +kernel)
theorem mW240 : (Jvm.Cond.selects "PolyDesk" ({ cls := "PolyDesk", name := "term", desc := "(III)I" } : Jvm.MethodName) ({ cls := "PolyDesk", name := "term", desc := "(III)I" } : Jvm.MethodName)) ∈ BW := BW_of (List.mem_of_getElem? (i := 240) (by decide +kernel)) (by decide +kernel)
theorem mW241 : (Jvm.Cond.code ({ cls := "PolyDesk", name := "term", desc := "(III)I" } : Jvm.MethodName) prog_1_method_9_code (4 : Nat) (Option.some Jvm.ClassFile.FieldType.int)) ∈ BW := BW_of (List.mem_of_getElem? (i := 241) (by decide +kernel)) (by decide +kernel)
theorem mW242 : (Jvm.Cond.methodLink "PolyDeskLaw" (48 : Nat) ({ cls := "PolyDesk", name := "same", desc := "(II)I" } : Jvm.MethodName)) ∈ BW := BW_of (List.mem_of_getElem? (i := 242) (by decide +kernel)) (by decide +kernel)
theorem mW243 : (Jvm.Cond.instanceMethod ({ cls := "PolyDesk", name := "same", desc := "(II)I" } : Jvm.MethodName)) ∈ BW := BW_of (List.mem_of_getElem? (i := 243) (by decide +kernel)) (by decide +kernel)
theorem mW244 : (Jvm.Cond.selects "PolyDesk" ({ cls := "PolyDesk", name := "same", desc := "(II)I" } : Jvm.MethodName) ({ cls := "PolyDesk", name := "same", desc := "(II)I" } : Jvm.MethodName)) ∈ BW := BW_of (List.mem_of_getElem? (i := 244) (by decide +kernel)) (by decide +kernel)
theorem mW245 : (Jvm.Cond.code ({ cls := "PolyDesk", name := "same", desc := "(II)I" } : Jvm.MethodName) prog_1_method_10_code (3 : Nat) (Option.some Jvm.ClassFile.FieldType.int)) ∈ BW := BW_of (List.mem_of_getElem? (i := 245) (by decide +kernel)) (by decide +kernel)
theorem mW248 : (Jvm.Cond.instanceMethod ({ cls := "PolyDesk$Poly", name := "matches", desc := "(LPolyDesk$Poly;)Z" } : Jvm.MethodName)) ∈ BW := BW_of (List.mem_of_getElem? (i := 248) (by decide +kernel)) (by decide +kernel)
theorem mW249 : (Jvm.Cond.code ({ cls := "PolyDesk$Poly", name := "matches", desc := "(LPolyDesk$Poly;)Z" } : Jvm.MethodName) prog_3_method_8_code (3 : Nat) (Option.some Jvm.ClassFile.FieldType.boolean)) ∈ BW := BW_of (List.mem_of_getElem? (i := 249) (by decide +kernel)) (by decide +kernel)
theorem mW250 : (Jvm.Cond.methodLink "PolyDeskLaw" (52 : Nat) ({ cls := "PolyDesk", name := "value", desc := "(II)J" } : Jvm.MethodName)) ∈ BW := BW_of (List.mem_of_getElem? (i := 250) (by decide +kernel)) (by decide +kernel)
theorem mW251 : (Jvm.Cond.instanceMethod ({ cls := "PolyDesk", name := "value", desc := "(II)J" } : Jvm.MethodName)) ∈ BW := BW_of (List.mem_of_getElem? (i := 251) (by decide +kernel)) (by decide +kernel)
theorem mW252 : (Jvm.Cond.selects "PolyDesk" ({ cls := "PolyDesk", name := "value", desc := "(II)J" } : Jvm.MethodName) ({ cls := "PolyDesk", name := "value", desc := "(II)J" } : Jvm.MethodName)) ∈ BW := BW_of (List.mem_of_getElem? (i := 252) (by decide +kernel)) (by decide +kernel)
theorem mW253 : (Jvm.Cond.code ({ cls := "PolyDesk", name := "value", desc := "(II)J" } : Jvm.MethodName) prog_1_method_11_code (3 : Nat) (Option.some Jvm.ClassFile.FieldType.long)) ∈ BW := BW_of (List.mem_of_getElem? (i := 253) (by decide +kernel)) (by decide +kernel)
theorem mW256 : (Jvm.Cond.instanceMethod ({ cls := "PolyDesk$Poly", name := "valueWith", desc := "(I)J" } : Jvm.MethodName)) ∈ BW := BW_of (List.mem_of_getElem? (i := 256) (by decide +kernel)) (by decide +kernel)
theorem mW257 : (Jvm.Cond.code ({ cls := "PolyDesk$Poly", name := "valueWith", desc := "(I)J" } : Jvm.MethodName) prog_3_method_9_code (9 : Nat) (Option.some Jvm.ClassFile.FieldType.long)) ∈ BW := BW_of (List.mem_of_getElem? (i := 257) (by decide +kernel)) (by decide +kernel)
theorem mW258 : (Jvm.Cond.constantLong "PolyDesk$Poly" (59 : Nat) (10000000000000000 : Int64)) ∈ BW := BW_of (List.mem_of_getElem? (i := 258) (by decide +kernel)) (by decide +kernel)
theorem mW259 : (Jvm.Cond.methodLink "PolyDeskLaw" (57 : Nat) ({ cls := "PolyDesk", name := "hypothesis", desc := "(I)I" } : Jvm.MethodName)) ∈ BW := BW_of (List.mem_of_getElem? (i := 259) (by decide +kernel)) (by decide +kernel)
theorem mW260 : (Jvm.Cond.instanceMethod ({ cls := "PolyDesk", name := "hypothesis", desc := "(I)I" } : Jvm.MethodName)) ∈ BW := BW_of (List.mem_of_getElem? (i := 260) (by decide +kernel)) (by decide +kernel)
theorem mW261 : (Jvm.Cond.selects "PolyDesk" ({ cls := "PolyDesk", name := "hypothesis", desc := "(I)I" } : Jvm.MethodName) ({ cls := "PolyDesk", name := "hypothesis", desc := "(I)I" } : Jvm.MethodName)) ∈ BW := BW_of (List.mem_of_getElem? (i := 261) (by decide +kernel)) (by decide +kernel)
theorem mW262 : (Jvm.Cond.code ({ cls := "PolyDesk", name := "hypothesis", desc := "(I)I" } : Jvm.MethodName) prog_1_method_12_code (2 : Nat) (Option.some Jvm.ClassFile.FieldType.int)) ∈ BW := BW_of (List.mem_of_getElem? (i := 262) (by decide +kernel)) (by decide +kernel)
theorem mW263 : (Jvm.Cond.methodLink "PolyDeskLaw" (61 : Nat) ({ cls := "PolyDesk", name := "keep", desc := "(I)I" } : Jvm.MethodName)) ∈ BW := BW_of (List.mem_of_getElem? (i := 263) (by decide +kernel)) (by decide +kernel)
theorem mW264 : (Jvm.Cond.instanceMethod ({ cls := "PolyDesk", name := "keep", desc := "(I)I" } : Jvm.MethodName)) ∈ BW := BW_of (List.mem_of_getElem? (i := 264) (by decide +kernel)) (by decide +kernel)
theorem mW265 : (Jvm.Cond.selects "PolyDesk" ({ cls := "PolyDesk", name := "keep", desc := "(I)I" } : Jvm.MethodName) ({ cls := "PolyDesk", name := "keep", desc := "(I)I" } : Jvm.MethodName)) ∈ BW := BW_of (List.mem_of_getElem? (i := 265) (by decide +kernel)) (by decide +kernel)
theorem mW266 : (Jvm.Cond.code ({ cls := "PolyDesk", name := "keep", desc := "(I)I" } : Jvm.MethodName) prog_1_method_13_code (2 : Nat) (Option.some Jvm.ClassFile.FieldType.int)) ∈ BW := BW_of (List.mem_of_getElem? (i := 266) (by decide +kernel)) (by decide +kernel)
theorem mW267 : (Jvm.Cond.methodLink "PolyDeskLaw" (65 : Nat) ({ cls := "PolyDesk", name := "part", desc := "(IIIII)I" } : Jvm.MethodName)) ∈ BW := BW_of (List.mem_of_getElem? (i := 267) (by decide +kernel)) (by decide +kernel)
theorem mW268 : (Jvm.Cond.instanceMethod ({ cls := "PolyDesk", name := "part", desc := "(IIIII)I" } : Jvm.MethodName)) ∈ BW := BW_of (List.mem_of_getElem? (i := 268) (by decide +kernel)) (by decide +kernel)
theorem mW269 : (Jvm.Cond.selects "PolyDesk" ({ cls := "PolyDesk", name := "part", desc := "(IIIII)I" } : Jvm.MethodName) ({ cls := "PolyDesk", name := "part", desc := "(IIIII)I" } : Jvm.MethodName)) ∈ BW := BW_of (List.mem_of_getElem? (i := 269) (by decide +kernel)) (by decide +kernel)
theorem mW270 : (Jvm.Cond.code ({ cls := "PolyDesk", name := "part", desc := "(IIIII)I" } : Jvm.MethodName) prog_1_method_14_code (7 : Nat) (Option.some Jvm.ClassFile.FieldType.int)) ∈ BW := BW_of (List.mem_of_getElem? (i := 270) (by decide +kernel)) (by decide +kernel)
theorem mW271 : (Jvm.Cond.methodLink "PolyDeskLaw" (70 : Nat) ({ cls := "PolyDesk", name := "show", desc := "(II)I" } : Jvm.MethodName)) ∈ BW := BW_of (List.mem_of_getElem? (i := 271) (by decide +kernel)) (by decide +kernel)
theorem mW272 : (Jvm.Cond.instanceMethod ({ cls := "PolyDesk", name := "show", desc := "(II)I" } : Jvm.MethodName)) ∈ BW := BW_of (List.mem_of_getElem? (i := 272) (by decide +kernel)) (by decide +kernel)
theorem mW273 : (Jvm.Cond.selects "PolyDesk" ({ cls := "PolyDesk", name := "show", desc := "(II)I" } : Jvm.MethodName) ({ cls := "PolyDesk", name := "show", desc := "(II)I" } : Jvm.MethodName)) ∈ BW := BW_of (List.mem_of_getElem? (i := 273) (by decide +kernel)) (by decide +kernel)
theorem mW274 : (Jvm.Cond.code ({ cls := "PolyDesk", name := "show", desc := "(II)I" } : Jvm.MethodName) prog_1_method_15_code (4 : Nat) (Option.some Jvm.ClassFile.FieldType.int)) ∈ BW := BW_of (List.mem_of_getElem? (i := 274) (by decide +kernel)) (by decide +kernel)
theorem mW275 : (Jvm.Cond.methodLink "PolyDesk" (107 : Nat) ({ cls := "PolyDesk", name := "judge", desc := "(LPolyDesk$Poly;I)I" } : Jvm.MethodName)) ∈ BW := BW_of (List.mem_of_getElem? (i := 275) (by decide +kernel)) (by decide +kernel)
theorem mW277 : (Jvm.Cond.instanceMethod ({ cls := "PolyDesk", name := "judge", desc := "(LPolyDesk$Poly;I)I" } : Jvm.MethodName)) ∈ BW := BW_of (List.mem_of_getElem? (i := 277) (by decide +kernel)) (by decide +kernel)
theorem mW278 : (Jvm.Cond.code ({ cls := "PolyDesk", name := "judge", desc := "(LPolyDesk$Poly;I)I" } : Jvm.MethodName) prog_1_method_23_code (5 : Nat) (Option.some Jvm.ClassFile.FieldType.int)) ∈ BW := BW_of (List.mem_of_getElem? (i := 278) (by decide +kernel)) (by decide +kernel)
theorem mW279 : (Jvm.Cond.methodLink "PolyDesk" (126 : Nat) ({ cls := "PolyDesk", name := "factorsAreThere", desc := "()Z" } : Jvm.MethodName)) ∈ BW := BW_of (List.mem_of_getElem? (i := 279) (by decide +kernel)) (by decide +kernel)
theorem mW281 : (Jvm.Cond.instanceMethod ({ cls := "PolyDesk", name := "factorsAreThere", desc := "()Z" } : Jvm.MethodName)) ∈ BW := BW_of (List.mem_of_getElem? (i := 281) (by decide +kernel)) (by decide +kernel)
theorem mW282 : (Jvm.Cond.code ({ cls := "PolyDesk", name := "factorsAreThere", desc := "()Z" } : Jvm.MethodName) prog_1_method_24_code (2 : Nat) (Option.some Jvm.ClassFile.FieldType.boolean)) ∈ BW := BW_of (List.mem_of_getElem? (i := 282) (by decide +kernel)) (by decide +kernel)
theorem mW283 : (Jvm.Cond.methodLink "PolyDesk" (129 : Nat) ({ cls := "PolyDesk", name := "workPart", desc := "(I)Z" } : Jvm.MethodName)) ∈ BW := BW_of (List.mem_of_getElem? (i := 283) (by decide +kernel)) (by decide +kernel)
theorem mW285 : (Jvm.Cond.instanceMethod ({ cls := "PolyDesk", name := "workPart", desc := "(I)Z" } : Jvm.MethodName)) ∈ BW := BW_of (List.mem_of_getElem? (i := 285) (by decide +kernel)) (by decide +kernel)
theorem mW286 : (Jvm.Cond.code ({ cls := "PolyDesk", name := "workPart", desc := "(I)Z" } : Jvm.MethodName) prog_1_method_25_code (4 : Nat) (Option.some Jvm.ClassFile.FieldType.boolean)) ∈ BW := BW_of (List.mem_of_getElem? (i := 286) (by decide +kernel)) (by decide +kernel)
theorem mW287 : (Jvm.Cond.methodLink "PolyDeskLaw" (74 : Nat) ({ cls := "PolyDesk", name := "count", desc := "(I)I" } : Jvm.MethodName)) ∈ BW := BW_of (List.mem_of_getElem? (i := 287) (by decide +kernel)) (by decide +kernel)
theorem mW288 : (Jvm.Cond.instanceMethod ({ cls := "PolyDesk", name := "count", desc := "(I)I" } : Jvm.MethodName)) ∈ BW := BW_of (List.mem_of_getElem? (i := 288) (by decide +kernel)) (by decide +kernel)
theorem mW289 : (Jvm.Cond.selects "PolyDesk" ({ cls := "PolyDesk", name := "count", desc := "(I)I" } : Jvm.MethodName) ({ cls := "PolyDesk", name := "count", desc := "(I)I" } : Jvm.MethodName)) ∈ BW := BW_of (List.mem_of_getElem? (i := 289) (by decide +kernel)) (by decide +kernel)
theorem mW290 : (Jvm.Cond.code ({ cls := "PolyDesk", name := "count", desc := "(I)I" } : Jvm.MethodName) prog_1_method_16_code (2 : Nat) (Option.some Jvm.ClassFile.FieldType.int)) ∈ BW := BW_of (List.mem_of_getElem? (i := 290) (by decide +kernel)) (by decide +kernel)
theorem mW291 : (Jvm.Cond.classLink "PolyDeskLaw" (10 : Nat) "PolyDeskModel") ∈ BW := BW_of (List.mem_of_getElem? (i := 291) (by decide +kernel)) (by decide +kernel)
theorem mW292 : (Jvm.Cond.instantiable "PolyDeskModel" (16 : Nat)) ∈ BW := BW_of (List.mem_of_getElem? (i := 292) (by decide +kernel)) (by decide +kernel)
theorem mW293 : (Jvm.Cond.methodLink "PolyDeskLaw" (12 : Nat) ({ cls := "PolyDeskModel", name := "<init>", desc := "()V" } : Jvm.MethodName)) ∈ BW := BW_of (List.mem_of_getElem? (i := 293) (by decide +kernel)) (by decide +kernel)
theorem mW294 : (Jvm.Cond.instanceMethod ({ cls := "PolyDeskModel", name := "<init>", desc := "()V" } : Jvm.MethodName)) ∈ BW := BW_of (List.mem_of_getElem? (i := 294) (by decide +kernel)) (by decide +kernel)
theorem mW295 : (Jvm.Cond.code ({ cls := "PolyDeskModel", name := "<init>", desc := "()V" } : Jvm.MethodName) prog_5_method_1_code (1 : Nat) (Option.none : Option Jvm.ClassFile.FieldType)) ∈ BW := BW_of (List.mem_of_getElem? (i := 295) (by decide +kernel)) (by decide +kernel)
theorem mW296 : (Jvm.Cond.methodLink "PolyDeskModel" (1 : Nat) ({ cls := "java/lang/Object", name := "<init>", desc := "()V" } : Jvm.MethodName)) ∈ BW := BW_of (List.mem_of_getElem? (i := 296) (by decide +kernel)) (by decide +kernel)
theorem mW297 : (Jvm.Cond.fieldLink "PolyDeskModel" (9 : Nat) "PolyDeskModel" "many" "[I") ∈ BW := BW_of (List.mem_of_getElem? (i := 297) (by decide +kernel)) (by decide +kernel)
theorem mW298 : (Jvm.Cond.fieldLink "PolyDeskModel" (13 : Nat) "PolyDeskModel" "coefficient" "[J") ∈ BW := BW_of (List.mem_of_getElem? (i := 298) (by decide +kernel)) (by decide +kernel)
theorem mW299 : (Jvm.Cond.fieldLink "PolyDeskModel" (17 : Nat) "PolyDeskModel" "high" "[J") ∈ BW := BW_of (List.mem_of_getElem? (i := 299) (by decide +kernel)) (by decide +kernel)
theorem mW300 : (Jvm.Cond.fieldLink "PolyDeskModel" (20 : Nat) "PolyDeskModel" "low" "[J") ∈ BW := BW_of (List.mem_of_getElem? (i := 300) (by decide +kernel)) (by decide +kernel)
theorem mW301 : (Jvm.Cond.fieldLink "PolyDeskModel" (121 : Nat) "PolyDeskModel" "hyps" "I") ∈ BW := BW_of (List.mem_of_getElem? (i := 301) (by decide +kernel)) (by decide +kernel)
theorem mW302 : (Jvm.Cond.fieldLink "PolyDeskModel" (125 : Nat) "PolyDeskModel" "parts" "I") ∈ BW := BW_of (List.mem_of_getElem? (i := 302) (by decide +kernel)) (by decide +kernel)
theorem mW303 : (Jvm.Cond.fieldLink "PolyDeskModel" (23 : Nat) "PolyDeskModel" "number" "[I") ∈ BW := BW_of (List.mem_of_getElem? (i := 303) (by decide +kernel)) (by decide +kernel)
theorem mW304 : (Jvm.Cond.fieldLink "PolyDeskModel" (26 : Nat) "PolyDeskModel" "first" "[I") ∈ BW := BW_of (List.mem_of_getElem? (i := 304) (by decide +kernel)) (by decide +kernel)
theorem mW305 : (Jvm.Cond.fieldLink "PolyDeskModel" (29 : Nat) "PolyDeskModel" "second" "[I") ∈ BW := BW_of (List.mem_of_getElem? (i := 305) (by decide +kernel)) (by decide +kernel)
theorem mW306 : (Jvm.Cond.fieldLink "PolyDeskModel" (32 : Nat) "PolyDeskModel" "third" "[I") ∈ BW := BW_of (List.mem_of_getElem? (i := 306) (by decide +kernel)) (by decide +kernel)
theorem mW307 : (Jvm.Cond.fieldLink "PolyDeskModel" (35 : Nat) "PolyDeskModel" "fourth" "[I") ∈ BW := BW_of (List.mem_of_getElem? (i := 307) (by decide +kernel)) (by decide +kernel)
theorem mW308 : (Jvm.Cond.fieldLink "PolyDeskModel" (47 : Nat) "PolyDeskModel" "n" "I") ∈ BW := BW_of (List.mem_of_getElem? (i := 308) (by decide +kernel)) (by decide +kernel)
theorem mW309 : (Jvm.Cond.fieldLink "PolyDeskModel" (51 : Nat) "PolyDeskModel" "isBig" "Z") ∈ BW := BW_of (List.mem_of_getElem? (i := 309) (by decide +kernel)) (by decide +kernel)
theorem mW310 : (Jvm.Cond.fieldLink "PolyDeskModel" (38 : Nat) "PolyDeskModel" "c" "[J") ∈ BW := BW_of (List.mem_of_getElem? (i := 310) (by decide +kernel)) (by decide +kernel)
theorem mW311 : (Jvm.Cond.fieldLink "PolyDeskModel" (41 : Nat) "PolyDeskModel" "hi" "[J") ∈ BW := BW_of (List.mem_of_getElem? (i := 311) (by decide +kernel)) (by decide +kernel)
theorem mW312 : (Jvm.Cond.fieldLink "PolyDeskModel" (44 : Nat) "PolyDeskModel" "lo" "[J") ∈ BW := BW_of (List.mem_of_getElem? (i := 312) (by decide +kernel)) (by decide +kernel)
theorem mW313 : (Jvm.Cond.laysFinal "PolyDeskModel" "PolyDeskModel" "many" "[I") ∈ BW := BW_of (List.mem_of_getElem? (i := 313) (by decide +kernel)) (by decide +kernel)
theorem mW315 : (Jvm.Cond.laysFinal "PolyDeskModel" "PolyDeskModel" "coefficient" "[J") ∈ BW := BW_of (List.mem_of_getElem? (i := 315) (by decide +kernel)) (by decide +kernel)
theorem mW317 : (Jvm.Cond.laysFinal "PolyDeskModel" "PolyDeskModel" "high" "[J") ∈ BW := BW_of (List.mem_of_getElem? (i := 317) (by decide +kernel)) (by decide +kernel)
theorem mW319 : (Jvm.Cond.laysFinal "PolyDeskModel" "PolyDeskModel" "low" "[J") ∈ BW := BW_of (List.mem_of_getElem? (i := 319) (by decide +kernel)) (by decide +kernel)
theorem mW321 : (Jvm.Cond.lays "PolyDeskModel" "PolyDeskModel" "hyps" "I") ∈ BW := BW_of (List.mem_of_getElem? (i := 321) (by decide +kernel)) (by decide +kernel)
theorem mW323 : (Jvm.Cond.lays "PolyDeskModel" "PolyDeskModel" "parts" "I") ∈ BW := BW_of (List.mem_of_getElem? (i := 323) (by decide +kernel)) (by decide +kernel)
theorem mW325 : (Jvm.Cond.laysFinal "PolyDeskModel" "PolyDeskModel" "number" "[I") ∈ BW := BW_of (List.mem_of_getElem? (i := 325) (by decide +kernel)) (by decide +kernel)
theorem mW327 : (Jvm.Cond.laysFinal "PolyDeskModel" "PolyDeskModel" "first" "[I") ∈ BW := BW_of (List.mem_of_getElem? (i := 327) (by decide +kernel)) (by decide +kernel)
theorem mW329 : (Jvm.Cond.laysFinal "PolyDeskModel" "PolyDeskModel" "second" "[I") ∈ BW := BW_of (List.mem_of_getElem? (i := 329) (by decide +kernel)) (by decide +kernel)
theorem mW331 : (Jvm.Cond.laysFinal "PolyDeskModel" "PolyDeskModel" "third" "[I") ∈ BW := BW_of (List.mem_of_getElem? (i := 331) (by decide +kernel)) (by decide +kernel)
theorem mW333 : (Jvm.Cond.laysFinal "PolyDeskModel" "PolyDeskModel" "fourth" "[I") ∈ BW := BW_of (List.mem_of_getElem? (i := 333) (by decide +kernel)) (by decide +kernel)
theorem mW335 : (Jvm.Cond.lays "PolyDeskModel" "PolyDeskModel" "n" "I") ∈ BW := BW_of (List.mem_of_getElem? (i := 335) (by decide +kernel)) (by decide +kernel)
theorem mW337 : (Jvm.Cond.lays "PolyDeskModel" "PolyDeskModel" "isBig" "Z") ∈ BW := BW_of (List.mem_of_getElem? (i := 337) (by decide +kernel)) (by decide +kernel)
theorem mW339 : (Jvm.Cond.laysFinal "PolyDeskModel" "PolyDeskModel" "c" "[J") ∈ BW := BW_of (List.mem_of_getElem? (i := 339) (by decide +kernel)) (by decide +kernel)
theorem mW341 : (Jvm.Cond.laysFinal "PolyDeskModel" "PolyDeskModel" "hi" "[J") ∈ BW := BW_of (List.mem_of_getElem? (i := 341) (by decide +kernel)) (by decide +kernel)
theorem mW343 : (Jvm.Cond.laysFinal "PolyDeskModel" "PolyDeskModel" "lo" "[J") ∈ BW := BW_of (List.mem_of_getElem? (i := 343) (by decide +kernel)) (by decide +kernel)
theorem mW346 : (Jvm.Cond.methodLink "PolyDeskLaw" (17 : Nat) ({ cls := "PolyDeskModel", name := "constant", desc := "(II)I" } : Jvm.MethodName)) ∈ BW := BW_of (List.mem_of_getElem? (i := 346) (by decide +kernel)) (by decide +kernel)
theorem mW347 : (Jvm.Cond.instanceMethod ({ cls := "PolyDeskModel", name := "constant", desc := "(II)I" } : Jvm.MethodName)) ∈ BW := BW_of (List.mem_of_getElem? (i := 347) (by decide +kernel)) (by decide +kernel)
theorem mW348 : (Jvm.Cond.selects "PolyDeskModel" ({ cls := "PolyDeskModel", name := "constant", desc := "(II)I" } : Jvm.MethodName) ({ cls := "PolyDeskModel", name := "constant", desc := "(II)I" } : Jvm.MethodName)) ∈ BW := BW_of (List.mem_of_getElem? (i := 348) (by decide +kernel)) (by decide +kernel)
theorem mW349 : (Jvm.Cond.code ({ cls := "PolyDeskModel", name := "constant", desc := "(II)I" } : Jvm.MethodName) prog_5_method_16_code (3 : Nat) (Option.some Jvm.ClassFile.FieldType.int)) ∈ BW := BW_of (List.mem_of_getElem? (i := 349) (by decide +kernel)) (by decide +kernel)
theorem mW350 : (Jvm.Cond.methodLink "PolyDeskModel" (94 : Nat) ({ cls := "PolyDeskModel", name := "is", desc := "(I)Z" } : Jvm.MethodName)) ∈ BW := BW_of (List.mem_of_getElem? (i := 350) (by decide +kernel)) (by decide +kernel)
theorem mW351 : (Jvm.Cond.static ({ cls := "PolyDeskModel", name := "is", desc := "(I)Z" } : Jvm.MethodName)) ∈ BW := BW_of (List.mem_of_getElem? (i := 351) (by decide +kernel)) (by decide +kernel)
theorem mW352 : (Jvm.Cond.code ({ cls := "PolyDeskModel", name := "is", desc := "(I)Z" } : Jvm.MethodName) prog_5_method_15_code (1 : Nat) (Option.some Jvm.ClassFile.FieldType.boolean)) ∈ BW := BW_of (List.mem_of_getElem? (i := 352) (by decide +kernel)) (by decide +kernel)
theorem mW353 : (Jvm.Cond.methodLink "PolyDeskModel" (97 : Nat) ({ cls := "PolyDeskModel", name := "whole", desc := "(IJ)Z" } : Jvm.MethodName)) ∈ BW := BW_of (List.mem_of_getElem? (i := 353) (by decide +kernel)) (by decide +kernel)
theorem mW355 : (Jvm.Cond.instanceMethod ({ cls := "PolyDeskModel", name := "whole", desc := "(IJ)Z" } : Jvm.MethodName)) ∈ BW := BW_of (List.mem_of_getElem? (i := 355) (by decide +kernel)) (by decide +kernel)
theorem mW356 : (Jvm.Cond.code ({ cls := "PolyDeskModel", name := "whole", desc := "(IJ)Z" } : Jvm.MethodName) prog_5_method_12_code (4 : Nat) (Option.some Jvm.ClassFile.FieldType.boolean)) ∈ BW := BW_of (List.mem_of_getElem? (i := 356) (by decide +kernel)) (by decide +kernel)
theorem mW357 : (Jvm.Cond.methodLink "PolyDeskModel" (79 : Nat) ({ cls := "PolyDeskModel", name := "begin", desc := "()V" } : Jvm.MethodName)) ∈ BW := BW_of (List.mem_of_getElem? (i := 357) (by decide +kernel)) (by decide +kernel)
theorem mW359 : (Jvm.Cond.instanceMethod ({ cls := "PolyDeskModel", name := "begin", desc := "()V" } : Jvm.MethodName)) ∈ BW := BW_of (List.mem_of_getElem? (i := 359) (by decide +kernel)) (by decide +kernel)
theorem mW360 : (Jvm.Cond.code ({ cls := "PolyDeskModel", name := "begin", desc := "()V" } : Jvm.MethodName) prog_5_method_2_code (1 : Nat) (Option.none : Option Jvm.ClassFile.FieldType)) ∈ BW := BW_of (List.mem_of_getElem? (i := 360) (by decide +kernel)) (by decide +kernel)
theorem mW361 : (Jvm.Cond.methodLink "PolyDeskModel" (75 : Nat) ({ cls := "PolyDeskModel", name := "add", desc := "(JJJ)V" } : Jvm.MethodName)) ∈ BW := BW_of (List.mem_of_getElem? (i := 361) (by decide +kernel)) (by decide +kernel)
theorem mW363 : (Jvm.Cond.instanceMethod ({ cls := "PolyDeskModel", name := "add", desc := "(JJJ)V" } : Jvm.MethodName)) ∈ BW := BW_of (List.mem_of_getElem? (i := 363) (by decide +kernel)) (by decide +kernel)
theorem mW364 : (Jvm.Cond.code ({ cls := "PolyDeskModel", name := "add", desc := "(JJJ)V" } : Jvm.MethodName) prog_5_method_3_code (8 : Nat) (Option.none : Option Jvm.ClassFile.FieldType)) ∈ BW := BW_of (List.mem_of_getElem? (i := 364) (by decide +kernel)) (by decide +kernel)
theorem mW365 : (Jvm.Cond.methodLink "PolyDeskModel" (86 : Nat) ({ cls := "PolyDeskModel", name := "to", desc := "(I)Z" } : Jvm.MethodName)) ∈ BW := BW_of (List.mem_of_getElem? (i := 365) (by decide +kernel)) (by decide +kernel)
theorem mW367 : (Jvm.Cond.instanceMethod ({ cls := "PolyDeskModel", name := "to", desc := "(I)Z" } : Jvm.MethodName)) ∈ BW := BW_of (List.mem_of_getElem? (i := 367) (by decide +kernel)) (by decide +kernel)
theorem mW368 : (Jvm.Cond.code ({ cls := "PolyDeskModel", name := "to", desc := "(I)Z" } : Jvm.MethodName) prog_5_method_8_code (6 : Nat) (Option.some Jvm.ClassFile.FieldType.boolean)) ∈ BW := BW_of (List.mem_of_getElem? (i := 368) (by decide +kernel)) (by decide +kernel)
theorem mW369 : (Jvm.Cond.methodLink "PolyDeskModel" (63 : Nat) ({ cls := "PolyDeskModel", name := "swap", desc := "(II)V" } : Jvm.MethodName)) ∈ BW := BW_of (List.mem_of_getElem? (i := 369) (by decide +kernel)) (by decide +kernel)
theorem mW371 : (Jvm.Cond.instanceMethod ({ cls := "PolyDeskModel", name := "swap", desc := "(II)V" } : Jvm.MethodName)) ∈ BW := BW_of (List.mem_of_getElem? (i := 371) (by decide +kernel)) (by decide +kernel)
theorem mW372 : (Jvm.Cond.code ({ cls := "PolyDeskModel", name := "swap", desc := "(II)V" } : Jvm.MethodName) prog_5_method_7_code (5 : Nat) (Option.none : Option Jvm.ClassFile.FieldType)) ∈ BW := BW_of (List.mem_of_getElem? (i := 372) (by decide +kernel)) (by decide +kernel)
theorem mW373 : (Jvm.Cond.constantLong "PolyDeskModel" (67 : Nat) (99999999 : Int64)) ∈ BW := BW_of (List.mem_of_getElem? (i := 373) (by decide +kernel)) (by decide +kernel)
theorem mW374 : (Jvm.Cond.constantLong "PolyDeskModel" (69 : Nat) (-99999999 : Int64)) ∈ BW := BW_of (List.mem_of_getElem? (i := 374) (by decide +kernel)) (by decide +kernel)
theorem mW375 : (Jvm.Cond.methodLink "PolyDeskModel" (71 : Nat) ({ cls := "PolyDeskModel", name := "isAhead", desc := "(II)Z" } : Jvm.MethodName)) ∈ BW := BW_of (List.mem_of_getElem? (i := 375) (by decide +kernel)) (by decide +kernel)
theorem mW377 : (Jvm.Cond.instanceMethod ({ cls := "PolyDeskModel", name := "isAhead", desc := "(II)Z" } : Jvm.MethodName)) ∈ BW := BW_of (List.mem_of_getElem? (i := 377) (by decide +kernel)) (by decide +kernel)
theorem mW378 : (Jvm.Cond.code ({ cls := "PolyDeskModel", name := "isAhead", desc := "(II)Z" } : Jvm.MethodName) prog_5_method_6_code (5 : Nat) (Option.some Jvm.ClassFile.FieldType.boolean)) ∈ BW := BW_of (List.mem_of_getElem? (i := 378) (by decide +kernel)) (by decide +kernel)
theorem mW379 : (Jvm.Cond.methodLink "PolyDeskModel" (59 : Nat) ({ cls := "PolyDeskModel", name := "degree", desc := "(JJ)I" } : Jvm.MethodName)) ∈ BW := BW_of (List.mem_of_getElem? (i := 379) (by decide +kernel)) (by decide +kernel)
theorem mW380 : (Jvm.Cond.static ({ cls := "PolyDeskModel", name := "degree", desc := "(JJ)I" } : Jvm.MethodName)) ∈ BW := BW_of (List.mem_of_getElem? (i := 380) (by decide +kernel)) (by decide +kernel)
theorem mW381 : (Jvm.Cond.code ({ cls := "PolyDeskModel", name := "degree", desc := "(JJ)I" } : Jvm.MethodName) prog_5_method_5_code (6 : Nat) (Option.some Jvm.ClassFile.FieldType.int)) ∈ BW := BW_of (List.mem_of_getElem? (i := 381) (by decide +kernel)) (by decide +kernel)
theorem mW382 : (Jvm.Cond.constantLong "PolyDeskModel" (55 : Nat) (255 : Int64)) ∈ BW := BW_of (List.mem_of_getElem? (i := 382) (by decide +kernel)) (by decide +kernel)
theorem mW383 : (Jvm.Cond.methodLink "PolyDeskLaw" (21 : Nat) ({ cls := "PolyDeskModel", name := "symbol", desc := "(II)I" } : Jvm.MethodName)) ∈ BW := BW_of (List.mem_of_getElem? (i := 383) (by decide +kernel)) (by decide +kernel)
theorem mW384 : (Jvm.Cond.instanceMethod ({ cls := "PolyDeskModel", name := "symbol", desc := "(II)I" } : Jvm.MethodName)) ∈ BW := BW_of (List.mem_of_getElem? (i := 384) (by decide +kernel)) (by decide +kernel)
theorem mW385 : (Jvm.Cond.selects "PolyDeskModel" ({ cls := "PolyDeskModel", name := "symbol", desc := "(II)I" } : Jvm.MethodName) ({ cls := "PolyDeskModel", name := "symbol", desc := "(II)I" } : Jvm.MethodName)) ∈ BW := BW_of (List.mem_of_getElem? (i := 385) (by decide +kernel)) (by decide +kernel)
theorem mW386 : (Jvm.Cond.code ({ cls := "PolyDeskModel", name := "symbol", desc := "(II)I" } : Jvm.MethodName) prog_5_method_17_code (3 : Nat) (Option.some Jvm.ClassFile.FieldType.int)) ∈ BW := BW_of (List.mem_of_getElem? (i := 386) (by decide +kernel)) (by decide +kernel)
theorem mW387 : (Jvm.Cond.methodLink "PolyDeskLaw" (26 : Nat) ({ cls := "PolyDeskModel", name := "plus", desc := "(III)I" } : Jvm.MethodName)) ∈ BW := BW_of (List.mem_of_getElem? (i := 387) (by decide +kernel)) (by decide +kernel)
theorem mW388 : (Jvm.Cond.instanceMethod ({ cls := "PolyDeskModel", name := "plus", desc := "(III)I" } : Jvm.MethodName)) ∈ BW := BW_of (List.mem_of_getElem? (i := 388) (by decide +kernel)) (by decide +kernel)
theorem mW389 : (Jvm.Cond.selects "PolyDeskModel" ({ cls := "PolyDeskModel", name := "plus", desc := "(III)I" } : Jvm.MethodName) ({ cls := "PolyDeskModel", name := "plus", desc := "(III)I" } : Jvm.MethodName)) ∈ BW := BW_of (List.mem_of_getElem? (i := 389) (by decide +kernel)) (by decide +kernel)
theorem mW390 : (Jvm.Cond.code ({ cls := "PolyDeskModel", name := "plus", desc := "(III)I" } : Jvm.MethodName) prog_5_method_18_code (4 : Nat) (Option.some Jvm.ClassFile.FieldType.int)) ∈ BW := BW_of (List.mem_of_getElem? (i := 390) (by decide +kernel)) (by decide +kernel)
theorem mW391 : (Jvm.Cond.methodLink "PolyDeskModel" (101 : Nat) ({ cls := "PolyDeskModel", name := "sum", desc := "(IIIJ)Z" } : Jvm.MethodName)) ∈ BW := BW_of (List.mem_of_getElem? (i := 391) (by decide +kernel)) (by decide +kernel)
theorem mW393 : (Jvm.Cond.instanceMethod ({ cls := "PolyDeskModel", name := "sum", desc := "(IIIJ)Z" } : Jvm.MethodName)) ∈ BW := BW_of (List.mem_of_getElem? (i := 393) (by decide +kernel)) (by decide +kernel)
theorem mW394 : (Jvm.Cond.code ({ cls := "PolyDeskModel", name := "sum", desc := "(IIIJ)Z" } : Jvm.MethodName) prog_5_method_10_code (6 : Nat) (Option.some Jvm.ClassFile.FieldType.boolean)) ∈ BW := BW_of (List.mem_of_getElem? (i := 394) (by decide +kernel)) (by decide +kernel)
theorem mW395 : (Jvm.Cond.methodLink "PolyDeskModel" (82 : Nat) ({ cls := "PolyDeskModel", name := "addAll", desc := "(IJ)V" } : Jvm.MethodName)) ∈ BW := BW_of (List.mem_of_getElem? (i := 395) (by decide +kernel)) (by decide +kernel)
theorem mW397 : (Jvm.Cond.instanceMethod ({ cls := "PolyDeskModel", name := "addAll", desc := "(IJ)V" } : Jvm.MethodName)) ∈ BW := BW_of (List.mem_of_getElem? (i := 397) (by decide +kernel)) (by decide +kernel)
theorem mW398 : (Jvm.Cond.code ({ cls := "PolyDeskModel", name := "addAll", desc := "(IJ)V" } : Jvm.MethodName) prog_5_method_9_code (5 : Nat) (Option.none : Option Jvm.ClassFile.FieldType)) ∈ BW := BW_of (List.mem_of_getElem? (i := 398) (by decide +kernel)) (by decide +kernel)
theorem mW399 : (Jvm.Cond.methodLink "PolyDeskLaw" (30 : Nat) ({ cls := "PolyDeskModel", name := "minus", desc := "(III)I" } : Jvm.MethodName)) ∈ BW := BW_of (List.mem_of_getElem? (i := 399) (by decide +kernel)) (by decide +kernel)
theorem mW400 : (Jvm.Cond.instanceMethod ({ cls := "PolyDeskModel", name := "minus", desc := "(III)I" } : Jvm.MethodName)) ∈ BW := BW_of (List.mem_of_getElem? (i := 400) (by decide +kernel)) (by decide +kernel)
theorem mW401 : (Jvm.Cond.selects "PolyDeskModel" ({ cls := "PolyDeskModel", name := "minus", desc := "(III)I" } : Jvm.MethodName) ({ cls := "PolyDeskModel", name := "minus", desc := "(III)I" } : Jvm.MethodName)) ∈ BW := BW_of (List.mem_of_getElem? (i := 401) (by decide +kernel)) (by decide +kernel)
theorem mW402 : (Jvm.Cond.code ({ cls := "PolyDeskModel", name := "minus", desc := "(III)I" } : Jvm.MethodName) prog_5_method_19_code (4 : Nat) (Option.some Jvm.ClassFile.FieldType.int)) ∈ BW := BW_of (List.mem_of_getElem? (i := 402) (by decide +kernel)) (by decide +kernel)
theorem mW403 : (Jvm.Cond.constantLong "PolyDeskModel" (105 : Nat) (-1 : Int64)) ∈ BW := BW_of (List.mem_of_getElem? (i := 403) (by decide +kernel)) (by decide +kernel)
theorem mW404 : (Jvm.Cond.methodLink "PolyDeskLaw" (34 : Nat) ({ cls := "PolyDeskModel", name := "times", desc := "(III)I" } : Jvm.MethodName)) ∈ BW := BW_of (List.mem_of_getElem? (i := 404) (by decide +kernel)) (by decide +kernel)
theorem mW405 : (Jvm.Cond.instanceMethod ({ cls := "PolyDeskModel", name := "times", desc := "(III)I" } : Jvm.MethodName)) ∈ BW := BW_of (List.mem_of_getElem? (i := 405) (by decide +kernel)) (by decide +kernel)
theorem mW406 : (Jvm.Cond.selects "PolyDeskModel" ({ cls := "PolyDeskModel", name := "times", desc := "(III)I" } : Jvm.MethodName) ({ cls := "PolyDeskModel", name := "times", desc := "(III)I" } : Jvm.MethodName)) ∈ BW := BW_of (List.mem_of_getElem? (i := 406) (by decide +kernel)) (by decide +kernel)
theorem mW407 : (Jvm.Cond.code ({ cls := "PolyDeskModel", name := "times", desc := "(III)I" } : Jvm.MethodName) prog_5_method_20_code (4 : Nat) (Option.some Jvm.ClassFile.FieldType.int)) ∈ BW := BW_of (List.mem_of_getElem? (i := 407) (by decide +kernel)) (by decide +kernel)
theorem mW408 : (Jvm.Cond.methodLink "PolyDeskModel" (107 : Nat) ({ cls := "PolyDeskModel", name := "product", desc := "(III)Z" } : Jvm.MethodName)) ∈ BW := BW_of (List.mem_of_getElem? (i := 408) (by decide +kernel)) (by decide +kernel)
theorem mW410 : (Jvm.Cond.instanceMethod ({ cls := "PolyDeskModel", name := "product", desc := "(III)Z" } : Jvm.MethodName)) ∈ BW := BW_of (List.mem_of_getElem? (i := 410) (by decide +kernel)) (by decide +kernel)
theorem mW411 : (Jvm.Cond.code ({ cls := "PolyDeskModel", name := "product", desc := "(III)Z" } : Jvm.MethodName) prog_5_method_11_code (10 : Nat) (Option.some Jvm.ClassFile.FieldType.boolean)) ∈ BW := BW_of (List.mem_of_getElem? (i := 411) (by decide +kernel)) (by decide +kernel)
theorem mW412 : (Jvm.Cond.methodLink "PolyDeskModel" (90 : Nat) ({ cls := "PolyDeskModel", name := "isFar", desc := "(J)Z" } : Jvm.MethodName)) ∈ BW := BW_of (List.mem_of_getElem? (i := 412) (by decide +kernel)) (by decide +kernel)
theorem mW413 : (Jvm.Cond.static ({ cls := "PolyDeskModel", name := "isFar", desc := "(J)Z" } : Jvm.MethodName)) ∈ BW := BW_of (List.mem_of_getElem? (i := 413) (by decide +kernel)) (by decide +kernel)
theorem mW414 : (Jvm.Cond.code ({ cls := "PolyDeskModel", name := "isFar", desc := "(J)Z" } : Jvm.MethodName) prog_5_method_4_code (4 : Nat) (Option.some Jvm.ClassFile.FieldType.boolean)) ∈ BW := BW_of (List.mem_of_getElem? (i := 414) (by decide +kernel)) (by decide +kernel)
theorem mW415 : (Jvm.Cond.constantLong "PolyDeskModel" (57 : Nat) (9 : Int64)) ∈ BW := BW_of (List.mem_of_getElem? (i := 415) (by decide +kernel)) (by decide +kernel)
theorem mW416 : (Jvm.Cond.methodLink "PolyDeskLaw" (38 : Nat) ({ cls := "PolyDeskModel", name := "put", desc := "(II)I" } : Jvm.MethodName)) ∈ BW := BW_of (List.mem_of_getElem? (i := 416) (by decide +kernel)) (by decide +kernel)
theorem mW417 : (Jvm.Cond.instanceMethod ({ cls := "PolyDeskModel", name := "put", desc := "(II)I" } : Jvm.MethodName)) ∈ BW := BW_of (List.mem_of_getElem? (i := 417) (by decide +kernel)) (by decide +kernel)
theorem mW418 : (Jvm.Cond.selects "PolyDeskModel" ({ cls := "PolyDeskModel", name := "put", desc := "(II)I" } : Jvm.MethodName) ({ cls := "PolyDeskModel", name := "put", desc := "(II)I" } : Jvm.MethodName)) ∈ BW := BW_of (List.mem_of_getElem? (i := 418) (by decide +kernel)) (by decide +kernel)
theorem mW419 : (Jvm.Cond.code ({ cls := "PolyDeskModel", name := "put", desc := "(II)I" } : Jvm.MethodName) prog_5_method_21_code (7 : Nat) (Option.some Jvm.ClassFile.FieldType.int)) ∈ BW := BW_of (List.mem_of_getElem? (i := 419) (by decide +kernel)) (by decide +kernel)
theorem mW420 : (Jvm.Cond.methodLink "PolyDeskModel" (111 : Nat) ({ cls := "PolyDeskModel", name := "power", desc := "(II)I" } : Jvm.MethodName)) ∈ BW := BW_of (List.mem_of_getElem? (i := 420) (by decide +kernel)) (by decide +kernel)
theorem mW422 : (Jvm.Cond.instanceMethod ({ cls := "PolyDeskModel", name := "power", desc := "(II)I" } : Jvm.MethodName)) ∈ BW := BW_of (List.mem_of_getElem? (i := 422) (by decide +kernel)) (by decide +kernel)
theorem mW423 : (Jvm.Cond.code ({ cls := "PolyDeskModel", name := "power", desc := "(II)I" } : Jvm.MethodName) prog_5_method_13_code (3 : Nat) (Option.some Jvm.ClassFile.FieldType.int)) ∈ BW := BW_of (List.mem_of_getElem? (i := 423) (by decide +kernel)) (by decide +kernel)
theorem mW424 : (Jvm.Cond.methodLink "PolyDeskModel" (115 : Nat) ({ cls := "PolyDeskModel", name := "copy", desc := "(II)V" } : Jvm.MethodName)) ∈ BW := BW_of (List.mem_of_getElem? (i := 424) (by decide +kernel)) (by decide +kernel)
theorem mW426 : (Jvm.Cond.instanceMethod ({ cls := "PolyDeskModel", name := "copy", desc := "(II)V" } : Jvm.MethodName)) ∈ BW := BW_of (List.mem_of_getElem? (i := 426) (by decide +kernel)) (by decide +kernel)
theorem mW427 : (Jvm.Cond.code ({ cls := "PolyDeskModel", name := "copy", desc := "(II)V" } : Jvm.MethodName) prog_5_method_14_code (4 : Nat) (Option.none : Option Jvm.ClassFile.FieldType)) ∈ BW := BW_of (List.mem_of_getElem? (i := 427) (by decide +kernel)) (by decide +kernel)
theorem mW428 : (Jvm.Cond.methodLink "PolyDeskLaw" (43 : Nat) ({ cls := "PolyDeskModel", name := "size", desc := "(I)I" } : Jvm.MethodName)) ∈ BW := BW_of (List.mem_of_getElem? (i := 428) (by decide +kernel)) (by decide +kernel)
theorem mW429 : (Jvm.Cond.instanceMethod ({ cls := "PolyDeskModel", name := "size", desc := "(I)I" } : Jvm.MethodName)) ∈ BW := BW_of (List.mem_of_getElem? (i := 429) (by decide +kernel)) (by decide +kernel)
theorem mW430 : (Jvm.Cond.selects "PolyDeskModel" ({ cls := "PolyDeskModel", name := "size", desc := "(I)I" } : Jvm.MethodName) ({ cls := "PolyDeskModel", name := "size", desc := "(I)I" } : Jvm.MethodName)) ∈ BW := BW_of (List.mem_of_getElem? (i := 430) (by decide +kernel)) (by decide +kernel)
theorem mW431 : (Jvm.Cond.code ({ cls := "PolyDeskModel", name := "size", desc := "(I)I" } : Jvm.MethodName) prog_5_method_22_code (2 : Nat) (Option.some Jvm.ClassFile.FieldType.int)) ∈ BW := BW_of (List.mem_of_getElem? (i := 431) (by decide +kernel)) (by decide +kernel)
theorem mW432 : (Jvm.Cond.methodLink "PolyDeskLaw" (47 : Nat) ({ cls := "PolyDeskModel", name := "term", desc := "(III)I" } : Jvm.MethodName)) ∈ BW := BW_of (List.mem_of_getElem? (i := 432) (by decide +kernel)) (by decide +kernel)
theorem mW433 : (Jvm.Cond.instanceMethod ({ cls := "PolyDeskModel", name := "term", desc := "(III)I" } : Jvm.MethodName)) ∈ BW := BW_of (List.mem_of_getElem? (i := 433) (by decide +kernel)) (by decide +kernel)
theorem mW434 : (Jvm.Cond.selects "PolyDeskModel" ({ cls := "PolyDeskModel", name := "term", desc := "(III)I" } : Jvm.MethodName) ({ cls := "PolyDeskModel", name := "term", desc := "(III)I" } : Jvm.MethodName)) ∈ BW := BW_of (List.mem_of_getElem? (i := 434) (by decide +kernel)) (by decide +kernel)
theorem mW435 : (Jvm.Cond.code ({ cls := "PolyDeskModel", name := "term", desc := "(III)I" } : Jvm.MethodName) prog_5_method_23_code (4 : Nat) (Option.some Jvm.ClassFile.FieldType.int)) ∈ BW := BW_of (List.mem_of_getElem? (i := 435) (by decide +kernel)) (by decide +kernel)
theorem mW436 : (Jvm.Cond.methodLink "PolyDeskLaw" (51 : Nat) ({ cls := "PolyDeskModel", name := "same", desc := "(II)I" } : Jvm.MethodName)) ∈ BW := BW_of (List.mem_of_getElem? (i := 436) (by decide +kernel)) (by decide +kernel)
theorem mW437 : (Jvm.Cond.instanceMethod ({ cls := "PolyDeskModel", name := "same", desc := "(II)I" } : Jvm.MethodName)) ∈ BW := BW_of (List.mem_of_getElem? (i := 437) (by decide +kernel)) (by decide +kernel)
theorem mW438 : (Jvm.Cond.selects "PolyDeskModel" ({ cls := "PolyDeskModel", name := "same", desc := "(II)I" } : Jvm.MethodName) ({ cls := "PolyDeskModel", name := "same", desc := "(II)I" } : Jvm.MethodName)) ∈ BW := BW_of (List.mem_of_getElem? (i := 438) (by decide +kernel)) (by decide +kernel)
theorem mW439 : (Jvm.Cond.code ({ cls := "PolyDeskModel", name := "same", desc := "(II)I" } : Jvm.MethodName) prog_5_method_25_code (3 : Nat) (Option.some Jvm.ClassFile.FieldType.int)) ∈ BW := BW_of (List.mem_of_getElem? (i := 439) (by decide +kernel)) (by decide +kernel)
theorem mW440 : (Jvm.Cond.methodLink "PolyDeskModel" (118 : Nat) ({ cls := "PolyDeskModel", name := "isSame", desc := "(II)Z" } : Jvm.MethodName)) ∈ BW := BW_of (List.mem_of_getElem? (i := 440) (by decide +kernel)) (by decide +kernel)
theorem mW442 : (Jvm.Cond.instanceMethod ({ cls := "PolyDeskModel", name := "isSame", desc := "(II)Z" } : Jvm.MethodName)) ∈ BW := BW_of (List.mem_of_getElem? (i := 442) (by decide +kernel)) (by decide +kernel)
theorem mW443 : (Jvm.Cond.code ({ cls := "PolyDeskModel", name := "isSame", desc := "(II)Z" } : Jvm.MethodName) prog_5_method_24_code (7 : Nat) (Option.some Jvm.ClassFile.FieldType.boolean)) ∈ BW := BW_of (List.mem_of_getElem? (i := 443) (by decide +kernel)) (by decide +kernel)
theorem mW444 : (Jvm.Cond.methodLink "PolyDeskLaw" (56 : Nat) ({ cls := "PolyDeskModel", name := "value", desc := "(II)J" } : Jvm.MethodName)) ∈ BW := BW_of (List.mem_of_getElem? (i := 444) (by decide +kernel)) (by decide +kernel)
theorem mW445 : (Jvm.Cond.instanceMethod ({ cls := "PolyDeskModel", name := "value", desc := "(II)J" } : Jvm.MethodName)) ∈ BW := BW_of (List.mem_of_getElem? (i := 445) (by decide +kernel)) (by decide +kernel)
theorem mW446 : (Jvm.Cond.selects "PolyDeskModel" ({ cls := "PolyDeskModel", name := "value", desc := "(II)J" } : Jvm.MethodName) ({ cls := "PolyDeskModel", name := "value", desc := "(II)J" } : Jvm.MethodName)) ∈ BW := BW_of (List.mem_of_getElem? (i := 446) (by decide +kernel)) (by decide +kernel)
theorem mW447 : (Jvm.Cond.code ({ cls := "PolyDeskModel", name := "value", desc := "(II)J" } : Jvm.MethodName) prog_5_method_26_code (10 : Nat) (Option.some Jvm.ClassFile.FieldType.long)) ∈ BW := BW_of (List.mem_of_getElem? (i := 447) (by decide +kernel)) (by decide +kernel)
theorem mW448 : (Jvm.Cond.methodLink "PolyDeskLaw" (60 : Nat) ({ cls := "PolyDeskModel", name := "hypothesis", desc := "(I)I" } : Jvm.MethodName)) ∈ BW := BW_of (List.mem_of_getElem? (i := 448) (by decide +kernel)) (by decide +kernel)
theorem mW449 : (Jvm.Cond.instanceMethod ({ cls := "PolyDeskModel", name := "hypothesis", desc := "(I)I" } : Jvm.MethodName)) ∈ BW := BW_of (List.mem_of_getElem? (i := 449) (by decide +kernel)) (by decide +kernel)
theorem mW450 : (Jvm.Cond.selects "PolyDeskModel" ({ cls := "PolyDeskModel", name := "hypothesis", desc := "(I)I" } : Jvm.MethodName) ({ cls := "PolyDeskModel", name := "hypothesis", desc := "(I)I" } : Jvm.MethodName)) ∈ BW := BW_of (List.mem_of_getElem? (i := 450) (by decide +kernel)) (by decide +kernel)
theorem mW451 : (Jvm.Cond.code ({ cls := "PolyDeskModel", name := "hypothesis", desc := "(I)I" } : Jvm.MethodName) prog_5_method_27_code (2 : Nat) (Option.some Jvm.ClassFile.FieldType.int)) ∈ BW := BW_of (List.mem_of_getElem? (i := 451) (by decide +kernel)) (by decide +kernel)
theorem mW452 : (Jvm.Cond.methodLink "PolyDeskLaw" (64 : Nat) ({ cls := "PolyDeskModel", name := "keep", desc := "(I)I" } : Jvm.MethodName)) ∈ BW := BW_of (List.mem_of_getElem? (i := 452) (by decide +kernel)) (by decide +kernel)
theorem mW453 : (Jvm.Cond.instanceMethod ({ cls := "PolyDeskModel", name := "keep", desc := "(I)I" } : Jvm.MethodName)) ∈ BW := BW_of (List.mem_of_getElem? (i := 453) (by decide +kernel)) (by decide +kernel)
theorem mW454 : (Jvm.Cond.selects "PolyDeskModel" ({ cls := "PolyDeskModel", name := "keep", desc := "(I)I" } : Jvm.MethodName) ({ cls := "PolyDeskModel", name := "keep", desc := "(I)I" } : Jvm.MethodName)) ∈ BW := BW_of (List.mem_of_getElem? (i := 454) (by decide +kernel)) (by decide +kernel)
theorem mW455 : (Jvm.Cond.code ({ cls := "PolyDeskModel", name := "keep", desc := "(I)I" } : Jvm.MethodName) prog_5_method_28_code (2 : Nat) (Option.some Jvm.ClassFile.FieldType.int)) ∈ BW := BW_of (List.mem_of_getElem? (i := 455) (by decide +kernel)) (by decide +kernel)
theorem mW456 : (Jvm.Cond.methodLink "PolyDeskLaw" (69 : Nat) ({ cls := "PolyDeskModel", name := "part", desc := "(IIIII)I" } : Jvm.MethodName)) ∈ BW := BW_of (List.mem_of_getElem? (i := 456) (by decide +kernel)) (by decide +kernel)
theorem mW457 : (Jvm.Cond.instanceMethod ({ cls := "PolyDeskModel", name := "part", desc := "(IIIII)I" } : Jvm.MethodName)) ∈ BW := BW_of (List.mem_of_getElem? (i := 457) (by decide +kernel)) (by decide +kernel)
theorem mW458 : (Jvm.Cond.selects "PolyDeskModel" ({ cls := "PolyDeskModel", name := "part", desc := "(IIIII)I" } : Jvm.MethodName) ({ cls := "PolyDeskModel", name := "part", desc := "(IIIII)I" } : Jvm.MethodName)) ∈ BW := BW_of (List.mem_of_getElem? (i := 458) (by decide +kernel)) (by decide +kernel)
theorem mW459 : (Jvm.Cond.code ({ cls := "PolyDeskModel", name := "part", desc := "(IIIII)I" } : Jvm.MethodName) prog_5_method_29_code (6 : Nat) (Option.some Jvm.ClassFile.FieldType.int)) ∈ BW := BW_of (List.mem_of_getElem? (i := 459) (by decide +kernel)) (by decide +kernel)
theorem mW460 : (Jvm.Cond.constant "PolyDeskModel" (124 : Nat) (99999999 : Int32)) ∈ BW := BW_of (List.mem_of_getElem? (i := 460) (by decide +kernel)) (by decide +kernel)
theorem mW461 : (Jvm.Cond.methodLink "PolyDeskLaw" (73 : Nat) ({ cls := "PolyDeskModel", name := "show", desc := "(II)I" } : Jvm.MethodName)) ∈ BW := BW_of (List.mem_of_getElem? (i := 461) (by decide +kernel)) (by decide +kernel)
theorem mW462 : (Jvm.Cond.instanceMethod ({ cls := "PolyDeskModel", name := "show", desc := "(II)I" } : Jvm.MethodName)) ∈ BW := BW_of (List.mem_of_getElem? (i := 462) (by decide +kernel)) (by decide +kernel)
theorem mW463 : (Jvm.Cond.selects "PolyDeskModel" ({ cls := "PolyDeskModel", name := "show", desc := "(II)I" } : Jvm.MethodName) ({ cls := "PolyDeskModel", name := "show", desc := "(II)I" } : Jvm.MethodName)) ∈ BW := BW_of (List.mem_of_getElem? (i := 463) (by decide +kernel)) (by decide +kernel)
theorem mW464 : (Jvm.Cond.code ({ cls := "PolyDeskModel", name := "show", desc := "(II)I" } : Jvm.MethodName) prog_5_method_31_code (7 : Nat) (Option.some Jvm.ClassFile.FieldType.int)) ∈ BW := BW_of (List.mem_of_getElem? (i := 464) (by decide +kernel)) (by decide +kernel)
theorem mW465 : (Jvm.Cond.methodLink "PolyDeskModel" (128 : Nat) ({ cls := "PolyDeskModel", name := "hypOf", desc := "(II)I" } : Jvm.MethodName)) ∈ BW := BW_of (List.mem_of_getElem? (i := 465) (by decide +kernel)) (by decide +kernel)
theorem mW467 : (Jvm.Cond.instanceMethod ({ cls := "PolyDeskModel", name := "hypOf", desc := "(II)I" } : Jvm.MethodName)) ∈ BW := BW_of (List.mem_of_getElem? (i := 467) (by decide +kernel)) (by decide +kernel)
theorem mW468 : (Jvm.Cond.code ({ cls := "PolyDeskModel", name := "hypOf", desc := "(II)I" } : Jvm.MethodName) prog_5_method_30_code (3 : Nat) (Option.some Jvm.ClassFile.FieldType.int)) ∈ BW := BW_of (List.mem_of_getElem? (i := 468) (by decide +kernel)) (by decide +kernel)
theorem mW469 : (Jvm.Cond.methodLink "PolyDeskLaw" (77 : Nat) ({ cls := "PolyDeskModel", name := "count", desc := "(I)I" } : Jvm.MethodName)) ∈ BW := BW_of (List.mem_of_getElem? (i := 469) (by decide +kernel)) (by decide +kernel)
theorem mW470 : (Jvm.Cond.instanceMethod ({ cls := "PolyDeskModel", name := "count", desc := "(I)I" } : Jvm.MethodName)) ∈ BW := BW_of (List.mem_of_getElem? (i := 470) (by decide +kernel)) (by decide +kernel)
theorem mW471 : (Jvm.Cond.selects "PolyDeskModel" ({ cls := "PolyDeskModel", name := "count", desc := "(I)I" } : Jvm.MethodName) ({ cls := "PolyDeskModel", name := "count", desc := "(I)I" } : Jvm.MethodName)) ∈ BW := BW_of (List.mem_of_getElem? (i := 471) (by decide +kernel)) (by decide +kernel)
theorem mW472 : (Jvm.Cond.code ({ cls := "PolyDeskModel", name := "count", desc := "(I)I" } : Jvm.MethodName) prog_5_method_32_code (2 : Nat) (Option.some Jvm.ClassFile.FieldType.int)) ∈ BW := BW_of (List.mem_of_getElem? (i := 472) (by decide +kernel)) (by decide +kernel)
theorem mS0 : (Jvm.Cond.selects "PolyDesk$Bench" ({ cls := "PolyDesk$Bench", name := "beginProduct", desc := "(JI)V" } : Jvm.MethodName) ({ cls := "PolyDesk$Bench", name := "beginProduct", desc := "(JI)V" } : Jvm.MethodName)) ∈ BW := List.mem_filter.mpr ⟨List.mem_append_left _ (List.mem_map.mpr ⟨(({ cls := "PolyDesk$Bench", name := "beginProduct", desc := "(JI)V" } : Jvm.MethodName), 5), List.mem_of_getElem? (i := 0) (by decide +kernel), rfl⟩), by decide +kernel⟩
theorem mS1 : (Jvm.Cond.selects "PolyDesk$Poly" ({ cls := "PolyDesk$Poly", name := "clear", desc := "()V" } : Jvm.MethodName) ({ cls := "PolyDesk$Poly", name := "clear", desc := "()V" } : Jvm.MethodName)) ∈ BW := List.mem_filter.mpr ⟨List.mem_append_left _ (List.mem_map.mpr ⟨(({ cls := "PolyDesk$Poly", name := "clear", desc := "()V" } : Jvm.MethodName), 5), List.mem_of_getElem? (i := 1) (by decide +kernel), rfl⟩), by decide +kernel⟩
theorem mS2 : (Jvm.Cond.selects "PolyDesk$Poly" ({ cls := "PolyDesk$Poly", name := "append", desc := "(JJ)Z" } : Jvm.MethodName) ({ cls := "PolyDesk$Poly", name := "append", desc := "(JJ)Z" } : Jvm.MethodName)) ∈ BW := List.mem_filter.mpr ⟨List.mem_append_left _ (List.mem_map.mpr ⟨(({ cls := "PolyDesk$Poly", name := "append", desc := "(JJ)Z" } : Jvm.MethodName), 5), List.mem_of_getElem? (i := 2) (by decide +kernel), rfl⟩), by decide +kernel⟩
theorem mS3 : (Jvm.Cond.selects "PolyDesk" ({ cls := "PolyDesk", name := "store", desc := "(ILPolyDesk$Poly;)I" } : Jvm.MethodName) ({ cls := "PolyDesk", name := "store", desc := "(ILPolyDesk$Poly;)I" } : Jvm.MethodName)) ∈ BW := List.mem_filter.mpr ⟨List.mem_append_left _ (List.mem_map.mpr ⟨(({ cls := "PolyDesk", name := "store", desc := "(ILPolyDesk$Poly;)I" } : Jvm.MethodName), 7), List.mem_of_getElem? (i := 3) (by decide +kernel), rfl⟩), by decide +kernel⟩
theorem mS4 : (Jvm.Cond.selects "PolyDesk$Poly" ({ cls := "PolyDesk$Poly", name := "copied", desc := "()LPolyDesk$Poly;" } : Jvm.MethodName) ({ cls := "PolyDesk$Poly", name := "copied", desc := "()LPolyDesk$Poly;" } : Jvm.MethodName)) ∈ BW := List.mem_filter.mpr ⟨List.mem_append_left _ (List.mem_map.mpr ⟨(({ cls := "PolyDesk$Poly", name := "copied", desc := "()LPolyDesk$Poly;" } : Jvm.MethodName), 5), List.mem_of_getElem? (i := 4) (by decide +kernel), rfl⟩), by decide +kernel⟩
theorem mS5 : (Jvm.Cond.selects "PolyDesk" ({ cls := "PolyDesk", name := "combine", desc := "(IIII)I" } : Jvm.MethodName) ({ cls := "PolyDesk", name := "combine", desc := "(IIII)I" } : Jvm.MethodName)) ∈ BW := List.mem_filter.mpr ⟨List.mem_append_left _ (List.mem_map.mpr ⟨(({ cls := "PolyDesk", name := "combine", desc := "(IIII)I" } : Jvm.MethodName), 7), List.mem_of_getElem? (i := 5) (by decide +kernel), rfl⟩), by decide +kernel⟩
theorem mS6 : (Jvm.Cond.selects "PolyDesk$Bench" ({ cls := "PolyDesk$Bench", name := "makeTotal", desc := "(LPolyDesk$Poly;LPolyDesk$Poly;I)Z" } : Jvm.MethodName) ({ cls := "PolyDesk$Bench", name := "makeTotal", desc := "(LPolyDesk$Poly;LPolyDesk$Poly;I)Z" } : Jvm.MethodName)) ∈ BW := List.mem_filter.mpr ⟨List.mem_append_left _ (List.mem_map.mpr ⟨(({ cls := "PolyDesk$Bench", name := "makeTotal", desc := "(LPolyDesk$Poly;LPolyDesk$Poly;I)Z" } : Jvm.MethodName), 5), List.mem_of_getElem? (i := 6) (by decide +kernel), rfl⟩), by decide +kernel⟩
theorem mS7 : (Jvm.Cond.selects "PolyDesk$Poly" ({ cls := "PolyDesk$Poly", name := "takeSum", desc := "(LPolyDesk$Poly;LPolyDesk$Poly;I)Z" } : Jvm.MethodName) ({ cls := "PolyDesk$Poly", name := "takeSum", desc := "(LPolyDesk$Poly;LPolyDesk$Poly;I)Z" } : Jvm.MethodName)) ∈ BW := List.mem_filter.mpr ⟨List.mem_append_left _ (List.mem_map.mpr ⟨(({ cls := "PolyDesk$Poly", name := "takeSum", desc := "(LPolyDesk$Poly;LPolyDesk$Poly;I)Z" } : Jvm.MethodName), 5), List.mem_of_getElem? (i := 7) (by decide +kernel), rfl⟩), by decide +kernel⟩
theorem mS8 : (Jvm.Cond.selects "PolyDesk$Bench" ({ cls := "PolyDesk$Bench", name := "makeProduct", desc := "(LPolyDesk$Poly;LPolyDesk$Poly;)Z" } : Jvm.MethodName) ({ cls := "PolyDesk$Bench", name := "makeProduct", desc := "(LPolyDesk$Poly;LPolyDesk$Poly;)Z" } : Jvm.MethodName)) ∈ BW := List.mem_filter.mpr ⟨List.mem_append_left _ (List.mem_map.mpr ⟨(({ cls := "PolyDesk$Bench", name := "makeProduct", desc := "(LPolyDesk$Poly;LPolyDesk$Poly;)Z" } : Jvm.MethodName), 5), List.mem_of_getElem? (i := 8) (by decide +kernel), rfl⟩), by decide +kernel⟩
theorem mS9 : (Jvm.Cond.selects "PolyDesk$Bench" ({ cls := "PolyDesk$Bench", name := "fillProduct", desc := "(LPolyDesk$Poly;LPolyDesk$Poly;LPolyDesk$Poly;)Z" } : Jvm.MethodName) ({ cls := "PolyDesk$Bench", name := "fillProduct", desc := "(LPolyDesk$Poly;LPolyDesk$Poly;LPolyDesk$Poly;)Z" } : Jvm.MethodName)) ∈ BW := List.mem_filter.mpr ⟨List.mem_append_left _ (List.mem_map.mpr ⟨(({ cls := "PolyDesk$Bench", name := "fillProduct", desc := "(LPolyDesk$Poly;LPolyDesk$Poly;LPolyDesk$Poly;)Z" } : Jvm.MethodName), 5), List.mem_of_getElem? (i := 9) (by decide +kernel), rfl⟩), by decide +kernel⟩
theorem mS10 : (Jvm.Cond.selects "PolyDesk$Poly" ({ cls := "PolyDesk$Poly", name := "takeTops", desc := "(LPolyDesk$Poly;LPolyDesk$Poly;)Z" } : Jvm.MethodName) ({ cls := "PolyDesk$Poly", name := "takeTops", desc := "(LPolyDesk$Poly;LPolyDesk$Poly;)Z" } : Jvm.MethodName)) ∈ BW := List.mem_filter.mpr ⟨List.mem_append_left _ (List.mem_map.mpr ⟨(({ cls := "PolyDesk$Poly", name := "takeTops", desc := "(LPolyDesk$Poly;LPolyDesk$Poly;)Z" } : Jvm.MethodName), 5), List.mem_of_getElem? (i := 10) (by decide +kernel), rfl⟩), by decide +kernel⟩
theorem mS11 : (Jvm.Cond.selects "PolyDesk$Poly" ({ cls := "PolyDesk$Poly", name := "findTops", desc := "()V" } : Jvm.MethodName) ({ cls := "PolyDesk$Poly", name := "findTops", desc := "()V" } : Jvm.MethodName)) ∈ BW := List.mem_filter.mpr ⟨List.mem_append_left _ (List.mem_map.mpr ⟨(({ cls := "PolyDesk$Poly", name := "findTops", desc := "()V" } : Jvm.MethodName), 5), List.mem_of_getElem? (i := 11) (by decide +kernel), rfl⟩), by decide +kernel⟩
theorem mS12 : (Jvm.Cond.selects "PolyDesk$Bench" ({ cls := "PolyDesk$Bench", name := "merge", desc := "(LPolyDesk$Poly;LPolyDesk$Poly;LPolyDesk$Poly;)Z" } : Jvm.MethodName) ({ cls := "PolyDesk$Bench", name := "merge", desc := "(LPolyDesk$Poly;LPolyDesk$Poly;LPolyDesk$Poly;)Z" } : Jvm.MethodName)) ∈ BW := List.mem_filter.mpr ⟨List.mem_append_left _ (List.mem_map.mpr ⟨(({ cls := "PolyDesk$Bench", name := "merge", desc := "(LPolyDesk$Poly;LPolyDesk$Poly;LPolyDesk$Poly;)Z" } : Jvm.MethodName), 5), List.mem_of_getElem? (i := 12) (by decide +kernel), rfl⟩), by decide +kernel⟩
theorem mS13 : (Jvm.Cond.selects "PolyDesk$Bench" ({ cls := "PolyDesk$Bench", name := "greatestCode", desc := "(LPolyDesk$Poly;LPolyDesk$Poly;)J" } : Jvm.MethodName) ({ cls := "PolyDesk$Bench", name := "greatestCode", desc := "(LPolyDesk$Poly;LPolyDesk$Poly;)J" } : Jvm.MethodName)) ∈ BW := List.mem_filter.mpr ⟨List.mem_append_left _ (List.mem_map.mpr ⟨(({ cls := "PolyDesk$Bench", name := "greatestCode", desc := "(LPolyDesk$Poly;LPolyDesk$Poly;)J" } : Jvm.MethodName), 5), List.mem_of_getElem? (i := 13) (by decide +kernel), rfl⟩), by decide +kernel⟩
theorem mS14 : (Jvm.Cond.selects "PolyDesk$Bench" ({ cls := "PolyDesk$Bench", name := "gather", desc := "(JLPolyDesk$Poly;LPolyDesk$Poly;)J" } : Jvm.MethodName) ({ cls := "PolyDesk$Bench", name := "gather", desc := "(JLPolyDesk$Poly;LPolyDesk$Poly;)J" } : Jvm.MethodName)) ∈ BW := List.mem_filter.mpr ⟨List.mem_append_left _ (List.mem_map.mpr ⟨(({ cls := "PolyDesk$Bench", name := "gather", desc := "(JLPolyDesk$Poly;LPolyDesk$Poly;)J" } : Jvm.MethodName), 5), List.mem_of_getElem? (i := 14) (by decide +kernel), rfl⟩), by decide +kernel⟩
theorem mS15 : (Jvm.Cond.selects "PolyDesk$Bench" ({ cls := "PolyDesk$Bench", name := "beginTotal", desc := "()V" } : Jvm.MethodName) ({ cls := "PolyDesk$Bench", name := "beginTotal", desc := "()V" } : Jvm.MethodName)) ∈ BW := List.mem_filter.mpr ⟨List.mem_append_left _ (List.mem_map.mpr ⟨(({ cls := "PolyDesk$Bench", name := "beginTotal", desc := "()V" } : Jvm.MethodName), 5), List.mem_of_getElem? (i := 15) (by decide +kernel), rfl⟩), by decide +kernel⟩
theorem mS16 : (Jvm.Cond.selects "PolyDesk" ({ cls := "PolyDesk", name := "workTerm", desc := "(LPolyDesk$Poly;I)Z" } : Jvm.MethodName) ({ cls := "PolyDesk", name := "workTerm", desc := "(LPolyDesk$Poly;I)Z" } : Jvm.MethodName)) ∈ BW := List.mem_filter.mpr ⟨List.mem_append_left _ (List.mem_map.mpr ⟨(({ cls := "PolyDesk", name := "workTerm", desc := "(LPolyDesk$Poly;I)Z" } : Jvm.MethodName), 7), List.mem_of_getElem? (i := 16) (by decide +kernel), rfl⟩), by decide +kernel⟩
theorem mS17 : (Jvm.Cond.selects "PolyDesk$Poly" ({ cls := "PolyDesk$Poly", name := "coefficientAt", desc := "(I)I" } : Jvm.MethodName) ({ cls := "PolyDesk$Poly", name := "coefficientAt", desc := "(I)I" } : Jvm.MethodName)) ∈ BW := List.mem_filter.mpr ⟨List.mem_append_left _ (List.mem_map.mpr ⟨(({ cls := "PolyDesk$Poly", name := "coefficientAt", desc := "(I)I" } : Jvm.MethodName), 5), List.mem_of_getElem? (i := 17) (by decide +kernel), rfl⟩), by decide +kernel⟩
theorem mS18 : (Jvm.Cond.selects "PolyDesk$Poly" ({ cls := "PolyDesk$Poly", name := "hasTerm", desc := "(I)Z" } : Jvm.MethodName) ({ cls := "PolyDesk$Poly", name := "hasTerm", desc := "(I)Z" } : Jvm.MethodName)) ∈ BW := List.mem_filter.mpr ⟨List.mem_append_left _ (List.mem_map.mpr ⟨(({ cls := "PolyDesk$Poly", name := "hasTerm", desc := "(I)Z" } : Jvm.MethodName), 5), List.mem_of_getElem? (i := 18) (by decide +kernel), rfl⟩), by decide +kernel⟩
theorem mS19 : (Jvm.Cond.selects "PolyDesk$Poly" ({ cls := "PolyDesk$Poly", name := "powerAt", desc := "(II)I" } : Jvm.MethodName) ({ cls := "PolyDesk$Poly", name := "powerAt", desc := "(II)I" } : Jvm.MethodName)) ∈ BW := List.mem_filter.mpr ⟨List.mem_append_left _ (List.mem_map.mpr ⟨(({ cls := "PolyDesk$Poly", name := "powerAt", desc := "(II)I" } : Jvm.MethodName), 5), List.mem_of_getElem? (i := 19) (by decide +kernel), rfl⟩), by decide +kernel⟩
theorem mS20 : (Jvm.Cond.selects "PolyDesk$Bench" ({ cls := "PolyDesk$Bench", name := "multiplyBy", desc := "(LPolyDesk$Poly;)Z" } : Jvm.MethodName) ({ cls := "PolyDesk$Bench", name := "multiplyBy", desc := "(LPolyDesk$Poly;)Z" } : Jvm.MethodName)) ∈ BW := List.mem_filter.mpr ⟨List.mem_append_left _ (List.mem_map.mpr ⟨(({ cls := "PolyDesk$Bench", name := "multiplyBy", desc := "(LPolyDesk$Poly;)Z" } : Jvm.MethodName), 5), List.mem_of_getElem? (i := 20) (by decide +kernel), rfl⟩), by decide +kernel⟩
theorem mS21 : (Jvm.Cond.selects "PolyDesk$Bench" ({ cls := "PolyDesk$Bench", name := "addProduct", desc := "()Z" } : Jvm.MethodName) ({ cls := "PolyDesk$Bench", name := "addProduct", desc := "()Z" } : Jvm.MethodName)) ∈ BW := List.mem_filter.mpr ⟨List.mem_append_left _ (List.mem_map.mpr ⟨(({ cls := "PolyDesk$Bench", name := "addProduct", desc := "()Z" } : Jvm.MethodName), 5), List.mem_of_getElem? (i := 21) (by decide +kernel), rfl⟩), by decide +kernel⟩
theorem mS22 : (Jvm.Cond.selects "PolyDesk$Poly" ({ cls := "PolyDesk$Poly", name := "matches", desc := "(LPolyDesk$Poly;)Z" } : Jvm.MethodName) ({ cls := "PolyDesk$Poly", name := "matches", desc := "(LPolyDesk$Poly;)Z" } : Jvm.MethodName)) ∈ BW := List.mem_filter.mpr ⟨List.mem_append_left _ (List.mem_map.mpr ⟨(({ cls := "PolyDesk$Poly", name := "matches", desc := "(LPolyDesk$Poly;)Z" } : Jvm.MethodName), 5), List.mem_of_getElem? (i := 22) (by decide +kernel), rfl⟩), by decide +kernel⟩
theorem mS23 : (Jvm.Cond.selects "PolyDesk$Poly" ({ cls := "PolyDesk$Poly", name := "valueWith", desc := "(I)J" } : Jvm.MethodName) ({ cls := "PolyDesk$Poly", name := "valueWith", desc := "(I)J" } : Jvm.MethodName)) ∈ BW := List.mem_filter.mpr ⟨List.mem_append_left _ (List.mem_map.mpr ⟨(({ cls := "PolyDesk$Poly", name := "valueWith", desc := "(I)J" } : Jvm.MethodName), 5), List.mem_of_getElem? (i := 23) (by decide +kernel), rfl⟩), by decide +kernel⟩
theorem mS24 : (Jvm.Cond.selects "PolyDesk" ({ cls := "PolyDesk", name := "judge", desc := "(LPolyDesk$Poly;I)I" } : Jvm.MethodName) ({ cls := "PolyDesk", name := "judge", desc := "(LPolyDesk$Poly;I)I" } : Jvm.MethodName)) ∈ BW := List.mem_filter.mpr ⟨List.mem_append_left _ (List.mem_map.mpr ⟨(({ cls := "PolyDesk", name := "judge", desc := "(LPolyDesk$Poly;I)I" } : Jvm.MethodName), 7), List.mem_of_getElem? (i := 24) (by decide +kernel), rfl⟩), by decide +kernel⟩
theorem mS25 : (Jvm.Cond.selects "PolyDesk" ({ cls := "PolyDesk", name := "factorsAreThere", desc := "()Z" } : Jvm.MethodName) ({ cls := "PolyDesk", name := "factorsAreThere", desc := "()Z" } : Jvm.MethodName)) ∈ BW := List.mem_filter.mpr ⟨List.mem_append_left _ (List.mem_map.mpr ⟨(({ cls := "PolyDesk", name := "factorsAreThere", desc := "()Z" } : Jvm.MethodName), 7), List.mem_of_getElem? (i := 25) (by decide +kernel), rfl⟩), by decide +kernel⟩
theorem mS26 : (Jvm.Cond.selects "PolyDesk" ({ cls := "PolyDesk", name := "workPart", desc := "(I)Z" } : Jvm.MethodName) ({ cls := "PolyDesk", name := "workPart", desc := "(I)Z" } : Jvm.MethodName)) ∈ BW := List.mem_filter.mpr ⟨List.mem_append_left _ (List.mem_map.mpr ⟨(({ cls := "PolyDesk", name := "workPart", desc := "(I)Z" } : Jvm.MethodName), 7), List.mem_of_getElem? (i := 26) (by decide +kernel), rfl⟩), by decide +kernel⟩
theorem mS27 : (Jvm.Cond.selects "PolyDeskModel" ({ cls := "PolyDeskModel", name := "whole", desc := "(IJ)Z" } : Jvm.MethodName) ({ cls := "PolyDeskModel", name := "whole", desc := "(IJ)Z" } : Jvm.MethodName)) ∈ BW := List.mem_filter.mpr ⟨List.mem_append_left _ (List.mem_map.mpr ⟨(({ cls := "PolyDeskModel", name := "whole", desc := "(IJ)Z" } : Jvm.MethodName), 16), List.mem_of_getElem? (i := 27) (by decide +kernel), rfl⟩), by decide +kernel⟩
theorem mS28 : (Jvm.Cond.selects "PolyDeskModel" ({ cls := "PolyDeskModel", name := "begin", desc := "()V" } : Jvm.MethodName) ({ cls := "PolyDeskModel", name := "begin", desc := "()V" } : Jvm.MethodName)) ∈ BW := List.mem_filter.mpr ⟨List.mem_append_left _ (List.mem_map.mpr ⟨(({ cls := "PolyDeskModel", name := "begin", desc := "()V" } : Jvm.MethodName), 16), List.mem_of_getElem? (i := 28) (by decide +kernel), rfl⟩), by decide +kernel⟩
theorem mS29 : (Jvm.Cond.selects "PolyDeskModel" ({ cls := "PolyDeskModel", name := "add", desc := "(JJJ)V" } : Jvm.MethodName) ({ cls := "PolyDeskModel", name := "add", desc := "(JJJ)V" } : Jvm.MethodName)) ∈ BW := List.mem_filter.mpr ⟨List.mem_append_left _ (List.mem_map.mpr ⟨(({ cls := "PolyDeskModel", name := "add", desc := "(JJJ)V" } : Jvm.MethodName), 16), List.mem_of_getElem? (i := 29) (by decide +kernel), rfl⟩), by decide +kernel⟩
theorem mS30 : (Jvm.Cond.selects "PolyDeskModel" ({ cls := "PolyDeskModel", name := "to", desc := "(I)Z" } : Jvm.MethodName) ({ cls := "PolyDeskModel", name := "to", desc := "(I)Z" } : Jvm.MethodName)) ∈ BW := List.mem_filter.mpr ⟨List.mem_append_left _ (List.mem_map.mpr ⟨(({ cls := "PolyDeskModel", name := "to", desc := "(I)Z" } : Jvm.MethodName), 16), List.mem_of_getElem? (i := 30) (by decide +kernel), rfl⟩), by decide +kernel⟩
theorem mS31 : (Jvm.Cond.selects "PolyDeskModel" ({ cls := "PolyDeskModel", name := "swap", desc := "(II)V" } : Jvm.MethodName) ({ cls := "PolyDeskModel", name := "swap", desc := "(II)V" } : Jvm.MethodName)) ∈ BW := List.mem_filter.mpr ⟨List.mem_append_left _ (List.mem_map.mpr ⟨(({ cls := "PolyDeskModel", name := "swap", desc := "(II)V" } : Jvm.MethodName), 16), List.mem_of_getElem? (i := 31) (by decide +kernel), rfl⟩), by decide +kernel⟩
theorem mS32 : (Jvm.Cond.selects "PolyDeskModel" ({ cls := "PolyDeskModel", name := "isAhead", desc := "(II)Z" } : Jvm.MethodName) ({ cls := "PolyDeskModel", name := "isAhead", desc := "(II)Z" } : Jvm.MethodName)) ∈ BW := List.mem_filter.mpr ⟨List.mem_append_left _ (List.mem_map.mpr ⟨(({ cls := "PolyDeskModel", name := "isAhead", desc := "(II)Z" } : Jvm.MethodName), 16), List.mem_of_getElem? (i := 32) (by decide +kernel), rfl⟩), by decide +kernel⟩
theorem mS33 : (Jvm.Cond.selects "PolyDeskModel" ({ cls := "PolyDeskModel", name := "sum", desc := "(IIIJ)Z" } : Jvm.MethodName) ({ cls := "PolyDeskModel", name := "sum", desc := "(IIIJ)Z" } : Jvm.MethodName)) ∈ BW := List.mem_filter.mpr ⟨List.mem_append_left _ (List.mem_map.mpr ⟨(({ cls := "PolyDeskModel", name := "sum", desc := "(IIIJ)Z" } : Jvm.MethodName), 16), List.mem_of_getElem? (i := 33) (by decide +kernel), rfl⟩), by decide +kernel⟩
theorem mS34 : (Jvm.Cond.selects "PolyDeskModel" ({ cls := "PolyDeskModel", name := "addAll", desc := "(IJ)V" } : Jvm.MethodName) ({ cls := "PolyDeskModel", name := "addAll", desc := "(IJ)V" } : Jvm.MethodName)) ∈ BW := List.mem_filter.mpr ⟨List.mem_append_left _ (List.mem_map.mpr ⟨(({ cls := "PolyDeskModel", name := "addAll", desc := "(IJ)V" } : Jvm.MethodName), 16), List.mem_of_getElem? (i := 34) (by decide +kernel), rfl⟩), by decide +kernel⟩
theorem mS35 : (Jvm.Cond.selects "PolyDeskModel" ({ cls := "PolyDeskModel", name := "product", desc := "(III)Z" } : Jvm.MethodName) ({ cls := "PolyDeskModel", name := "product", desc := "(III)Z" } : Jvm.MethodName)) ∈ BW := List.mem_filter.mpr ⟨List.mem_append_left _ (List.mem_map.mpr ⟨(({ cls := "PolyDeskModel", name := "product", desc := "(III)Z" } : Jvm.MethodName), 16), List.mem_of_getElem? (i := 35) (by decide +kernel), rfl⟩), by decide +kernel⟩
theorem mS36 : (Jvm.Cond.selects "PolyDeskModel" ({ cls := "PolyDeskModel", name := "power", desc := "(II)I" } : Jvm.MethodName) ({ cls := "PolyDeskModel", name := "power", desc := "(II)I" } : Jvm.MethodName)) ∈ BW := List.mem_filter.mpr ⟨List.mem_append_left _ (List.mem_map.mpr ⟨(({ cls := "PolyDeskModel", name := "power", desc := "(II)I" } : Jvm.MethodName), 16), List.mem_of_getElem? (i := 36) (by decide +kernel), rfl⟩), by decide +kernel⟩
theorem mS37 : (Jvm.Cond.selects "PolyDeskModel" ({ cls := "PolyDeskModel", name := "copy", desc := "(II)V" } : Jvm.MethodName) ({ cls := "PolyDeskModel", name := "copy", desc := "(II)V" } : Jvm.MethodName)) ∈ BW := List.mem_filter.mpr ⟨List.mem_append_left _ (List.mem_map.mpr ⟨(({ cls := "PolyDeskModel", name := "copy", desc := "(II)V" } : Jvm.MethodName), 16), List.mem_of_getElem? (i := 37) (by decide +kernel), rfl⟩), by decide +kernel⟩
theorem mS38 : (Jvm.Cond.selects "PolyDeskModel" ({ cls := "PolyDeskModel", name := "isSame", desc := "(II)Z" } : Jvm.MethodName) ({ cls := "PolyDeskModel", name := "isSame", desc := "(II)Z" } : Jvm.MethodName)) ∈ BW := List.mem_filter.mpr ⟨List.mem_append_left _ (List.mem_map.mpr ⟨(({ cls := "PolyDeskModel", name := "isSame", desc := "(II)Z" } : Jvm.MethodName), 16), List.mem_of_getElem? (i := 38) (by decide +kernel), rfl⟩), by decide +kernel⟩
theorem mS39 : (Jvm.Cond.selects "PolyDeskModel" ({ cls := "PolyDeskModel", name := "hypOf", desc := "(II)I" } : Jvm.MethodName) ({ cls := "PolyDeskModel", name := "hypOf", desc := "(II)I" } : Jvm.MethodName)) ∈ BW := List.mem_filter.mpr ⟨List.mem_append_left _ (List.mem_map.mpr ⟨(({ cls := "PolyDeskModel", name := "hypOf", desc := "(II)I" } : Jvm.MethodName), 16), List.mem_of_getElem? (i := 39) (by decide +kernel), rfl⟩), by decide +kernel⟩
def nestW : List Cond := [(Jvm.Cond.methodLinkNest "PolyDesk" (9 : Nat) ({ cls := "PolyDesk$Poly", name := "<init>", desc := "(I)V" } : Jvm.MethodName) "PolyDesk"), (Jvm.Cond.fieldLinkNest "PolyDesk$Bench" (69 : Nat) "PolyDesk$Poly" "codes" "[J" "PolyDesk"), (Jvm.Cond.fieldLinkNest "PolyDesk$Bench" (79 : Nat) "PolyDesk$Poly" "coefficients" "[I" "PolyDesk"), (Jvm.Cond.fieldLinkNest "PolyDesk" (78 : Nat) "PolyDesk$Poly" "length" "I" "PolyDesk"), (Jvm.Cond.fieldLinkNest "PolyDesk$Bench" (49 : Nat) "PolyDesk$Poly" "length" "I" "PolyDesk"), (Jvm.Cond.methodLinkNest "PolyDesk" (37 : Nat) ({ cls := "PolyDesk$Bench", name := "<init>", desc := "()V" } : Jvm.MethodName) "PolyDesk"), (Jvm.Cond.methodLinkNest "PolyDesk$Bench" (11 : Nat) ({ cls := "PolyDesk$Poly", name := "<init>", desc := "(I)V" } : Jvm.MethodName) "PolyDesk"), (Jvm.Cond.fieldLinkNest "PolyDesk" (52 : Nat) "PolyDesk$Bench" "product" "LPolyDesk$Poly;" "PolyDesk"), (Jvm.Cond.fieldLinkNest "PolyDesk" (89 : Nat) "PolyDesk$Bench" "total" "LPolyDesk$Poly;" "PolyDesk"), (Jvm.Cond.methodLinkNest "PolyDesk" (48 : Nat) ({ cls := "PolyDesk$Bench", name := "beginProduct", desc := "(JI)V" } : Jvm.MethodName) "PolyDesk"), (Jvm.Cond.methodLinkNest "PolyDesk$Bench" (34 : Nat) ({ cls := "PolyDesk$Poly", name := "clear", desc := "()V" } : Jvm.MethodName) "PolyDesk"), (Jvm.Cond.methodLinkNest "PolyDesk$Bench" (37 : Nat) ({ cls := "PolyDesk$Poly", name := "append", desc := "(JJ)Z" } : Jvm.MethodName) "PolyDesk"), (Jvm.Cond.methodLinkNest "PolyDesk" (115 : Nat) ({ cls := "PolyDesk$Poly", name := "copied", desc := "()LPolyDesk$Poly;" } : Jvm.MethodName) "PolyDesk"), (Jvm.Cond.methodLinkNest "PolyDesk" (119 : Nat) ({ cls := "PolyDesk$Bench", name := "makeTotal", desc := "(LPolyDesk$Poly;LPolyDesk$Poly;I)Z" } : Jvm.MethodName) "PolyDesk"), (Jvm.Cond.methodLinkNest "PolyDesk$Bench" (41 : Nat) ({ cls := "PolyDesk$Poly", name := "takeSum", desc := "(LPolyDesk$Poly;LPolyDesk$Poly;I)Z" } : Jvm.MethodName) "PolyDesk"), (Jvm.Cond.methodLinkNest "PolyDesk" (71 : Nat) ({ cls := "PolyDesk$Bench", name := "makeProduct", desc := "(LPolyDesk$Poly;LPolyDesk$Poly;)Z" } : Jvm.MethodName) "PolyDesk"), (Jvm.Cond.methodLinkNest "PolyDesk$Bench" (52 : Nat) ({ cls := "PolyDesk$Poly", name := "takeTops", desc := "(LPolyDesk$Poly;LPolyDesk$Poly;)Z" } : Jvm.MethodName) "PolyDesk"), (Jvm.Cond.methodLinkNest "PolyDesk" (75 : Nat) ({ cls := "PolyDesk$Bench", name := "beginTotal", desc := "()V" } : Jvm.MethodName) "PolyDesk"), (Jvm.Cond.methodLinkNest "PolyDesk" (92 : Nat) ({ cls := "PolyDesk$Poly", name := "coefficientAt", desc := "(I)I" } : Jvm.MethodName) "PolyDesk"), (Jvm.Cond.methodLinkNest "PolyDesk" (96 : Nat) ({ cls := "PolyDesk$Poly", name := "powerAt", desc := "(II)I" } : Jvm.MethodName) "PolyDesk"), (Jvm.Cond.methodLinkNest "PolyDesk$Poly" (54 : Nat) ({ cls := "PolyDesk", name := "isSymbol", desc := "(I)Z" } : Jvm.MethodName) "PolyDesk"), (Jvm.Cond.methodLinkNest "PolyDesk" (123 : Nat) ({ cls := "PolyDesk$Bench", name := "multiplyBy", desc := "(LPolyDesk$Poly;)Z" } : Jvm.MethodName) "PolyDesk"), (Jvm.Cond.methodLinkNest "PolyDesk" (85 : Nat) ({ cls := "PolyDesk$Bench", name := "addProduct", desc := "()Z" } : Jvm.MethodName) "PolyDesk"), (Jvm.Cond.methodLinkNest "PolyDesk" (100 : Nat) ({ cls := "PolyDesk$Poly", name := "matches", desc := "(LPolyDesk$Poly;)Z" } : Jvm.MethodName) "PolyDesk"), (Jvm.Cond.methodLinkNest "PolyDesk" (104 : Nat) ({ cls := "PolyDesk$Poly", name := "valueWith", desc := "(I)J" } : Jvm.MethodName) "PolyDesk")]
theorem mN16 : (Jvm.Cond.methodLinkNest "PolyDesk" (9 : Nat) ({ cls := "PolyDesk$Poly", name := "<init>", desc := "(I)V" } : Jvm.MethodName) "PolyDesk") ∈ nestW := List.mem_of_getElem? (i := 0) (by decide +kernel)
theorem mN27 : (Jvm.Cond.fieldLinkNest "PolyDesk$Bench" (69 : Nat) "PolyDesk$Poly" "codes" "[J" "PolyDesk") ∈ nestW := List.mem_of_getElem? (i := 1) (by decide +kernel)
theorem mN29 : (Jvm.Cond.fieldLinkNest "PolyDesk$Bench" (79 : Nat) "PolyDesk$Poly" "coefficients" "[I" "PolyDesk") ∈ nestW := List.mem_of_getElem? (i := 2) (by decide +kernel)
theorem mN31 : (Jvm.Cond.fieldLinkNest "PolyDesk" (78 : Nat) "PolyDesk$Poly" "length" "I" "PolyDesk") ∈ nestW := List.mem_of_getElem? (i := 3) (by decide +kernel)
theorem mN32 : (Jvm.Cond.fieldLinkNest "PolyDesk$Bench" (49 : Nat) "PolyDesk$Poly" "length" "I" "PolyDesk") ∈ nestW := List.mem_of_getElem? (i := 4) (by decide +kernel)
theorem mN51 : (Jvm.Cond.methodLinkNest "PolyDesk" (37 : Nat) ({ cls := "PolyDesk$Bench", name := "<init>", desc := "()V" } : Jvm.MethodName) "PolyDesk") ∈ nestW := List.mem_of_getElem? (i := 5) (by decide +kernel)
theorem mN56 : (Jvm.Cond.methodLinkNest "PolyDesk$Bench" (11 : Nat) ({ cls := "PolyDesk$Poly", name := "<init>", desc := "(I)V" } : Jvm.MethodName) "PolyDesk") ∈ nestW := List.mem_of_getElem? (i := 6) (by decide +kernel)
theorem mN58 : (Jvm.Cond.fieldLinkNest "PolyDesk" (52 : Nat) "PolyDesk$Bench" "product" "LPolyDesk$Poly;" "PolyDesk") ∈ nestW := List.mem_of_getElem? (i := 7) (by decide +kernel)
theorem mN60 : (Jvm.Cond.fieldLinkNest "PolyDesk" (89 : Nat) "PolyDesk$Bench" "total" "LPolyDesk$Poly;" "PolyDesk") ∈ nestW := List.mem_of_getElem? (i := 8) (by decide +kernel)
theorem mN106 : (Jvm.Cond.methodLinkNest "PolyDesk" (48 : Nat) ({ cls := "PolyDesk$Bench", name := "beginProduct", desc := "(JI)V" } : Jvm.MethodName) "PolyDesk") ∈ nestW := List.mem_of_getElem? (i := 9) (by decide +kernel)
theorem mN110 : (Jvm.Cond.methodLinkNest "PolyDesk$Bench" (34 : Nat) ({ cls := "PolyDesk$Poly", name := "clear", desc := "()V" } : Jvm.MethodName) "PolyDesk") ∈ nestW := List.mem_of_getElem? (i := 10) (by decide +kernel)
theorem mN114 : (Jvm.Cond.methodLinkNest "PolyDesk$Bench" (37 : Nat) ({ cls := "PolyDesk$Poly", name := "append", desc := "(JJ)Z" } : Jvm.MethodName) "PolyDesk") ∈ nestW := List.mem_of_getElem? (i := 11) (by decide +kernel)
theorem mN124 : (Jvm.Cond.methodLinkNest "PolyDesk" (115 : Nat) ({ cls := "PolyDesk$Poly", name := "copied", desc := "()LPolyDesk$Poly;" } : Jvm.MethodName) "PolyDesk") ∈ nestW := List.mem_of_getElem? (i := 12) (by decide +kernel)
theorem mN151 : (Jvm.Cond.methodLinkNest "PolyDesk" (119 : Nat) ({ cls := "PolyDesk$Bench", name := "makeTotal", desc := "(LPolyDesk$Poly;LPolyDesk$Poly;I)Z" } : Jvm.MethodName) "PolyDesk") ∈ nestW := List.mem_of_getElem? (i := 13) (by decide +kernel)
theorem mN155 : (Jvm.Cond.methodLinkNest "PolyDesk$Bench" (41 : Nat) ({ cls := "PolyDesk$Poly", name := "takeSum", desc := "(LPolyDesk$Poly;LPolyDesk$Poly;I)Z" } : Jvm.MethodName) "PolyDesk") ∈ nestW := List.mem_of_getElem? (i := 14) (by decide +kernel)
theorem mN168 : (Jvm.Cond.methodLinkNest "PolyDesk" (71 : Nat) ({ cls := "PolyDesk$Bench", name := "makeProduct", desc := "(LPolyDesk$Poly;LPolyDesk$Poly;)Z" } : Jvm.MethodName) "PolyDesk") ∈ nestW := List.mem_of_getElem? (i := 15) (by decide +kernel)
theorem mN176 : (Jvm.Cond.methodLinkNest "PolyDesk$Bench" (52 : Nat) ({ cls := "PolyDesk$Poly", name := "takeTops", desc := "(LPolyDesk$Poly;LPolyDesk$Poly;)Z" } : Jvm.MethodName) "PolyDesk") ∈ nestW := List.mem_of_getElem? (i := 16) (by decide +kernel)
theorem mN205 : (Jvm.Cond.methodLinkNest "PolyDesk" (75 : Nat) ({ cls := "PolyDesk$Bench", name := "beginTotal", desc := "()V" } : Jvm.MethodName) "PolyDesk") ∈ nestW := List.mem_of_getElem? (i := 17) (by decide +kernel)
theorem mN213 : (Jvm.Cond.methodLinkNest "PolyDesk" (92 : Nat) ({ cls := "PolyDesk$Poly", name := "coefficientAt", desc := "(I)I" } : Jvm.MethodName) "PolyDesk") ∈ nestW := List.mem_of_getElem? (i := 18) (by decide +kernel)
theorem mN221 : (Jvm.Cond.methodLinkNest "PolyDesk" (96 : Nat) ({ cls := "PolyDesk$Poly", name := "powerAt", desc := "(II)I" } : Jvm.MethodName) "PolyDesk") ∈ nestW := List.mem_of_getElem? (i := 19) (by decide +kernel)
theorem mN225 : (Jvm.Cond.methodLinkNest "PolyDesk$Poly" (54 : Nat) ({ cls := "PolyDesk", name := "isSymbol", desc := "(I)Z" } : Jvm.MethodName) "PolyDesk") ∈ nestW := List.mem_of_getElem? (i := 20) (by decide +kernel)
theorem mN226 : (Jvm.Cond.methodLinkNest "PolyDesk" (123 : Nat) ({ cls := "PolyDesk$Bench", name := "multiplyBy", desc := "(LPolyDesk$Poly;)Z" } : Jvm.MethodName) "PolyDesk") ∈ nestW := List.mem_of_getElem? (i := 21) (by decide +kernel)
theorem mN230 : (Jvm.Cond.methodLinkNest "PolyDesk" (85 : Nat) ({ cls := "PolyDesk$Bench", name := "addProduct", desc := "()Z" } : Jvm.MethodName) "PolyDesk") ∈ nestW := List.mem_of_getElem? (i := 22) (by decide +kernel)
theorem mN246 : (Jvm.Cond.methodLinkNest "PolyDesk" (100 : Nat) ({ cls := "PolyDesk$Poly", name := "matches", desc := "(LPolyDesk$Poly;)Z" } : Jvm.MethodName) "PolyDesk") ∈ nestW := List.mem_of_getElem? (i := 23) (by decide +kernel)
theorem mN254 : (Jvm.Cond.methodLinkNest "PolyDesk" (104 : Nat) ({ cls := "PolyDesk$Poly", name := "valueWith", desc := "(I)J" } : Jvm.MethodName) "PolyDesk") ∈ nestW := List.mem_of_getElem? (i := 24) (by decide +kernel)
theorem mT16 : (Jvm.Cond.methodLinkNest "PolyDesk" (9 : Nat) ({ cls := "PolyDesk$Poly", name := "<init>", desc := "(I)V" } : Jvm.MethodName) "PolyDesk") ∈ lw_tbl := List.mem_append_right _ (List.mem_of_getElem? (i := 16) (by decide +kernel))
theorem mT27 : (Jvm.Cond.fieldLinkNest "PolyDesk$Bench" (69 : Nat) "PolyDesk$Poly" "codes" "[J" "PolyDesk") ∈ lw_tbl := List.mem_append_right _ (List.mem_of_getElem? (i := 27) (by decide +kernel))
theorem mT29 : (Jvm.Cond.fieldLinkNest "PolyDesk$Bench" (79 : Nat) "PolyDesk$Poly" "coefficients" "[I" "PolyDesk") ∈ lw_tbl := List.mem_append_right _ (List.mem_of_getElem? (i := 29) (by decide +kernel))
theorem mT31 : (Jvm.Cond.fieldLinkNest "PolyDesk" (78 : Nat) "PolyDesk$Poly" "length" "I" "PolyDesk") ∈ lw_tbl := List.mem_append_right _ (List.mem_of_getElem? (i := 31) (by decide +kernel))
theorem mT32 : (Jvm.Cond.fieldLinkNest "PolyDesk$Bench" (49 : Nat) "PolyDesk$Poly" "length" "I" "PolyDesk") ∈ lw_tbl := List.mem_append_right _ (List.mem_of_getElem? (i := 32) (by decide +kernel))
theorem mT51 : (Jvm.Cond.methodLinkNest "PolyDesk" (37 : Nat) ({ cls := "PolyDesk$Bench", name := "<init>", desc := "()V" } : Jvm.MethodName) "PolyDesk") ∈ lw_tbl := List.mem_append_right _ (List.mem_of_getElem? (i := 51) (by decide +kernel))
theorem mT56 : (Jvm.Cond.methodLinkNest "PolyDesk$Bench" (11 : Nat) ({ cls := "PolyDesk$Poly", name := "<init>", desc := "(I)V" } : Jvm.MethodName) "PolyDesk") ∈ lw_tbl := List.mem_append_right _ (List.mem_of_getElem? (i := 56) (by decide +kernel))
theorem mT58 : (Jvm.Cond.fieldLinkNest "PolyDesk" (52 : Nat) "PolyDesk$Bench" "product" "LPolyDesk$Poly;" "PolyDesk") ∈ lw_tbl := List.mem_append_right _ (List.mem_of_getElem? (i := 58) (by decide +kernel))
theorem mT60 : (Jvm.Cond.fieldLinkNest "PolyDesk" (89 : Nat) "PolyDesk$Bench" "total" "LPolyDesk$Poly;" "PolyDesk") ∈ lw_tbl := List.mem_append_right _ (List.mem_of_getElem? (i := 60) (by decide +kernel))
theorem mT106 : (Jvm.Cond.methodLinkNest "PolyDesk" (48 : Nat) ({ cls := "PolyDesk$Bench", name := "beginProduct", desc := "(JI)V" } : Jvm.MethodName) "PolyDesk") ∈ lw_tbl := List.mem_append_right _ (List.mem_of_getElem? (i := 106) (by decide +kernel))
theorem mT110 : (Jvm.Cond.methodLinkNest "PolyDesk$Bench" (34 : Nat) ({ cls := "PolyDesk$Poly", name := "clear", desc := "()V" } : Jvm.MethodName) "PolyDesk") ∈ lw_tbl := List.mem_append_right _ (List.mem_of_getElem? (i := 110) (by decide +kernel))
theorem mT114 : (Jvm.Cond.methodLinkNest "PolyDesk$Bench" (37 : Nat) ({ cls := "PolyDesk$Poly", name := "append", desc := "(JJ)Z" } : Jvm.MethodName) "PolyDesk") ∈ lw_tbl := List.mem_append_right _ (List.mem_of_getElem? (i := 114) (by decide +kernel))
theorem mT124 : (Jvm.Cond.methodLinkNest "PolyDesk" (115 : Nat) ({ cls := "PolyDesk$Poly", name := "copied", desc := "()LPolyDesk$Poly;" } : Jvm.MethodName) "PolyDesk") ∈ lw_tbl := List.mem_append_right _ (List.mem_of_getElem? (i := 124) (by decide +kernel))
theorem mT151 : (Jvm.Cond.methodLinkNest "PolyDesk" (119 : Nat) ({ cls := "PolyDesk$Bench", name := "makeTotal", desc := "(LPolyDesk$Poly;LPolyDesk$Poly;I)Z" } : Jvm.MethodName) "PolyDesk") ∈ lw_tbl := List.mem_append_right _ (List.mem_of_getElem? (i := 151) (by decide +kernel))
theorem mT155 : (Jvm.Cond.methodLinkNest "PolyDesk$Bench" (41 : Nat) ({ cls := "PolyDesk$Poly", name := "takeSum", desc := "(LPolyDesk$Poly;LPolyDesk$Poly;I)Z" } : Jvm.MethodName) "PolyDesk") ∈ lw_tbl := List.mem_append_right _ (List.mem_of_getElem? (i := 155) (by decide +kernel))
theorem mT168 : (Jvm.Cond.methodLinkNest "PolyDesk" (71 : Nat) ({ cls := "PolyDesk$Bench", name := "makeProduct", desc := "(LPolyDesk$Poly;LPolyDesk$Poly;)Z" } : Jvm.MethodName) "PolyDesk") ∈ lw_tbl := List.mem_append_right _ (List.mem_of_getElem? (i := 168) (by decide +kernel))
theorem mT176 : (Jvm.Cond.methodLinkNest "PolyDesk$Bench" (52 : Nat) ({ cls := "PolyDesk$Poly", name := "takeTops", desc := "(LPolyDesk$Poly;LPolyDesk$Poly;)Z" } : Jvm.MethodName) "PolyDesk") ∈ lw_tbl := List.mem_append_right _ (List.mem_of_getElem? (i := 176) (by decide +kernel))
theorem mT205 : (Jvm.Cond.methodLinkNest "PolyDesk" (75 : Nat) ({ cls := "PolyDesk$Bench", name := "beginTotal", desc := "()V" } : Jvm.MethodName) "PolyDesk") ∈ lw_tbl := List.mem_append_right _ (List.mem_of_getElem? (i := 205) (by decide +kernel))
theorem mT213 : (Jvm.Cond.methodLinkNest "PolyDesk" (92 : Nat) ({ cls := "PolyDesk$Poly", name := "coefficientAt", desc := "(I)I" } : Jvm.MethodName) "PolyDesk") ∈ lw_tbl := List.mem_append_right _ (List.mem_of_getElem? (i := 213) (by decide +kernel))
theorem mT221 : (Jvm.Cond.methodLinkNest "PolyDesk" (96 : Nat) ({ cls := "PolyDesk$Poly", name := "powerAt", desc := "(II)I" } : Jvm.MethodName) "PolyDesk") ∈ lw_tbl := List.mem_append_right _ (List.mem_of_getElem? (i := 221) (by decide +kernel))
theorem mT225 : (Jvm.Cond.methodLinkNest "PolyDesk$Poly" (54 : Nat) ({ cls := "PolyDesk", name := "isSymbol", desc := "(I)Z" } : Jvm.MethodName) "PolyDesk") ∈ lw_tbl := List.mem_append_right _ (List.mem_of_getElem? (i := 225) (by decide +kernel))
theorem mT226 : (Jvm.Cond.methodLinkNest "PolyDesk" (123 : Nat) ({ cls := "PolyDesk$Bench", name := "multiplyBy", desc := "(LPolyDesk$Poly;)Z" } : Jvm.MethodName) "PolyDesk") ∈ lw_tbl := List.mem_append_right _ (List.mem_of_getElem? (i := 226) (by decide +kernel))
theorem mT230 : (Jvm.Cond.methodLinkNest "PolyDesk" (85 : Nat) ({ cls := "PolyDesk$Bench", name := "addProduct", desc := "()Z" } : Jvm.MethodName) "PolyDesk") ∈ lw_tbl := List.mem_append_right _ (List.mem_of_getElem? (i := 230) (by decide +kernel))
theorem mT246 : (Jvm.Cond.methodLinkNest "PolyDesk" (100 : Nat) ({ cls := "PolyDesk$Poly", name := "matches", desc := "(LPolyDesk$Poly;)Z" } : Jvm.MethodName) "PolyDesk") ∈ lw_tbl := List.mem_append_right _ (List.mem_of_getElem? (i := 246) (by decide +kernel))
theorem mT254 : (Jvm.Cond.methodLinkNest "PolyDesk" (104 : Nat) ({ cls := "PolyDesk$Poly", name := "valueWith", desc := "(I)J" } : Jvm.MethodName) "PolyDesk") ∈ lw_tbl := List.mem_append_right _ (List.mem_of_getElem? (i := 254) (by decide +kernel))
theorem nestW_in : ∀ w ∈ nestW, w ∈ lw_tbl := List.forall_mem_cons.mpr ⟨mT16, List.forall_mem_cons.mpr ⟨mT27, List.forall_mem_cons.mpr ⟨mT29, List.forall_mem_cons.mpr ⟨mT31, List.forall_mem_cons.mpr ⟨mT32, List.forall_mem_cons.mpr ⟨mT51, List.forall_mem_cons.mpr ⟨mT56, List.forall_mem_cons.mpr ⟨mT58, List.forall_mem_cons.mpr ⟨mT60, List.forall_mem_cons.mpr ⟨mT106, List.forall_mem_cons.mpr ⟨mT110, List.forall_mem_cons.mpr ⟨mT114, List.forall_mem_cons.mpr ⟨mT124, List.forall_mem_cons.mpr ⟨mT151, List.forall_mem_cons.mpr ⟨mT155, List.forall_mem_cons.mpr ⟨mT168, List.forall_mem_cons.mpr ⟨mT176, List.forall_mem_cons.mpr ⟨mT205, List.forall_mem_cons.mpr ⟨mT213, List.forall_mem_cons.mpr ⟨mT221, List.forall_mem_cons.mpr ⟨mT225, List.forall_mem_cons.mpr ⟨mT226, List.forall_mem_cons.mpr ⟨mT230, List.forall_mem_cons.mpr ⟨mT246, List.forall_mem_cons.mpr ⟨mT254, fun _ h => absurd h List.not_mem_nil⟩⟩⟩⟩⟩⟩⟩⟩⟩⟩⟩⟩⟩⟩⟩⟩⟩⟩⟩⟩⟩⟩⟩⟩⟩
theorem mAO : (Jvm.Cond.arrayOver (Jvm.ClassFile.FieldType.object "PolyDesk$Poly")) ∈ lw_tbl := List.mem_append_right _ (List.mem_of_getElem? (i := 48) (by decide +kernel))
theorem fwX0 : ∀ w ∈ u_ws RX0 TX0 5, w ∈ BW := by
  show ∀ w ∈ [u_lay RX0 TX0 0, u_lay RX0 TX0 1, u_lay RX0 TX0 2, u_lay RX0 TX0 3, u_lay RX0 TX0 4], w ∈ BW
  exact List.forall_mem_cons.mpr ⟨mW64, List.forall_mem_cons.mpr ⟨mW66, List.forall_mem_cons.mpr ⟨mW68, List.forall_mem_cons.mpr ⟨mW70, List.forall_mem_cons.mpr ⟨mW72, fun _ h => absurd h List.not_mem_nil⟩⟩⟩⟩⟩
theorem fwX1 : ∀ w ∈ u_ws RX1 TX1 5, w ∈ BW := by
  show ∀ w ∈ [u_lay RX1 TX1 0, u_lay RX1 TX1 1, u_lay RX1 TX1 2, u_lay RX1 TX1 3, u_lay RX1 TX1 4], w ∈ BW
  exact List.forall_mem_cons.mpr ⟨mW35, List.forall_mem_cons.mpr ⟨mW37, List.forall_mem_cons.mpr ⟨mW39, List.forall_mem_cons.mpr ⟨mW41, List.forall_mem_cons.mpr ⟨mW43, fun _ h => absurd h List.not_mem_nil⟩⟩⟩⟩⟩
theorem fwX2 : ∀ w ∈ u_ws RX2 TX2 7, w ∈ BW := by
  show ∀ w ∈ [u_lay RX2 TX2 0, u_lay RX2 TX2 1, u_lay RX2 TX2 2, u_lay RX2 TX2 3, u_lay RX2 TX2 4, u_lay RX2 TX2 5, u_lay RX2 TX2 6], w ∈ BW
  exact List.forall_mem_cons.mpr ⟨mW82, List.forall_mem_cons.mpr ⟨mW84, List.forall_mem_cons.mpr ⟨mW86, List.forall_mem_cons.mpr ⟨mW88, List.forall_mem_cons.mpr ⟨mW90, List.forall_mem_cons.mpr ⟨mW92, List.forall_mem_cons.mpr ⟨mW94, fun _ h => absurd h List.not_mem_nil⟩⟩⟩⟩⟩⟩⟩
theorem fwX3 : ∀ w ∈ u_ws RX3 TX3 16, w ∈ BW := by
  show ∀ w ∈ [u_lay RX3 TX3 0, u_lay RX3 TX3 1, u_lay RX3 TX3 2, u_lay RX3 TX3 3, u_lay RX3 TX3 4, u_lay RX3 TX3 5, u_lay RX3 TX3 6, u_lay RX3 TX3 7, u_lay RX3 TX3 8, u_lay RX3 TX3 9, u_lay RX3 TX3 10, u_lay RX3 TX3 11, u_lay RX3 TX3 12, u_lay RX3 TX3 13, u_lay RX3 TX3 14, u_lay RX3 TX3 15], w ∈ BW
  exact List.forall_mem_cons.mpr ⟨mW313, List.forall_mem_cons.mpr ⟨mW315, List.forall_mem_cons.mpr ⟨mW317, List.forall_mem_cons.mpr ⟨mW319, List.forall_mem_cons.mpr ⟨mW321, List.forall_mem_cons.mpr ⟨mW323, List.forall_mem_cons.mpr ⟨mW325, List.forall_mem_cons.mpr ⟨mW327, List.forall_mem_cons.mpr ⟨mW329, List.forall_mem_cons.mpr ⟨mW331, List.forall_mem_cons.mpr ⟨mW333, List.forall_mem_cons.mpr ⟨mW335, List.forall_mem_cons.mpr ⟨mW337, List.forall_mem_cons.mpr ⟨mW339, List.forall_mem_cons.mpr ⟨mW341, List.forall_mem_cons.mpr ⟨mW343, fun _ h => absurd h List.not_mem_nil⟩⟩⟩⟩⟩⟩⟩⟩⟩⟩⟩⟩⟩⟩⟩⟩
end
section
theorem dX0_init_0 : decode cX0_init 0 = .ok (.aload_n 0, 1) := by decide +kernel
theorem dX0_init_1 : decode cX0_init 1 = .ok (.invokespecial 3, 3) := by decide +kernel
theorem dX0_init_4 : decode cX0_init 4 = .ok (.aload_n 0, 1) := by decide +kernel
theorem dX0_init_5 : decode cX0_init 5 = .ok (.new 9, 3) := by decide +kernel
theorem dX0_init_8 : decode cX0_init 8 = .ok (.dup, 1) := by decide +kernel
theorem dX0_init_9 : decode cX0_init 9 = .ok (.bipush 60, 2) := by decide +kernel
theorem dX0_init_11 : decode cX0_init 11 = .ok (.invokespecial 11, 3) := by decide +kernel
theorem dX0_init_14 : decode cX0_init 14 = .ok (.putfield 14, 3) := by decide +kernel
theorem dX0_init_17 : decode cX0_init 17 = .ok (.aload_n 0, 1) := by decide +kernel
theorem dX0_init_18 : decode cX0_init 18 = .ok (.new 9, 3) := by decide +kernel
theorem dX0_init_21 : decode cX0_init 21 = .ok (.dup, 1) := by decide +kernel
theorem dX0_init_22 : decode cX0_init 22 = .ok (.bipush 60, 2) := by decide +kernel
theorem dX0_init_24 : decode cX0_init 24 = .ok (.invokespecial 11, 3) := by decide +kernel
theorem dX0_init_27 : decode cX0_init 27 = .ok (.putfield 20, 3) := by decide +kernel
theorem dX0_init_30 : decode cX0_init 30 = .ok (.aload_n 0, 1) := by decide +kernel
theorem dX0_init_31 : decode cX0_init 31 = .ok (.new 9, 3) := by decide +kernel
theorem dX0_init_34 : decode cX0_init 34 = .ok (.dup, 1) := by decide +kernel
theorem dX0_init_35 : decode cX0_init 35 = .ok (.bipush 60, 2) := by decide +kernel
theorem dX0_init_37 : decode cX0_init 37 = .ok (.invokespecial 11, 3) := by decide +kernel
theorem dX0_init_40 : decode cX0_init 40 = .ok (.putfield 23, 3) := by decide +kernel
theorem dX0_init_43 : decode cX0_init 43 = .ok (.aload_n 0, 1) := by decide +kernel
theorem dX0_init_44 : decode cX0_init 44 = .ok (.bipush 60, 2) := by decide +kernel
theorem dX0_init_46 : decode cX0_init 46 = .ok (.newarray .int, 2) := by decide +kernel
theorem dX0_init_48 : decode cX0_init 48 = .ok (.putfield 26, 3) := by decide +kernel
theorem dX0_init_51 : decode cX0_init 51 = .ok (.aload_n 0, 1) := by decide +kernel
theorem dX0_init_52 : decode cX0_init 52 = .ok (.iconst 0, 1) := by decide +kernel
theorem dX0_init_53 : decode cX0_init 53 = .ok (.putfield 30, 3) := by decide +kernel
theorem dX0_init_56 : decode cX0_init 56 = .ok (.return_, 1) := by decide +kernel
theorem dX0_beginProduct_0 : decode cX0_beginProduct 0 = .ok (.aload_n 0, 1) := by decide +kernel
theorem dX0_beginProduct_1 : decode cX0_beginProduct 1 = .ok (.getfield 14, 3) := by decide +kernel
theorem dX0_beginProduct_4 : decode cX0_beginProduct 4 = .ok (.invokevirtual 34, 3) := by decide +kernel
theorem dX0_beginProduct_7 : decode cX0_beginProduct 7 = .ok (.aload_n 0, 1) := by decide +kernel
theorem dX0_beginProduct_8 : decode cX0_beginProduct 8 = .ok (.getfield 14, 3) := by decide +kernel
theorem dX0_beginProduct_11 : decode cX0_beginProduct 11 = .ok (.lload_n 1, 1) := by decide +kernel
theorem dX0_beginProduct_12 : decode cX0_beginProduct 12 = .ok (.iload_n 3, 1) := by decide +kernel
theorem dX0_beginProduct_13 : decode cX0_beginProduct 13 = .ok (.i2l, 1) := by decide +kernel
theorem dX0_beginProduct_14 : decode cX0_beginProduct 14 = .ok (.invokevirtual 37, 3) := by decide +kernel
theorem dX0_beginProduct_17 : decode cX0_beginProduct 17 = .ok (.pop, 1) := by decide +kernel
theorem dX0_beginProduct_18 : decode cX0_beginProduct 18 = .ok (.return_, 1) := by decide +kernel
theorem dX0_beginTotal_0 : decode cX0_beginTotal 0 = .ok (.aload_n 0, 1) := by decide +kernel
theorem dX0_beginTotal_1 : decode cX0_beginTotal 1 = .ok (.getfield 20, 3) := by decide +kernel
theorem dX0_beginTotal_4 : decode cX0_beginTotal 4 = .ok (.invokevirtual 34, 3) := by decide +kernel
theorem dX0_beginTotal_7 : decode cX0_beginTotal 7 = .ok (.return_, 1) := by decide +kernel
theorem dX0_makeTotal_0 : decode cX0_makeTotal 0 = .ok (.aload_n 0, 1) := by decide +kernel
theorem dX0_makeTotal_1 : decode cX0_makeTotal 1 = .ok (.getfield 20, 3) := by decide +kernel
theorem dX0_makeTotal_4 : decode cX0_makeTotal 4 = .ok (.aload_n 1, 1) := by decide +kernel
theorem dX0_makeTotal_5 : decode cX0_makeTotal 5 = .ok (.aload_n 2, 1) := by decide +kernel
theorem dX0_makeTotal_6 : decode cX0_makeTotal 6 = .ok (.iload_n 3, 1) := by decide +kernel
theorem dX0_makeTotal_7 : decode cX0_makeTotal 7 = .ok (.invokevirtual 41, 3) := by decide +kernel
theorem dX0_makeTotal_10 : decode cX0_makeTotal 10 = .ok (.ireturn, 1) := by decide +kernel
theorem dX0_makeProduct_0 : decode cX0_makeProduct 0 = .ok (.aload_n 0, 1) := by decide +kernel
theorem dX0_makeProduct_1 : decode cX0_makeProduct 1 = .ok (.aload_n 0, 1) := by decide +kernel
theorem dX0_makeProduct_2 : decode cX0_makeProduct 2 = .ok (.getfield 14, 3) := by decide +kernel
theorem dX0_makeProduct_5 : decode cX0_makeProduct 5 = .ok (.aload_n 1, 1) := by decide +kernel
theorem dX0_makeProduct_6 : decode cX0_makeProduct 6 = .ok (.aload_n 2, 1) := by decide +kernel
theorem dX0_makeProduct_7 : decode cX0_makeProduct 7 = .ok (.invokevirtual 45, 3) := by decide +kernel
theorem dX0_makeProduct_10 : decode cX0_makeProduct 10 = .ok (.ireturn, 1) := by decide +kernel
theorem dX0_multiplyBy_0 : decode cX0_multiplyBy 0 = .ok (.aload_n 0, 1) := by decide +kernel
theorem dX0_multiplyBy_1 : decode cX0_multiplyBy 1 = .ok (.aload_n 0, 1) := by decide +kernel
theorem dX0_multiplyBy_2 : decode cX0_multiplyBy 2 = .ok (.getfield 23, 3) := by decide +kernel
theorem dX0_multiplyBy_5 : decode cX0_multiplyBy 5 = .ok (.aload_n 0, 1) := by decide +kernel
theorem dX0_multiplyBy_6 : decode cX0_multiplyBy 6 = .ok (.getfield 14, 3) := by decide +kernel
theorem dX0_multiplyBy_9 : decode cX0_multiplyBy 9 = .ok (.aload_n 1, 1) := by decide +kernel
theorem dX0_multiplyBy_10 : decode cX0_multiplyBy 10 = .ok (.invokevirtual 45, 3) := by decide +kernel
theorem dX0_multiplyBy_13 : decode cX0_multiplyBy 13 = .ok (.istore_n 2, 1) := by decide +kernel
theorem dX0_multiplyBy_14 : decode cX0_multiplyBy 14 = .ok (.aload_n 0, 1) := by decide +kernel
theorem dX0_multiplyBy_15 : decode cX0_multiplyBy 15 = .ok (.getfield 14, 3) := by decide +kernel
theorem dX0_multiplyBy_18 : decode cX0_multiplyBy 18 = .ok (.astore_n 3, 1) := by decide +kernel
theorem dX0_multiplyBy_19 : decode cX0_multiplyBy 19 = .ok (.aload_n 0, 1) := by decide +kernel
theorem dX0_multiplyBy_20 : decode cX0_multiplyBy 20 = .ok (.aload_n 0, 1) := by decide +kernel
theorem dX0_multiplyBy_21 : decode cX0_multiplyBy 21 = .ok (.getfield 23, 3) := by decide +kernel
theorem dX0_multiplyBy_24 : decode cX0_multiplyBy 24 = .ok (.putfield 14, 3) := by decide +kernel
theorem dX0_multiplyBy_27 : decode cX0_multiplyBy 27 = .ok (.aload_n 0, 1) := by decide +kernel
theorem dX0_multiplyBy_28 : decode cX0_multiplyBy 28 = .ok (.aload_n 3, 1) := by decide +kernel
theorem dX0_multiplyBy_29 : decode cX0_multiplyBy 29 = .ok (.putfield 23, 3) := by decide +kernel
theorem dX0_multiplyBy_32 : decode cX0_multiplyBy 32 = .ok (.iload_n 2, 1) := by decide +kernel
theorem dX0_multiplyBy_33 : decode cX0_multiplyBy 33 = .ok (.ireturn, 1) := by decide +kernel
theorem dX0_addProduct_0 : decode cX0_addProduct 0 = .ok (.aload_n 0, 1) := by decide +kernel
theorem dX0_addProduct_1 : decode cX0_addProduct 1 = .ok (.getfield 23, 3) := by decide +kernel
theorem dX0_addProduct_4 : decode cX0_addProduct 4 = .ok (.aload_n 0, 1) := by decide +kernel
theorem dX0_addProduct_5 : decode cX0_addProduct 5 = .ok (.getfield 20, 3) := by decide +kernel
theorem dX0_addProduct_8 : decode cX0_addProduct 8 = .ok (.aload_n 0, 1) := by decide +kernel
theorem dX0_addProduct_9 : decode cX0_addProduct 9 = .ok (.getfield 14, 3) := by decide +kernel
theorem dX0_addProduct_12 : decode cX0_addProduct 12 = .ok (.iconst 1, 1) := by decide +kernel
theorem dX0_addProduct_13 : decode cX0_addProduct 13 = .ok (.invokevirtual 41, 3) := by decide +kernel
theorem dX0_addProduct_16 : decode cX0_addProduct 16 = .ok (.istore_n 1, 1) := by decide +kernel
theorem dX0_addProduct_17 : decode cX0_addProduct 17 = .ok (.aload_n 0, 1) := by decide +kernel
theorem dX0_addProduct_18 : decode cX0_addProduct 18 = .ok (.getfield 20, 3) := by decide +kernel
theorem dX0_addProduct_21 : decode cX0_addProduct 21 = .ok (.astore_n 2, 1) := by decide +kernel
theorem dX0_addProduct_22 : decode cX0_addProduct 22 = .ok (.aload_n 0, 1) := by decide +kernel
theorem dX0_addProduct_23 : decode cX0_addProduct 23 = .ok (.aload_n 0, 1) := by decide +kernel
theorem dX0_addProduct_24 : decode cX0_addProduct 24 = .ok (.getfield 23, 3) := by decide +kernel
theorem dX0_addProduct_27 : decode cX0_addProduct 27 = .ok (.putfield 20, 3) := by decide +kernel
theorem dX0_addProduct_30 : decode cX0_addProduct 30 = .ok (.aload_n 0, 1) := by decide +kernel
theorem dX0_addProduct_31 : decode cX0_addProduct 31 = .ok (.aload_n 2, 1) := by decide +kernel
theorem dX0_addProduct_32 : decode cX0_addProduct 32 = .ok (.putfield 23, 3) := by decide +kernel
theorem dX0_addProduct_35 : decode cX0_addProduct 35 = .ok (.iload_n 1, 1) := by decide +kernel
theorem dX0_addProduct_36 : decode cX0_addProduct 36 = .ok (.ireturn, 1) := by decide +kernel
theorem dX0_fillProduct_0 : decode cX0_fillProduct 0 = .ok (.aload_n 1, 1) := by decide +kernel
theorem dX0_fillProduct_1 : decode cX0_fillProduct 1 = .ok (.invokevirtual 34, 3) := by decide +kernel
theorem dX0_fillProduct_4 : decode cX0_fillProduct 4 = .ok (.aload_n 2, 1) := by decide +kernel
theorem dX0_fillProduct_5 : decode cX0_fillProduct 5 = .ok (.getfield 49, 3) := by decide +kernel
theorem dX0_fillProduct_8 : decode cX0_fillProduct 8 = .ok (.ifCond .eq 10, 3) := by decide +kernel
theorem dX0_fillProduct_11 : decode cX0_fillProduct 11 = .ok (.aload_n 3, 1) := by decide +kernel
theorem dX0_fillProduct_12 : decode cX0_fillProduct 12 = .ok (.getfield 49, 3) := by decide +kernel
theorem dX0_fillProduct_15 : decode cX0_fillProduct 15 = .ok (.ifCond .ne 5, 3) := by decide +kernel
theorem dX0_fillProduct_18 : decode cX0_fillProduct 18 = .ok (.iconst 1, 1) := by decide +kernel
theorem dX0_fillProduct_19 : decode cX0_fillProduct 19 = .ok (.ireturn, 1) := by decide +kernel
theorem dX0_fillProduct_20 : decode cX0_fillProduct 20 = .ok (.aload_n 1, 1) := by decide +kernel
theorem dX0_fillProduct_21 : decode cX0_fillProduct 21 = .ok (.aload_n 2, 1) := by decide +kernel
theorem dX0_fillProduct_22 : decode cX0_fillProduct 22 = .ok (.aload_n 3, 1) := by decide +kernel
theorem dX0_fillProduct_23 : decode cX0_fillProduct 23 = .ok (.invokevirtual 52, 3) := by decide +kernel
theorem dX0_fillProduct_26 : decode cX0_fillProduct 26 = .ok (.ifCond .ne 5, 3) := by decide +kernel
theorem dX0_fillProduct_29 : decode cX0_fillProduct 29 = .ok (.iconst 0, 1) := by decide +kernel
theorem dX0_fillProduct_30 : decode cX0_fillProduct 30 = .ok (.ireturn, 1) := by decide +kernel
theorem dX0_fillProduct_31 : decode cX0_fillProduct 31 = .ok (.aload_n 2, 1) := by decide +kernel
theorem dX0_fillProduct_32 : decode cX0_fillProduct 32 = .ok (.getfield 49, 3) := by decide +kernel
theorem dX0_fillProduct_35 : decode cX0_fillProduct 35 = .ok (.aload_n 3, 1) := by decide +kernel
theorem dX0_fillProduct_36 : decode cX0_fillProduct 36 = .ok (.getfield 49, 3) := by decide +kernel
theorem dX0_fillProduct_39 : decode cX0_fillProduct 39 = .ok (.if_icmp .gt 13, 3) := by decide +kernel
theorem dX0_fillProduct_42 : decode cX0_fillProduct 42 = .ok (.aload_n 0, 1) := by decide +kernel
theorem dX0_fillProduct_43 : decode cX0_fillProduct 43 = .ok (.aload_n 1, 1) := by decide +kernel
theorem dX0_fillProduct_44 : decode cX0_fillProduct 44 = .ok (.aload_n 2, 1) := by decide +kernel
theorem dX0_fillProduct_45 : decode cX0_fillProduct 45 = .ok (.aload_n 3, 1) := by decide +kernel
theorem dX0_fillProduct_46 : decode cX0_fillProduct 46 = .ok (.invokevirtual 56, 3) := by decide +kernel
theorem dX0_fillProduct_49 : decode cX0_fillProduct 49 = .ok (.goto 10, 3) := by decide +kernel
theorem dX0_fillProduct_52 : decode cX0_fillProduct 52 = .ok (.aload_n 0, 1) := by decide +kernel
theorem dX0_fillProduct_53 : decode cX0_fillProduct 53 = .ok (.aload_n 1, 1) := by decide +kernel
theorem dX0_fillProduct_54 : decode cX0_fillProduct 54 = .ok (.aload_n 3, 1) := by decide +kernel
theorem dX0_fillProduct_55 : decode cX0_fillProduct 55 = .ok (.aload_n 2, 1) := by decide +kernel
theorem dX0_fillProduct_56 : decode cX0_fillProduct 56 = .ok (.invokevirtual 56, 3) := by decide +kernel
theorem dX0_fillProduct_59 : decode cX0_fillProduct 59 = .ok (.ireturn, 1) := by decide +kernel
theorem dX0_merge_0 : decode cX0_merge 0 = .ok (.iconst 0, 1) := by decide +kernel
theorem dX0_merge_1 : decode cX0_merge 1 = .ok (.istore 4, 2) := by decide +kernel
theorem dX0_merge_3 : decode cX0_merge 3 = .ok (.iload 4, 2) := by decide +kernel
theorem dX0_merge_5 : decode cX0_merge 5 = .ok (.aload_n 2, 1) := by decide +kernel
theorem dX0_merge_6 : decode cX0_merge 6 = .ok (.getfield 49, 3) := by decide +kernel
theorem dX0_merge_9 : decode cX0_merge 9 = .ok (.if_icmp .ge 17, 3) := by decide +kernel
theorem dX0_merge_12 : decode cX0_merge 12 = .ok (.aload_n 0, 1) := by decide +kernel
theorem dX0_merge_13 : decode cX0_merge 13 = .ok (.getfield 26, 3) := by decide +kernel
theorem dX0_merge_16 : decode cX0_merge 16 = .ok (.iload 4, 2) := by decide +kernel
theorem dX0_merge_18 : decode cX0_merge 18 = .ok (.iconst 0, 1) := by decide +kernel
theorem dX0_merge_19 : decode cX0_merge 19 = .ok (.iastore, 1) := by decide +kernel
theorem dX0_merge_20 : decode cX0_merge 20 = .ok (.iinc 4 1, 3) := by decide +kernel
theorem dX0_merge_23 : decode cX0_merge 23 = .ok (.goto (-20), 3) := by decide +kernel
theorem dX0_merge_26 : decode cX0_merge 26 = .ok (.aload_n 0, 1) := by decide +kernel
theorem dX0_merge_27 : decode cX0_merge 27 = .ok (.iconst 1, 1) := by decide +kernel
theorem dX0_merge_28 : decode cX0_merge 28 = .ok (.putfield 30, 3) := by decide +kernel
theorem dX0_merge_31 : decode cX0_merge 31 = .ok (.aload_n 2, 1) := by decide +kernel
theorem dX0_merge_32 : decode cX0_merge 32 = .ok (.getfield 49, 3) := by decide +kernel
theorem dX0_merge_35 : decode cX0_merge 35 = .ok (.aload_n 3, 1) := by decide +kernel
theorem dX0_merge_36 : decode cX0_merge 36 = .ok (.getfield 49, 3) := by decide +kernel
theorem dX0_merge_39 : decode cX0_merge 39 = .ok (.imul, 1) := by decide +kernel
theorem dX0_merge_40 : decode cX0_merge 40 = .ok (.istore 4, 2) := by decide +kernel
theorem dX0_merge_42 : decode cX0_merge 42 = .ok (.iconst 0, 1) := by decide +kernel
theorem dX0_merge_43 : decode cX0_merge 43 = .ok (.istore 5, 2) := by decide +kernel
theorem dX0_merge_45 : decode cX0_merge 45 = .ok (.iload 5, 2) := by decide +kernel
theorem dX0_merge_47 : decode cX0_merge 47 = .ok (.iload 4, 2) := by decide +kernel
theorem dX0_merge_49 : decode cX0_merge 49 = .ok (.if_icmp .ge 80, 3) := by decide +kernel
theorem dX0_merge_52 : decode cX0_merge 52 = .ok (.aload_n 0, 1) := by decide +kernel
theorem dX0_merge_53 : decode cX0_merge 53 = .ok (.aload_n 2, 1) := by decide +kernel
theorem dX0_merge_54 : decode cX0_merge 54 = .ok (.aload_n 3, 1) := by decide +kernel
theorem dX0_merge_55 : decode cX0_merge 55 = .ok (.invokevirtual 59, 3) := by decide +kernel
theorem dX0_merge_58 : decode cX0_merge 58 = .ok (.lstore 6, 2) := by decide +kernel
theorem dX0_merge_60 : decode cX0_merge 60 = .ok (.lload 6, 2) := by decide +kernel
theorem dX0_merge_62 : decode cX0_merge 62 = .ok (.lconst 0, 1) := by decide +kernel
theorem dX0_merge_63 : decode cX0_merge 63 = .ok (.lcmp, 1) := by decide +kernel
theorem dX0_merge_64 : decode cX0_merge 64 = .ok (.ifCond .ge 5, 3) := by decide +kernel
theorem dX0_merge_67 : decode cX0_merge 67 = .ok (.iconst 1, 1) := by decide +kernel
theorem dX0_merge_68 : decode cX0_merge 68 = .ok (.ireturn, 1) := by decide +kernel
theorem dX0_merge_69 : decode cX0_merge 69 = .ok (.aload_n 1, 1) := by decide +kernel
theorem dX0_merge_70 : decode cX0_merge 70 = .ok (.lload 6, 2) := by decide +kernel
theorem dX0_merge_72 : decode cX0_merge 72 = .ok (.aload_n 0, 1) := by decide +kernel
theorem dX0_merge_73 : decode cX0_merge 73 = .ok (.lload 6, 2) := by decide +kernel
theorem dX0_merge_75 : decode cX0_merge 75 = .ok (.aload_n 2, 1) := by decide +kernel
theorem dX0_merge_76 : decode cX0_merge 76 = .ok (.aload_n 3, 1) := by decide +kernel
theorem dX0_merge_77 : decode cX0_merge 77 = .ok (.invokevirtual 63, 3) := by decide +kernel
theorem dX0_merge_80 : decode cX0_merge 80 = .ok (.invokevirtual 37, 3) := by decide +kernel
theorem dX0_merge_83 : decode cX0_merge 83 = .ok (.ifCond .ne 5, 3) := by decide +kernel
theorem dX0_merge_86 : decode cX0_merge 86 = .ok (.iconst 0, 1) := by decide +kernel
theorem dX0_merge_87 : decode cX0_merge 87 = .ok (.ireturn, 1) := by decide +kernel
theorem dX0_merge_88 : decode cX0_merge 88 = .ok (.aload_n 0, 1) := by decide +kernel
theorem dX0_merge_89 : decode cX0_merge 89 = .ok (.getfield 30, 3) := by decide +kernel
theorem dX0_merge_92 : decode cX0_merge 92 = .ok (.aload_n 2, 1) := by decide +kernel
theorem dX0_merge_93 : decode cX0_merge 93 = .ok (.getfield 49, 3) := by decide +kernel
theorem dX0_merge_96 : decode cX0_merge 96 = .ok (.if_icmp .ge 27, 3) := by decide +kernel
theorem dX0_merge_99 : decode cX0_merge 99 = .ok (.aload_n 0, 1) := by decide +kernel
theorem dX0_merge_100 : decode cX0_merge 100 = .ok (.getfield 26, 3) := by decide +kernel
theorem dX0_merge_103 : decode cX0_merge 103 = .ok (.aload_n 0, 1) := by decide +kernel
theorem dX0_merge_104 : decode cX0_merge 104 = .ok (.getfield 30, 3) := by decide +kernel
theorem dX0_merge_107 : decode cX0_merge 107 = .ok (.iconst 1, 1) := by decide +kernel
theorem dX0_merge_108 : decode cX0_merge 108 = .ok (.isub, 1) := by decide +kernel
theorem dX0_merge_109 : decode cX0_merge 109 = .ok (.iaload, 1) := by decide +kernel
theorem dX0_merge_110 : decode cX0_merge 110 = .ok (.ifCond .le 13, 3) := by decide +kernel
theorem dX0_merge_113 : decode cX0_merge 113 = .ok (.aload_n 0, 1) := by decide +kernel
theorem dX0_merge_114 : decode cX0_merge 114 = .ok (.dup, 1) := by decide +kernel
theorem dX0_merge_115 : decode cX0_merge 115 = .ok (.getfield 30, 3) := by decide +kernel
theorem dX0_merge_118 : decode cX0_merge 118 = .ok (.iconst 1, 1) := by decide +kernel
theorem dX0_merge_119 : decode cX0_merge 119 = .ok (.iadd, 1) := by decide +kernel
theorem dX0_merge_120 : decode cX0_merge 120 = .ok (.putfield 30, 3) := by decide +kernel
theorem dX0_merge_123 : decode cX0_merge 123 = .ok (.iinc 5 1, 3) := by decide +kernel
theorem dX0_merge_126 : decode cX0_merge 126 = .ok (.goto (-81), 3) := by decide +kernel
theorem dX0_merge_129 : decode cX0_merge 129 = .ok (.iconst 1, 1) := by decide +kernel
theorem dX0_merge_130 : decode cX0_merge 130 = .ok (.ireturn, 1) := by decide +kernel
theorem dX0_greatestCode_0 : decode cX0_greatestCode 0 = .ok (.ldc2_w 67, 3) := by decide +kernel
theorem dX0_greatestCode_3 : decode cX0_greatestCode 3 = .ok (.lstore_n 3, 1) := by decide +kernel
theorem dX0_greatestCode_4 : decode cX0_greatestCode 4 = .ok (.iconst 0, 1) := by decide +kernel
theorem dX0_greatestCode_5 : decode cX0_greatestCode 5 = .ok (.istore 5, 2) := by decide +kernel
theorem dX0_greatestCode_7 : decode cX0_greatestCode 7 = .ok (.iload 5, 2) := by decide +kernel
theorem dX0_greatestCode_9 : decode cX0_greatestCode 9 = .ok (.aload_n 0, 1) := by decide +kernel
theorem dX0_greatestCode_10 : decode cX0_greatestCode 10 = .ok (.getfield 30, 3) := by decide +kernel
theorem dX0_greatestCode_13 : decode cX0_greatestCode 13 = .ok (.if_icmp .ge 48, 3) := by decide +kernel
theorem dX0_greatestCode_16 : decode cX0_greatestCode 16 = .ok (.aload_n 0, 1) := by decide +kernel
theorem dX0_greatestCode_17 : decode cX0_greatestCode 17 = .ok (.getfield 26, 3) := by decide +kernel
theorem dX0_greatestCode_20 : decode cX0_greatestCode 20 = .ok (.iload 5, 2) := by decide +kernel
theorem dX0_greatestCode_22 : decode cX0_greatestCode 22 = .ok (.iaload, 1) := by decide +kernel
theorem dX0_greatestCode_23 : decode cX0_greatestCode 23 = .ok (.aload_n 2, 1) := by decide +kernel
theorem dX0_greatestCode_24 : decode cX0_greatestCode 24 = .ok (.getfield 49, 3) := by decide +kernel
theorem dX0_greatestCode_27 : decode cX0_greatestCode 27 = .ok (.if_icmp .ge 28, 3) := by decide +kernel
theorem dX0_greatestCode_30 : decode cX0_greatestCode 30 = .ok (.lload_n 3, 1) := by decide +kernel
theorem dX0_greatestCode_31 : decode cX0_greatestCode 31 = .ok (.aload_n 1, 1) := by decide +kernel
theorem dX0_greatestCode_32 : decode cX0_greatestCode 32 = .ok (.getfield 69, 3) := by decide +kernel
theorem dX0_greatestCode_35 : decode cX0_greatestCode 35 = .ok (.iload 5, 2) := by decide +kernel
theorem dX0_greatestCode_37 : decode cX0_greatestCode 37 = .ok (.laload, 1) := by decide +kernel
theorem dX0_greatestCode_38 : decode cX0_greatestCode 38 = .ok (.aload_n 2, 1) := by decide +kernel
theorem dX0_greatestCode_39 : decode cX0_greatestCode 39 = .ok (.getfield 69, 3) := by decide +kernel
theorem dX0_greatestCode_42 : decode cX0_greatestCode 42 = .ok (.aload_n 0, 1) := by decide +kernel
theorem dX0_greatestCode_43 : decode cX0_greatestCode 43 = .ok (.getfield 26, 3) := by decide +kernel
theorem dX0_greatestCode_46 : decode cX0_greatestCode 46 = .ok (.iload 5, 2) := by decide +kernel
theorem dX0_greatestCode_48 : decode cX0_greatestCode 48 = .ok (.iaload, 1) := by decide +kernel
theorem dX0_greatestCode_49 : decode cX0_greatestCode 49 = .ok (.laload, 1) := by decide +kernel
theorem dX0_greatestCode_50 : decode cX0_greatestCode 50 = .ok (.ladd, 1) := by decide +kernel
theorem dX0_greatestCode_51 : decode cX0_greatestCode 51 = .ok (.invokestatic 73, 3) := by decide +kernel
theorem dX0_greatestCode_54 : decode cX0_greatestCode 54 = .ok (.lstore_n 3, 1) := by decide +kernel
theorem dX0_greatestCode_55 : decode cX0_greatestCode 55 = .ok (.iinc 5 1, 3) := by decide +kernel
theorem dX0_greatestCode_58 : decode cX0_greatestCode 58 = .ok (.goto (-51), 3) := by decide +kernel
theorem dX0_greatestCode_61 : decode cX0_greatestCode 61 = .ok (.lload_n 3, 1) := by decide +kernel
theorem dX0_greatestCode_62 : decode cX0_greatestCode 62 = .ok (.lreturn, 1) := by decide +kernel
theorem dX0_gather_0 : decode cX0_gather 0 = .ok (.lconst 0, 1) := by decide +kernel
theorem dX0_gather_1 : decode cX0_gather 1 = .ok (.lstore 5, 2) := by decide +kernel
theorem dX0_gather_3 : decode cX0_gather 3 = .ok (.iconst 0, 1) := by decide +kernel
theorem dX0_gather_4 : decode cX0_gather 4 = .ok (.istore 7, 2) := by decide +kernel
theorem dX0_gather_6 : decode cX0_gather 6 = .ok (.iload 7, 2) := by decide +kernel
theorem dX0_gather_8 : decode cX0_gather 8 = .ok (.aload_n 0, 1) := by decide +kernel
theorem dX0_gather_9 : decode cX0_gather 9 = .ok (.getfield 30, 3) := by decide +kernel
theorem dX0_gather_12 : decode cX0_gather 12 = .ok (.if_icmp .ge 83, 3) := by decide +kernel
theorem dX0_gather_15 : decode cX0_gather 15 = .ok (.aload_n 0, 1) := by decide +kernel
theorem dX0_gather_16 : decode cX0_gather 16 = .ok (.getfield 26, 3) := by decide +kernel
theorem dX0_gather_19 : decode cX0_gather 19 = .ok (.iload 7, 2) := by decide +kernel
theorem dX0_gather_21 : decode cX0_gather 21 = .ok (.iaload, 1) := by decide +kernel
theorem dX0_gather_22 : decode cX0_gather 22 = .ok (.istore 8, 2) := by decide +kernel
theorem dX0_gather_24 : decode cX0_gather 24 = .ok (.iload 8, 2) := by decide +kernel
theorem dX0_gather_26 : decode cX0_gather 26 = .ok (.aload 4, 2) := by decide +kernel
theorem dX0_gather_28 : decode cX0_gather 28 = .ok (.getfield 49, 3) := by decide +kernel
theorem dX0_gather_31 : decode cX0_gather 31 = .ok (.if_icmp .ge 58, 3) := by decide +kernel
theorem dX0_gather_34 : decode cX0_gather 34 = .ok (.aload_n 3, 1) := by decide +kernel
theorem dX0_gather_35 : decode cX0_gather 35 = .ok (.getfield 69, 3) := by decide +kernel
theorem dX0_gather_38 : decode cX0_gather 38 = .ok (.iload 7, 2) := by decide +kernel
theorem dX0_gather_40 : decode cX0_gather 40 = .ok (.laload, 1) := by decide +kernel
theorem dX0_gather_41 : decode cX0_gather 41 = .ok (.aload 4, 2) := by decide +kernel
theorem dX0_gather_43 : decode cX0_gather 43 = .ok (.getfield 69, 3) := by decide +kernel
theorem dX0_gather_46 : decode cX0_gather 46 = .ok (.iload 8, 2) := by decide +kernel
theorem dX0_gather_48 : decode cX0_gather 48 = .ok (.laload, 1) := by decide +kernel
theorem dX0_gather_49 : decode cX0_gather 49 = .ok (.ladd, 1) := by decide +kernel
theorem dX0_gather_50 : decode cX0_gather 50 = .ok (.lload_n 1, 1) := by decide +kernel
theorem dX0_gather_51 : decode cX0_gather 51 = .ok (.lcmp, 1) := by decide +kernel
theorem dX0_gather_52 : decode cX0_gather 52 = .ok (.ifCond .ne 37, 3) := by decide +kernel
theorem dX0_gather_55 : decode cX0_gather 55 = .ok (.lload 5, 2) := by decide +kernel
theorem dX0_gather_57 : decode cX0_gather 57 = .ok (.aload_n 3, 1) := by decide +kernel
theorem dX0_gather_58 : decode cX0_gather 58 = .ok (.getfield 79, 3) := by decide +kernel
theorem dX0_gather_61 : decode cX0_gather 61 = .ok (.iload 7, 2) := by decide +kernel
theorem dX0_gather_63 : decode cX0_gather 63 = .ok (.iaload, 1) := by decide +kernel
theorem dX0_gather_64 : decode cX0_gather 64 = .ok (.i2l, 1) := by decide +kernel
theorem dX0_gather_65 : decode cX0_gather 65 = .ok (.aload 4, 2) := by decide +kernel
theorem dX0_gather_67 : decode cX0_gather 67 = .ok (.getfield 79, 3) := by decide +kernel
theorem dX0_gather_70 : decode cX0_gather 70 = .ok (.iload 8, 2) := by decide +kernel
theorem dX0_gather_72 : decode cX0_gather 72 = .ok (.iaload, 1) := by decide +kernel
theorem dX0_gather_73 : decode cX0_gather 73 = .ok (.i2l, 1) := by decide +kernel
theorem dX0_gather_74 : decode cX0_gather 74 = .ok (.lmul, 1) := by decide +kernel
theorem dX0_gather_75 : decode cX0_gather 75 = .ok (.ladd, 1) := by decide +kernel
theorem dX0_gather_76 : decode cX0_gather 76 = .ok (.lstore 5, 2) := by decide +kernel
theorem dX0_gather_78 : decode cX0_gather 78 = .ok (.aload_n 0, 1) := by decide +kernel
theorem dX0_gather_79 : decode cX0_gather 79 = .ok (.getfield 26, 3) := by decide +kernel
theorem dX0_gather_82 : decode cX0_gather 82 = .ok (.iload 7, 2) := by decide +kernel
theorem dX0_gather_84 : decode cX0_gather 84 = .ok (.iload 8, 2) := by decide +kernel
theorem dX0_gather_86 : decode cX0_gather 86 = .ok (.iconst 1, 1) := by decide +kernel
theorem dX0_gather_87 : decode cX0_gather 87 = .ok (.iadd, 1) := by decide +kernel
theorem dX0_gather_88 : decode cX0_gather 88 = .ok (.iastore, 1) := by decide +kernel
theorem dX0_gather_89 : decode cX0_gather 89 = .ok (.iinc 7 1, 3) := by decide +kernel
theorem dX0_gather_92 : decode cX0_gather 92 = .ok (.goto (-86), 3) := by decide +kernel
theorem dX0_gather_95 : decode cX0_gather 95 = .ok (.lload 5, 2) := by decide +kernel
theorem dX0_gather_97 : decode cX0_gather 97 = .ok (.lreturn, 1) := by decide +kernel
end
section
theorem dX1_init_0 : decode cX1_init 0 = .ok (.aload_n 0, 1) := by decide +kernel
theorem dX1_init_1 : decode cX1_init 1 = .ok (.invokespecial 3, 3) := by decide +kernel
theorem dX1_init_4 : decode cX1_init 4 = .ok (.iconst 0, 1) := by decide +kernel
theorem dX1_init_5 : decode cX1_init 5 = .ok (.iload_n 1, 1) := by decide +kernel
theorem dX1_init_6 : decode cX1_init 6 = .ok (.bipush 60, 2) := by decide +kernel
theorem dX1_init_8 : decode cX1_init 8 = .ok (.invokestatic 9, 3) := by decide +kernel
theorem dX1_init_11 : decode cX1_init 11 = .ok (.invokestatic 15, 3) := by decide +kernel
theorem dX1_init_14 : decode cX1_init 14 = .ok (.istore_n 2, 1) := by decide +kernel
theorem dX1_init_15 : decode cX1_init 15 = .ok (.aload_n 0, 1) := by decide +kernel
theorem dX1_init_16 : decode cX1_init 16 = .ok (.iload_n 2, 1) := by decide +kernel
theorem dX1_init_17 : decode cX1_init 17 = .ok (.newarray .long, 2) := by decide +kernel
theorem dX1_init_19 : decode cX1_init 19 = .ok (.putfield 18, 3) := by decide +kernel
theorem dX1_init_22 : decode cX1_init 22 = .ok (.aload_n 0, 1) := by decide +kernel
theorem dX1_init_23 : decode cX1_init 23 = .ok (.iload_n 2, 1) := by decide +kernel
theorem dX1_init_24 : decode cX1_init 24 = .ok (.newarray .int, 2) := by decide +kernel
theorem dX1_init_26 : decode cX1_init 26 = .ok (.putfield 24, 3) := by decide +kernel
theorem dX1_init_29 : decode cX1_init 29 = .ok (.aload_n 0, 1) := by decide +kernel
theorem dX1_init_30 : decode cX1_init 30 = .ok (.iconst 0, 1) := by decide +kernel
theorem dX1_init_31 : decode cX1_init 31 = .ok (.putfield 28, 3) := by decide +kernel
theorem dX1_init_34 : decode cX1_init 34 = .ok (.aload_n 0, 1) := by decide +kernel
theorem dX1_init_35 : decode cX1_init 35 = .ok (.bipush 16, 2) := by decide +kernel
theorem dX1_init_37 : decode cX1_init 37 = .ok (.newarray .int, 2) := by decide +kernel
theorem dX1_init_39 : decode cX1_init 39 = .ok (.putfield 32, 3) := by decide +kernel
theorem dX1_init_42 : decode cX1_init 42 = .ok (.aload_n 0, 1) := by decide +kernel
theorem dX1_init_43 : decode cX1_init 43 = .ok (.iconst 0, 1) := by decide +kernel
theorem dX1_init_44 : decode cX1_init 44 = .ok (.putfield 35, 3) := by decide +kernel
theorem dX1_init_47 : decode cX1_init 47 = .ok (.return_, 1) := by decide +kernel
theorem dX1_clear_0 : decode cX1_clear 0 = .ok (.aload_n 0, 1) := by decide +kernel
theorem dX1_clear_1 : decode cX1_clear 1 = .ok (.iconst 0, 1) := by decide +kernel
theorem dX1_clear_2 : decode cX1_clear 2 = .ok (.putfield 28, 3) := by decide +kernel
theorem dX1_clear_5 : decode cX1_clear 5 = .ok (.aload_n 0, 1) := by decide +kernel
theorem dX1_clear_6 : decode cX1_clear 6 = .ok (.iconst 0, 1) := by decide +kernel
theorem dX1_clear_7 : decode cX1_clear 7 = .ok (.putfield 35, 3) := by decide +kernel
theorem dX1_clear_10 : decode cX1_clear 10 = .ok (.return_, 1) := by decide +kernel
theorem dX1_append_0 : decode cX1_append 0 = .ok (.lload_n 3, 1) := by decide +kernel
theorem dX1_append_1 : decode cX1_append 1 = .ok (.lconst 0, 1) := by decide +kernel
theorem dX1_append_2 : decode cX1_append 2 = .ok (.lcmp, 1) := by decide +kernel
theorem dX1_append_3 : decode cX1_append 3 = .ok (.ifCond .ne 5, 3) := by decide +kernel
theorem dX1_append_6 : decode cX1_append 6 = .ok (.iconst 1, 1) := by decide +kernel
theorem dX1_append_7 : decode cX1_append 7 = .ok (.ireturn, 1) := by decide +kernel
theorem dX1_append_8 : decode cX1_append 8 = .ok (.lload_n 3, 1) := by decide +kernel
theorem dX1_append_9 : decode cX1_append 9 = .ok (.ldc2_w 39, 3) := by decide +kernel
theorem dX1_append_12 : decode cX1_append 12 = .ok (.lcmp, 1) := by decide +kernel
theorem dX1_append_13 : decode cX1_append 13 = .ok (.ifCond .gt 23, 3) := by decide +kernel
theorem dX1_append_16 : decode cX1_append 16 = .ok (.lload_n 3, 1) := by decide +kernel
theorem dX1_append_17 : decode cX1_append 17 = .ok (.ldc2_w 41, 3) := by decide +kernel
theorem dX1_append_20 : decode cX1_append 20 = .ok (.lcmp, 1) := by decide +kernel
theorem dX1_append_21 : decode cX1_append 21 = .ok (.ifCond .lt 15, 3) := by decide +kernel
theorem dX1_append_24 : decode cX1_append 24 = .ok (.aload_n 0, 1) := by decide +kernel
theorem dX1_append_25 : decode cX1_append 25 = .ok (.getfield 28, 3) := by decide +kernel
theorem dX1_append_28 : decode cX1_append 28 = .ok (.aload_n 0, 1) := by decide +kernel
theorem dX1_append_29 : decode cX1_append 29 = .ok (.getfield 18, 3) := by decide +kernel
theorem dX1_append_32 : decode cX1_append 32 = .ok (.arraylength, 1) := by decide +kernel
theorem dX1_append_33 : decode cX1_append 33 = .ok (.if_icmp .lt 5, 3) := by decide +kernel
theorem dX1_append_36 : decode cX1_append 36 = .ok (.iconst 0, 1) := by decide +kernel
theorem dX1_append_37 : decode cX1_append 37 = .ok (.ireturn, 1) := by decide +kernel
theorem dX1_append_38 : decode cX1_append 38 = .ok (.aload_n 0, 1) := by decide +kernel
theorem dX1_append_39 : decode cX1_append 39 = .ok (.getfield 18, 3) := by decide +kernel
theorem dX1_append_42 : decode cX1_append 42 = .ok (.aload_n 0, 1) := by decide +kernel
theorem dX1_append_43 : decode cX1_append 43 = .ok (.getfield 28, 3) := by decide +kernel
theorem dX1_append_46 : decode cX1_append 46 = .ok (.lload_n 1, 1) := by decide +kernel
theorem dX1_append_47 : decode cX1_append 47 = .ok (.lastore, 1) := by decide +kernel
theorem dX1_append_48 : decode cX1_append 48 = .ok (.aload_n 0, 1) := by decide +kernel
theorem dX1_append_49 : decode cX1_append 49 = .ok (.getfield 24, 3) := by decide +kernel
theorem dX1_append_52 : decode cX1_append 52 = .ok (.aload_n 0, 1) := by decide +kernel
theorem dX1_append_53 : decode cX1_append 53 = .ok (.getfield 28, 3) := by decide +kernel
theorem dX1_append_56 : decode cX1_append 56 = .ok (.lload_n 3, 1) := by decide +kernel
theorem dX1_append_57 : decode cX1_append 57 = .ok (.l2i, 1) := by decide +kernel
theorem dX1_append_58 : decode cX1_append 58 = .ok (.iastore, 1) := by decide +kernel
theorem dX1_append_59 : decode cX1_append 59 = .ok (.aload_n 0, 1) := by decide +kernel
theorem dX1_append_60 : decode cX1_append 60 = .ok (.dup, 1) := by decide +kernel
theorem dX1_append_61 : decode cX1_append 61 = .ok (.getfield 28, 3) := by decide +kernel
theorem dX1_append_64 : decode cX1_append 64 = .ok (.iconst 1, 1) := by decide +kernel
theorem dX1_append_65 : decode cX1_append 65 = .ok (.iadd, 1) := by decide +kernel
theorem dX1_append_66 : decode cX1_append 66 = .ok (.putfield 28, 3) := by decide +kernel
theorem dX1_append_69 : decode cX1_append 69 = .ok (.iconst 1, 1) := by decide +kernel
theorem dX1_append_70 : decode cX1_append 70 = .ok (.ireturn, 1) := by decide +kernel
theorem dX1_copied_0 : decode cX1_copied 0 = .ok (.new 19, 3) := by decide +kernel
theorem dX1_copied_3 : decode cX1_copied 3 = .ok (.dup, 1) := by decide +kernel
theorem dX1_copied_4 : decode cX1_copied 4 = .ok (.aload_n 0, 1) := by decide +kernel
theorem dX1_copied_5 : decode cX1_copied 5 = .ok (.getfield 28, 3) := by decide +kernel
theorem dX1_copied_8 : decode cX1_copied 8 = .ok (.invokespecial 43, 3) := by decide +kernel
theorem dX1_copied_11 : decode cX1_copied 11 = .ok (.astore_n 1, 1) := by decide +kernel
theorem dX1_copied_12 : decode cX1_copied 12 = .ok (.iconst 0, 1) := by decide +kernel
theorem dX1_copied_13 : decode cX1_copied 13 = .ok (.istore_n 2, 1) := by decide +kernel
theorem dX1_copied_14 : decode cX1_copied 14 = .ok (.iload_n 2, 1) := by decide +kernel
theorem dX1_copied_15 : decode cX1_copied 15 = .ok (.aload_n 0, 1) := by decide +kernel
theorem dX1_copied_16 : decode cX1_copied 16 = .ok (.getfield 28, 3) := by decide +kernel
theorem dX1_copied_19 : decode cX1_copied 19 = .ok (.if_icmp .ge 27, 3) := by decide +kernel
theorem dX1_copied_22 : decode cX1_copied 22 = .ok (.aload_n 1, 1) := by decide +kernel
theorem dX1_copied_23 : decode cX1_copied 23 = .ok (.aload_n 0, 1) := by decide +kernel
theorem dX1_copied_24 : decode cX1_copied 24 = .ok (.getfield 18, 3) := by decide +kernel
theorem dX1_copied_27 : decode cX1_copied 27 = .ok (.iload_n 2, 1) := by decide +kernel
theorem dX1_copied_28 : decode cX1_copied 28 = .ok (.laload, 1) := by decide +kernel
theorem dX1_copied_29 : decode cX1_copied 29 = .ok (.aload_n 0, 1) := by decide +kernel
theorem dX1_copied_30 : decode cX1_copied 30 = .ok (.getfield 24, 3) := by decide +kernel
theorem dX1_copied_33 : decode cX1_copied 33 = .ok (.iload_n 2, 1) := by decide +kernel
theorem dX1_copied_34 : decode cX1_copied 34 = .ok (.iaload, 1) := by decide +kernel
theorem dX1_copied_35 : decode cX1_copied 35 = .ok (.i2l, 1) := by decide +kernel
theorem dX1_copied_36 : decode cX1_copied 36 = .ok (.invokevirtual 46, 3) := by decide +kernel
theorem dX1_copied_39 : decode cX1_copied 39 = .ok (.pop, 1) := by decide +kernel
theorem dX1_copied_40 : decode cX1_copied 40 = .ok (.iinc 2 1, 3) := by decide +kernel
theorem dX1_copied_43 : decode cX1_copied 43 = .ok (.goto (-29), 3) := by decide +kernel
theorem dX1_copied_46 : decode cX1_copied 46 = .ok (.aload_n 1, 1) := by decide +kernel
theorem dX1_copied_47 : decode cX1_copied 47 = .ok (.areturn, 1) := by decide +kernel
theorem dX1_hasTerm_0 : decode cX1_hasTerm 0 = .ok (.iload_n 1, 1) := by decide +kernel
theorem dX1_hasTerm_1 : decode cX1_hasTerm 1 = .ok (.ifCond .lt 15, 3) := by decide +kernel
theorem dX1_hasTerm_4 : decode cX1_hasTerm 4 = .ok (.iload_n 1, 1) := by decide +kernel
theorem dX1_hasTerm_5 : decode cX1_hasTerm 5 = .ok (.aload_n 0, 1) := by decide +kernel
theorem dX1_hasTerm_6 : decode cX1_hasTerm 6 = .ok (.getfield 28, 3) := by decide +kernel
theorem dX1_hasTerm_9 : decode cX1_hasTerm 9 = .ok (.if_icmp .ge 7, 3) := by decide +kernel
theorem dX1_hasTerm_12 : decode cX1_hasTerm 12 = .ok (.iconst 1, 1) := by decide +kernel
theorem dX1_hasTerm_13 : decode cX1_hasTerm 13 = .ok (.goto 4, 3) := by decide +kernel
theorem dX1_hasTerm_16 : decode cX1_hasTerm 16 = .ok (.iconst 0, 1) := by decide +kernel
theorem dX1_hasTerm_17 : decode cX1_hasTerm 17 = .ok (.ireturn, 1) := by decide +kernel
theorem dX1_coefficientAt_0 : decode cX1_coefficientAt 0 = .ok (.aload_n 0, 1) := by decide +kernel
theorem dX1_coefficientAt_1 : decode cX1_coefficientAt 1 = .ok (.iload_n 1, 1) := by decide +kernel
theorem dX1_coefficientAt_2 : decode cX1_coefficientAt 2 = .ok (.invokevirtual 50, 3) := by decide +kernel
theorem dX1_coefficientAt_5 : decode cX1_coefficientAt 5 = .ok (.ifCond .eq 12, 3) := by decide +kernel
theorem dX1_coefficientAt_8 : decode cX1_coefficientAt 8 = .ok (.aload_n 0, 1) := by decide +kernel
theorem dX1_coefficientAt_9 : decode cX1_coefficientAt 9 = .ok (.getfield 24, 3) := by decide +kernel
theorem dX1_coefficientAt_12 : decode cX1_coefficientAt 12 = .ok (.iload_n 1, 1) := by decide +kernel
theorem dX1_coefficientAt_13 : decode cX1_coefficientAt 13 = .ok (.iaload, 1) := by decide +kernel
theorem dX1_coefficientAt_14 : decode cX1_coefficientAt 14 = .ok (.goto 4, 3) := by decide +kernel
theorem dX1_coefficientAt_17 : decode cX1_coefficientAt 17 = .ok (.iconst 0, 1) := by decide +kernel
theorem dX1_coefficientAt_18 : decode cX1_coefficientAt 18 = .ok (.ireturn, 1) := by decide +kernel
theorem dX1_powerAt_0 : decode cX1_powerAt 0 = .ok (.aload_n 0, 1) := by decide +kernel
theorem dX1_powerAt_1 : decode cX1_powerAt 1 = .ok (.iload_n 1, 1) := by decide +kernel
theorem dX1_powerAt_2 : decode cX1_powerAt 2 = .ok (.invokevirtual 50, 3) := by decide +kernel
theorem dX1_powerAt_5 : decode cX1_powerAt 5 = .ok (.ifCond .eq 10, 3) := by decide +kernel
theorem dX1_powerAt_8 : decode cX1_powerAt 8 = .ok (.iload_n 2, 1) := by decide +kernel
theorem dX1_powerAt_9 : decode cX1_powerAt 9 = .ok (.invokestatic 54, 3) := by decide +kernel
theorem dX1_powerAt_12 : decode cX1_powerAt 12 = .ok (.ifCond .ne 5, 3) := by decide +kernel
theorem dX1_powerAt_15 : decode cX1_powerAt 15 = .ok (.iconst 0, 1) := by decide +kernel
theorem dX1_powerAt_16 : decode cX1_powerAt 16 = .ok (.ireturn, 1) := by decide +kernel
theorem dX1_powerAt_17 : decode cX1_powerAt 17 = .ok (.aload_n 0, 1) := by decide +kernel
theorem dX1_powerAt_18 : decode cX1_powerAt 18 = .ok (.getfield 18, 3) := by decide +kernel
theorem dX1_powerAt_21 : decode cX1_powerAt 21 = .ok (.iload_n 1, 1) := by decide +kernel
theorem dX1_powerAt_22 : decode cX1_powerAt 22 = .ok (.laload, 1) := by decide +kernel
theorem dX1_powerAt_23 : decode cX1_powerAt 23 = .ok (.lstore_n 3, 1) := by decide +kernel
theorem dX1_powerAt_24 : decode cX1_powerAt 24 = .ok (.iload_n 2, 1) := by decide +kernel
theorem dX1_powerAt_25 : decode cX1_powerAt 25 = .ok (.iconst 1, 1) := by decide +kernel
theorem dX1_powerAt_26 : decode cX1_powerAt 26 = .ok (.iadd, 1) := by decide +kernel
theorem dX1_powerAt_27 : decode cX1_powerAt 27 = .ok (.istore 5, 2) := by decide +kernel
theorem dX1_powerAt_29 : decode cX1_powerAt 29 = .ok (.iload 5, 2) := by decide +kernel
theorem dX1_powerAt_31 : decode cX1_powerAt 31 = .ok (.bipush 16, 2) := by decide +kernel
theorem dX1_powerAt_33 : decode cX1_powerAt 33 = .ok (.if_icmp .ge 15, 3) := by decide +kernel
theorem dX1_powerAt_36 : decode cX1_powerAt 36 = .ok (.lload_n 3, 1) := by decide +kernel
theorem dX1_powerAt_37 : decode cX1_powerAt 37 = .ok (.ldc2_w 57, 3) := by decide +kernel
theorem dX1_powerAt_40 : decode cX1_powerAt 40 = .ok (.ldiv, 1) := by decide +kernel
theorem dX1_powerAt_41 : decode cX1_powerAt 41 = .ok (.lstore_n 3, 1) := by decide +kernel
theorem dX1_powerAt_42 : decode cX1_powerAt 42 = .ok (.iinc 5 1, 3) := by decide +kernel
theorem dX1_powerAt_45 : decode cX1_powerAt 45 = .ok (.goto (-16), 3) := by decide +kernel
theorem dX1_powerAt_48 : decode cX1_powerAt 48 = .ok (.lload_n 3, 1) := by decide +kernel
theorem dX1_powerAt_49 : decode cX1_powerAt 49 = .ok (.ldc2_w 57, 3) := by decide +kernel
theorem dX1_powerAt_52 : decode cX1_powerAt 52 = .ok (.lrem, 1) := by decide +kernel
theorem dX1_powerAt_53 : decode cX1_powerAt 53 = .ok (.l2i, 1) := by decide +kernel
theorem dX1_powerAt_54 : decode cX1_powerAt 54 = .ok (.ireturn, 1) := by decide +kernel
theorem dX1_matches_0 : decode cX1_matches 0 = .ok (.aload_n 0, 1) := by decide +kernel
theorem dX1_matches_1 : decode cX1_matches 1 = .ok (.getfield 28, 3) := by decide +kernel
theorem dX1_matches_4 : decode cX1_matches 4 = .ok (.aload_n 1, 1) := by decide +kernel
theorem dX1_matches_5 : decode cX1_matches 5 = .ok (.getfield 28, 3) := by decide +kernel
theorem dX1_matches_8 : decode cX1_matches 8 = .ok (.if_icmp .eq 5, 3) := by decide +kernel
theorem dX1_matches_11 : decode cX1_matches 11 = .ok (.iconst 0, 1) := by decide +kernel
theorem dX1_matches_12 : decode cX1_matches 12 = .ok (.ireturn, 1) := by decide +kernel
theorem dX1_matches_13 : decode cX1_matches 13 = .ok (.iconst 0, 1) := by decide +kernel
theorem dX1_matches_14 : decode cX1_matches 14 = .ok (.istore_n 2, 1) := by decide +kernel
theorem dX1_matches_15 : decode cX1_matches 15 = .ok (.iload_n 2, 1) := by decide +kernel
theorem dX1_matches_16 : decode cX1_matches 16 = .ok (.aload_n 0, 1) := by decide +kernel
theorem dX1_matches_17 : decode cX1_matches 17 = .ok (.getfield 28, 3) := by decide +kernel
theorem dX1_matches_20 : decode cX1_matches 20 = .ok (.if_icmp .ge 42, 3) := by decide +kernel
theorem dX1_matches_23 : decode cX1_matches 23 = .ok (.aload_n 0, 1) := by decide +kernel
theorem dX1_matches_24 : decode cX1_matches 24 = .ok (.getfield 18, 3) := by decide +kernel
theorem dX1_matches_27 : decode cX1_matches 27 = .ok (.iload_n 2, 1) := by decide +kernel
theorem dX1_matches_28 : decode cX1_matches 28 = .ok (.laload, 1) := by decide +kernel
theorem dX1_matches_29 : decode cX1_matches 29 = .ok (.aload_n 1, 1) := by decide +kernel
theorem dX1_matches_30 : decode cX1_matches 30 = .ok (.getfield 18, 3) := by decide +kernel
theorem dX1_matches_33 : decode cX1_matches 33 = .ok (.iload_n 2, 1) := by decide +kernel
theorem dX1_matches_34 : decode cX1_matches 34 = .ok (.laload, 1) := by decide +kernel
theorem dX1_matches_35 : decode cX1_matches 35 = .ok (.lcmp, 1) := by decide +kernel
theorem dX1_matches_36 : decode cX1_matches 36 = .ok (.ifCond .ne 18, 3) := by decide +kernel
theorem dX1_matches_39 : decode cX1_matches 39 = .ok (.aload_n 0, 1) := by decide +kernel
theorem dX1_matches_40 : decode cX1_matches 40 = .ok (.getfield 24, 3) := by decide +kernel
theorem dX1_matches_43 : decode cX1_matches 43 = .ok (.iload_n 2, 1) := by decide +kernel
theorem dX1_matches_44 : decode cX1_matches 44 = .ok (.iaload, 1) := by decide +kernel
theorem dX1_matches_45 : decode cX1_matches 45 = .ok (.aload_n 1, 1) := by decide +kernel
theorem dX1_matches_46 : decode cX1_matches 46 = .ok (.getfield 24, 3) := by decide +kernel
theorem dX1_matches_49 : decode cX1_matches 49 = .ok (.iload_n 2, 1) := by decide +kernel
theorem dX1_matches_50 : decode cX1_matches 50 = .ok (.iaload, 1) := by decide +kernel
theorem dX1_matches_51 : decode cX1_matches 51 = .ok (.if_icmp .eq 5, 3) := by decide +kernel
theorem dX1_matches_54 : decode cX1_matches 54 = .ok (.iconst 0, 1) := by decide +kernel
theorem dX1_matches_55 : decode cX1_matches 55 = .ok (.ireturn, 1) := by decide +kernel
theorem dX1_matches_56 : decode cX1_matches 56 = .ok (.iinc 2 1, 3) := by decide +kernel
theorem dX1_matches_59 : decode cX1_matches 59 = .ok (.goto (-44), 3) := by decide +kernel
theorem dX1_matches_62 : decode cX1_matches 62 = .ok (.iconst 1, 1) := by decide +kernel
theorem dX1_matches_63 : decode cX1_matches 63 = .ok (.ireturn, 1) := by decide +kernel
theorem dX1_valueWith_0 : decode cX1_valueWith 0 = .ok (.lconst 0, 1) := by decide +kernel
theorem dX1_valueWith_1 : decode cX1_valueWith 1 = .ok (.lstore_n 2, 1) := by decide +kernel
theorem dX1_valueWith_2 : decode cX1_valueWith 2 = .ok (.aload_n 0, 1) := by decide +kernel
theorem dX1_valueWith_3 : decode cX1_valueWith 3 = .ok (.getfield 28, 3) := by decide +kernel
theorem dX1_valueWith_6 : decode cX1_valueWith 6 = .ok (.ifCond .le 16, 3) := by decide +kernel
theorem dX1_valueWith_9 : decode cX1_valueWith 9 = .ok (.aload_n 0, 1) := by decide +kernel
theorem dX1_valueWith_10 : decode cX1_valueWith 10 = .ok (.getfield 18, 3) := by decide +kernel
theorem dX1_valueWith_13 : decode cX1_valueWith 13 = .ok (.iconst 0, 1) := by decide +kernel
theorem dX1_valueWith_14 : decode cX1_valueWith 14 = .ok (.laload, 1) := by decide +kernel
theorem dX1_valueWith_15 : decode cX1_valueWith 15 = .ok (.ldc2_w 59, 3) := by decide +kernel
theorem dX1_valueWith_18 : decode cX1_valueWith 18 = .ok (.ldiv, 1) := by decide +kernel
theorem dX1_valueWith_19 : decode cX1_valueWith 19 = .ok (.goto 4, 3) := by decide +kernel
theorem dX1_valueWith_22 : decode cX1_valueWith 22 = .ok (.lconst 0, 1) := by decide +kernel
theorem dX1_valueWith_23 : decode cX1_valueWith 23 = .ok (.lstore 4, 2) := by decide +kernel
theorem dX1_valueWith_25 : decode cX1_valueWith 25 = .ok (.iconst 0, 1) := by decide +kernel
theorem dX1_valueWith_26 : decode cX1_valueWith 26 = .ok (.istore 6, 2) := by decide +kernel
theorem dX1_valueWith_28 : decode cX1_valueWith 28 = .ok (.iload 6, 2) := by decide +kernel
theorem dX1_valueWith_30 : decode cX1_valueWith 30 = .ok (.aload_n 0, 1) := by decide +kernel
theorem dX1_valueWith_31 : decode cX1_valueWith 31 = .ok (.getfield 28, 3) := by decide +kernel
theorem dX1_valueWith_34 : decode cX1_valueWith 34 = .ok (.if_icmp .ge 55, 3) := by decide +kernel
theorem dX1_valueWith_37 : decode cX1_valueWith 37 = .ok (.aload_n 0, 1) := by decide +kernel
theorem dX1_valueWith_38 : decode cX1_valueWith 38 = .ok (.getfield 18, 3) := by decide +kernel
theorem dX1_valueWith_41 : decode cX1_valueWith 41 = .ok (.iload 6, 2) := by decide +kernel
theorem dX1_valueWith_43 : decode cX1_valueWith 43 = .ok (.laload, 1) := by decide +kernel
theorem dX1_valueWith_44 : decode cX1_valueWith 44 = .ok (.ldc2_w 59, 3) := by decide +kernel
theorem dX1_valueWith_47 : decode cX1_valueWith 47 = .ok (.ldiv, 1) := by decide +kernel
theorem dX1_valueWith_48 : decode cX1_valueWith 48 = .ok (.lstore 7, 2) := by decide +kernel
theorem dX1_valueWith_50 : decode cX1_valueWith 50 = .ok (.lload 4, 2) := by decide +kernel
theorem dX1_valueWith_52 : decode cX1_valueWith 52 = .ok (.lload 7, 2) := by decide +kernel
theorem dX1_valueWith_54 : decode cX1_valueWith 54 = .ok (.lcmp, 1) := by decide +kernel
theorem dX1_valueWith_55 : decode cX1_valueWith 55 = .ok (.ifCond .le 17, 3) := by decide +kernel
theorem dX1_valueWith_58 : decode cX1_valueWith 58 = .ok (.lload_n 2, 1) := by decide +kernel
theorem dX1_valueWith_59 : decode cX1_valueWith 59 = .ok (.iload_n 1, 1) := by decide +kernel
theorem dX1_valueWith_60 : decode cX1_valueWith 60 = .ok (.i2l, 1) := by decide +kernel
theorem dX1_valueWith_61 : decode cX1_valueWith 61 = .ok (.lmul, 1) := by decide +kernel
theorem dX1_valueWith_62 : decode cX1_valueWith 62 = .ok (.lstore_n 2, 1) := by decide +kernel
theorem dX1_valueWith_63 : decode cX1_valueWith 63 = .ok (.lload 4, 2) := by decide +kernel
theorem dX1_valueWith_65 : decode cX1_valueWith 65 = .ok (.lconst 1, 1) := by decide +kernel
theorem dX1_valueWith_66 : decode cX1_valueWith 66 = .ok (.lsub, 1) := by decide +kernel
theorem dX1_valueWith_67 : decode cX1_valueWith 67 = .ok (.lstore 4, 2) := by decide +kernel
theorem dX1_valueWith_69 : decode cX1_valueWith 69 = .ok (.goto (-19), 3) := by decide +kernel
theorem dX1_valueWith_72 : decode cX1_valueWith 72 = .ok (.lload_n 2, 1) := by decide +kernel
theorem dX1_valueWith_73 : decode cX1_valueWith 73 = .ok (.aload_n 0, 1) := by decide +kernel
theorem dX1_valueWith_74 : decode cX1_valueWith 74 = .ok (.getfield 24, 3) := by decide +kernel
theorem dX1_valueWith_77 : decode cX1_valueWith 77 = .ok (.iload 6, 2) := by decide +kernel
theorem dX1_valueWith_79 : decode cX1_valueWith 79 = .ok (.iaload, 1) := by decide +kernel
theorem dX1_valueWith_80 : decode cX1_valueWith 80 = .ok (.i2l, 1) := by decide +kernel
theorem dX1_valueWith_81 : decode cX1_valueWith 81 = .ok (.ladd, 1) := by decide +kernel
theorem dX1_valueWith_82 : decode cX1_valueWith 82 = .ok (.lstore_n 2, 1) := by decide +kernel
theorem dX1_valueWith_83 : decode cX1_valueWith 83 = .ok (.iinc 6 1, 3) := by decide +kernel
theorem dX1_valueWith_86 : decode cX1_valueWith 86 = .ok (.goto (-58), 3) := by decide +kernel
theorem dX1_valueWith_89 : decode cX1_valueWith 89 = .ok (.lload 4, 2) := by decide +kernel
theorem dX1_valueWith_91 : decode cX1_valueWith 91 = .ok (.lconst 0, 1) := by decide +kernel
theorem dX1_valueWith_92 : decode cX1_valueWith 92 = .ok (.lcmp, 1) := by decide +kernel
theorem dX1_valueWith_93 : decode cX1_valueWith 93 = .ok (.ifCond .le 17, 3) := by decide +kernel
theorem dX1_valueWith_96 : decode cX1_valueWith 96 = .ok (.lload_n 2, 1) := by decide +kernel
theorem dX1_valueWith_97 : decode cX1_valueWith 97 = .ok (.iload_n 1, 1) := by decide +kernel
theorem dX1_valueWith_98 : decode cX1_valueWith 98 = .ok (.i2l, 1) := by decide +kernel
theorem dX1_valueWith_99 : decode cX1_valueWith 99 = .ok (.lmul, 1) := by decide +kernel
theorem dX1_valueWith_100 : decode cX1_valueWith 100 = .ok (.lstore_n 2, 1) := by decide +kernel
theorem dX1_valueWith_101 : decode cX1_valueWith 101 = .ok (.lload 4, 2) := by decide +kernel
theorem dX1_valueWith_103 : decode cX1_valueWith 103 = .ok (.lconst 1, 1) := by decide +kernel
theorem dX1_valueWith_104 : decode cX1_valueWith 104 = .ok (.lsub, 1) := by decide +kernel
theorem dX1_valueWith_105 : decode cX1_valueWith 105 = .ok (.lstore 4, 2) := by decide +kernel
theorem dX1_valueWith_107 : decode cX1_valueWith 107 = .ok (.goto (-18), 3) := by decide +kernel
theorem dX1_valueWith_110 : decode cX1_valueWith 110 = .ok (.lload_n 2, 1) := by decide +kernel
theorem dX1_valueWith_111 : decode cX1_valueWith 111 = .ok (.lreturn, 1) := by decide +kernel
theorem dX1_findTops_0 : decode cX1_findTops 0 = .ok (.aload_n 0, 1) := by decide +kernel
theorem dX1_findTops_1 : decode cX1_findTops 1 = .ok (.getfield 35, 3) := by decide +kernel
theorem dX1_findTops_4 : decode cX1_findTops 4 = .ok (.ifCond .eq 4, 3) := by decide +kernel
theorem dX1_findTops_7 : decode cX1_findTops 7 = .ok (.return_, 1) := by decide +kernel
theorem dX1_findTops_8 : decode cX1_findTops 8 = .ok (.iconst 0, 1) := by decide +kernel
theorem dX1_findTops_9 : decode cX1_findTops 9 = .ok (.istore_n 1, 1) := by decide +kernel
theorem dX1_findTops_10 : decode cX1_findTops 10 = .ok (.iload_n 1, 1) := by decide +kernel
theorem dX1_findTops_11 : decode cX1_findTops 11 = .ok (.bipush 16, 2) := by decide +kernel
theorem dX1_findTops_13 : decode cX1_findTops 13 = .ok (.if_icmp .ge 16, 3) := by decide +kernel
theorem dX1_findTops_16 : decode cX1_findTops 16 = .ok (.aload_n 0, 1) := by decide +kernel
theorem dX1_findTops_17 : decode cX1_findTops 17 = .ok (.getfield 32, 3) := by decide +kernel
theorem dX1_findTops_20 : decode cX1_findTops 20 = .ok (.iload_n 1, 1) := by decide +kernel
theorem dX1_findTops_21 : decode cX1_findTops 21 = .ok (.iconst 0, 1) := by decide +kernel
theorem dX1_findTops_22 : decode cX1_findTops 22 = .ok (.iastore, 1) := by decide +kernel
theorem dX1_findTops_23 : decode cX1_findTops 23 = .ok (.iinc 1 1, 3) := by decide +kernel
theorem dX1_findTops_26 : decode cX1_findTops 26 = .ok (.goto (-16), 3) := by decide +kernel
theorem dX1_findTops_29 : decode cX1_findTops 29 = .ok (.iconst 0, 1) := by decide +kernel
theorem dX1_findTops_30 : decode cX1_findTops 30 = .ok (.istore_n 1, 1) := by decide +kernel
theorem dX1_findTops_31 : decode cX1_findTops 31 = .ok (.iload_n 1, 1) := by decide +kernel
theorem dX1_findTops_32 : decode cX1_findTops 32 = .ok (.aload_n 0, 1) := by decide +kernel
theorem dX1_findTops_33 : decode cX1_findTops 33 = .ok (.getfield 28, 3) := by decide +kernel
theorem dX1_findTops_36 : decode cX1_findTops 36 = .ok (.if_icmp .ge 60, 3) := by decide +kernel
theorem dX1_findTops_39 : decode cX1_findTops 39 = .ok (.aload_n 0, 1) := by decide +kernel
theorem dX1_findTops_40 : decode cX1_findTops 40 = .ok (.getfield 18, 3) := by decide +kernel
theorem dX1_findTops_43 : decode cX1_findTops 43 = .ok (.iload_n 1, 1) := by decide +kernel
theorem dX1_findTops_44 : decode cX1_findTops 44 = .ok (.laload, 1) := by decide +kernel
theorem dX1_findTops_45 : decode cX1_findTops 45 = .ok (.lstore_n 2, 1) := by decide +kernel
theorem dX1_findTops_46 : decode cX1_findTops 46 = .ok (.bipush 15, 2) := by decide +kernel
theorem dX1_findTops_48 : decode cX1_findTops 48 = .ok (.istore 4, 2) := by decide +kernel
theorem dX1_findTops_50 : decode cX1_findTops 50 = .ok (.iload 4, 2) := by decide +kernel
theorem dX1_findTops_52 : decode cX1_findTops 52 = .ok (.ifCond .lt 38, 3) := by decide +kernel
theorem dX1_findTops_55 : decode cX1_findTops 55 = .ok (.aload_n 0, 1) := by decide +kernel
theorem dX1_findTops_56 : decode cX1_findTops 56 = .ok (.getfield 32, 3) := by decide +kernel
theorem dX1_findTops_59 : decode cX1_findTops 59 = .ok (.iload 4, 2) := by decide +kernel
theorem dX1_findTops_61 : decode cX1_findTops 61 = .ok (.aload_n 0, 1) := by decide +kernel
theorem dX1_findTops_62 : decode cX1_findTops 62 = .ok (.getfield 32, 3) := by decide +kernel
theorem dX1_findTops_65 : decode cX1_findTops 65 = .ok (.iload 4, 2) := by decide +kernel
theorem dX1_findTops_67 : decode cX1_findTops 67 = .ok (.iaload, 1) := by decide +kernel
theorem dX1_findTops_68 : decode cX1_findTops 68 = .ok (.lload_n 2, 1) := by decide +kernel
theorem dX1_findTops_69 : decode cX1_findTops 69 = .ok (.ldc2_w 57, 3) := by decide +kernel
theorem dX1_findTops_72 : decode cX1_findTops 72 = .ok (.lrem, 1) := by decide +kernel
theorem dX1_findTops_73 : decode cX1_findTops 73 = .ok (.l2i, 1) := by decide +kernel
theorem dX1_findTops_74 : decode cX1_findTops 74 = .ok (.invokestatic 15, 3) := by decide +kernel
theorem dX1_findTops_77 : decode cX1_findTops 77 = .ok (.iastore, 1) := by decide +kernel
theorem dX1_findTops_78 : decode cX1_findTops 78 = .ok (.lload_n 2, 1) := by decide +kernel
theorem dX1_findTops_79 : decode cX1_findTops 79 = .ok (.ldc2_w 57, 3) := by decide +kernel
theorem dX1_findTops_82 : decode cX1_findTops 82 = .ok (.ldiv, 1) := by decide +kernel
theorem dX1_findTops_83 : decode cX1_findTops 83 = .ok (.lstore_n 2, 1) := by decide +kernel
theorem dX1_findTops_84 : decode cX1_findTops 84 = .ok (.iinc 4 (-1), 3) := by decide +kernel
theorem dX1_findTops_87 : decode cX1_findTops 87 = .ok (.goto (-37), 3) := by decide +kernel
theorem dX1_findTops_90 : decode cX1_findTops 90 = .ok (.iinc 1 1, 3) := by decide +kernel
theorem dX1_findTops_93 : decode cX1_findTops 93 = .ok (.goto (-62), 3) := by decide +kernel
theorem dX1_findTops_96 : decode cX1_findTops 96 = .ok (.aload_n 0, 1) := by decide +kernel
theorem dX1_findTops_97 : decode cX1_findTops 97 = .ok (.iconst 1, 1) := by decide +kernel
theorem dX1_findTops_98 : decode cX1_findTops 98 = .ok (.putfield 35, 3) := by decide +kernel
theorem dX1_findTops_101 : decode cX1_findTops 101 = .ok (.return_, 1) := by decide +kernel
theorem dX1_takeTops_0 : decode cX1_takeTops 0 = .ok (.aload_n 1, 1) := by decide +kernel
theorem dX1_takeTops_1 : decode cX1_takeTops 1 = .ok (.invokevirtual 61, 3) := by decide +kernel
theorem dX1_takeTops_4 : decode cX1_takeTops 4 = .ok (.aload_n 2, 1) := by decide +kernel
theorem dX1_takeTops_5 : decode cX1_takeTops 5 = .ok (.invokevirtual 61, 3) := by decide +kernel
theorem dX1_takeTops_8 : decode cX1_takeTops 8 = .ok (.iconst 0, 1) := by decide +kernel
theorem dX1_takeTops_9 : decode cX1_takeTops 9 = .ok (.istore_n 3, 1) := by decide +kernel
theorem dX1_takeTops_10 : decode cX1_takeTops 10 = .ok (.iload_n 3, 1) := by decide +kernel
theorem dX1_takeTops_11 : decode cX1_takeTops 11 = .ok (.bipush 16, 2) := by decide +kernel
theorem dX1_takeTops_13 : decode cX1_takeTops 13 = .ok (.if_icmp .ge 41, 3) := by decide +kernel
theorem dX1_takeTops_16 : decode cX1_takeTops 16 = .ok (.aload_n 0, 1) := by decide +kernel
theorem dX1_takeTops_17 : decode cX1_takeTops 17 = .ok (.getfield 32, 3) := by decide +kernel
theorem dX1_takeTops_20 : decode cX1_takeTops 20 = .ok (.iload_n 3, 1) := by decide +kernel
theorem dX1_takeTops_21 : decode cX1_takeTops 21 = .ok (.aload_n 1, 1) := by decide +kernel
theorem dX1_takeTops_22 : decode cX1_takeTops 22 = .ok (.getfield 32, 3) := by decide +kernel
theorem dX1_takeTops_25 : decode cX1_takeTops 25 = .ok (.iload_n 3, 1) := by decide +kernel
theorem dX1_takeTops_26 : decode cX1_takeTops 26 = .ok (.iaload, 1) := by decide +kernel
theorem dX1_takeTops_27 : decode cX1_takeTops 27 = .ok (.aload_n 2, 1) := by decide +kernel
theorem dX1_takeTops_28 : decode cX1_takeTops 28 = .ok (.getfield 32, 3) := by decide +kernel
theorem dX1_takeTops_31 : decode cX1_takeTops 31 = .ok (.iload_n 3, 1) := by decide +kernel
theorem dX1_takeTops_32 : decode cX1_takeTops 32 = .ok (.iaload, 1) := by decide +kernel
theorem dX1_takeTops_33 : decode cX1_takeTops 33 = .ok (.iadd, 1) := by decide +kernel
theorem dX1_takeTops_34 : decode cX1_takeTops 34 = .ok (.iastore, 1) := by decide +kernel
theorem dX1_takeTops_35 : decode cX1_takeTops 35 = .ok (.aload_n 0, 1) := by decide +kernel
theorem dX1_takeTops_36 : decode cX1_takeTops 36 = .ok (.getfield 32, 3) := by decide +kernel
theorem dX1_takeTops_39 : decode cX1_takeTops 39 = .ok (.iload_n 3, 1) := by decide +kernel
theorem dX1_takeTops_40 : decode cX1_takeTops 40 = .ok (.iaload, 1) := by decide +kernel
theorem dX1_takeTops_41 : decode cX1_takeTops 41 = .ok (.bipush 9, 2) := by decide +kernel
theorem dX1_takeTops_43 : decode cX1_takeTops 43 = .ok (.if_icmp .le 5, 3) := by decide +kernel
theorem dX1_takeTops_46 : decode cX1_takeTops 46 = .ok (.iconst 0, 1) := by decide +kernel
theorem dX1_takeTops_47 : decode cX1_takeTops 47 = .ok (.ireturn, 1) := by decide +kernel
theorem dX1_takeTops_48 : decode cX1_takeTops 48 = .ok (.iinc 3 1, 3) := by decide +kernel
theorem dX1_takeTops_51 : decode cX1_takeTops 51 = .ok (.goto (-41), 3) := by decide +kernel
theorem dX1_takeTops_54 : decode cX1_takeTops 54 = .ok (.aload_n 0, 1) := by decide +kernel
theorem dX1_takeTops_55 : decode cX1_takeTops 55 = .ok (.iconst 1, 1) := by decide +kernel
theorem dX1_takeTops_56 : decode cX1_takeTops 56 = .ok (.putfield 35, 3) := by decide +kernel
theorem dX1_takeTops_59 : decode cX1_takeTops 59 = .ok (.iconst 1, 1) := by decide +kernel
theorem dX1_takeTops_60 : decode cX1_takeTops 60 = .ok (.ireturn, 1) := by decide +kernel
theorem dX1_takeSum_0 : decode cX1_takeSum 0 = .ok (.aload_n 0, 1) := by decide +kernel
theorem dX1_takeSum_1 : decode cX1_takeSum 1 = .ok (.invokevirtual 64, 3) := by decide +kernel
theorem dX1_takeSum_4 : decode cX1_takeSum 4 = .ok (.iconst 0, 1) := by decide +kernel
theorem dX1_takeSum_5 : decode cX1_takeSum 5 = .ok (.istore 4, 2) := by decide +kernel
theorem dX1_takeSum_7 : decode cX1_takeSum 7 = .ok (.iconst 0, 1) := by decide +kernel
theorem dX1_takeSum_8 : decode cX1_takeSum 8 = .ok (.istore 5, 2) := by decide +kernel
theorem dX1_takeSum_10 : decode cX1_takeSum 10 = .ok (.aload_n 1, 1) := by decide +kernel
theorem dX1_takeSum_11 : decode cX1_takeSum 11 = .ok (.getfield 28, 3) := by decide +kernel
theorem dX1_takeSum_14 : decode cX1_takeSum 14 = .ok (.aload_n 2, 1) := by decide +kernel
theorem dX1_takeSum_15 : decode cX1_takeSum 15 = .ok (.getfield 28, 3) := by decide +kernel
theorem dX1_takeSum_18 : decode cX1_takeSum 18 = .ok (.iadd, 1) := by decide +kernel
theorem dX1_takeSum_19 : decode cX1_takeSum 19 = .ok (.istore 6, 2) := by decide +kernel
theorem dX1_takeSum_21 : decode cX1_takeSum 21 = .ok (.iconst 0, 1) := by decide +kernel
theorem dX1_takeSum_22 : decode cX1_takeSum 22 = .ok (.istore 7, 2) := by decide +kernel
theorem dX1_takeSum_24 : decode cX1_takeSum 24 = .ok (.iload 7, 2) := by decide +kernel
theorem dX1_takeSum_26 : decode cX1_takeSum 26 = .ok (.iload 6, 2) := by decide +kernel
theorem dX1_takeSum_28 : decode cX1_takeSum 28 = .ok (.if_icmp .ge 198, 3) := by decide +kernel
theorem dX1_takeSum_31 : decode cX1_takeSum 31 = .ok (.iload 4, 2) := by decide +kernel
theorem dX1_takeSum_33 : decode cX1_takeSum 33 = .ok (.aload_n 1, 1) := by decide +kernel
theorem dX1_takeSum_34 : decode cX1_takeSum 34 = .ok (.getfield 28, 3) := by decide +kernel
theorem dX1_takeSum_37 : decode cX1_takeSum 37 = .ok (.if_icmp .lt 12, 3) := by decide +kernel
theorem dX1_takeSum_40 : decode cX1_takeSum 40 = .ok (.iload 5, 2) := by decide +kernel
theorem dX1_takeSum_42 : decode cX1_takeSum 42 = .ok (.aload_n 2, 1) := by decide +kernel
theorem dX1_takeSum_43 : decode cX1_takeSum 43 = .ok (.getfield 28, 3) := by decide +kernel
theorem dX1_takeSum_46 : decode cX1_takeSum 46 = .ok (.if_icmp .ge 180, 3) := by decide +kernel
theorem dX1_takeSum_49 : decode cX1_takeSum 49 = .ok (.iload 4, 2) := by decide +kernel
theorem dX1_takeSum_51 : decode cX1_takeSum 51 = .ok (.aload_n 1, 1) := by decide +kernel
theorem dX1_takeSum_52 : decode cX1_takeSum 52 = .ok (.getfield 28, 3) := by decide +kernel
theorem dX1_takeSum_55 : decode cX1_takeSum 55 = .ok (.if_icmp .ge 34, 3) := by decide +kernel
theorem dX1_takeSum_58 : decode cX1_takeSum 58 = .ok (.iload 5, 2) := by decide +kernel
theorem dX1_takeSum_60 : decode cX1_takeSum 60 = .ok (.aload_n 2, 1) := by decide +kernel
theorem dX1_takeSum_61 : decode cX1_takeSum 61 = .ok (.getfield 28, 3) := by decide +kernel
theorem dX1_takeSum_64 : decode cX1_takeSum 64 = .ok (.if_icmp .ge 21, 3) := by decide +kernel
theorem dX1_takeSum_67 : decode cX1_takeSum 67 = .ok (.aload_n 1, 1) := by decide +kernel
theorem dX1_takeSum_68 : decode cX1_takeSum 68 = .ok (.getfield 18, 3) := by decide +kernel
theorem dX1_takeSum_71 : decode cX1_takeSum 71 = .ok (.iload 4, 2) := by decide +kernel
theorem dX1_takeSum_73 : decode cX1_takeSum 73 = .ok (.laload, 1) := by decide +kernel
theorem dX1_takeSum_74 : decode cX1_takeSum 74 = .ok (.aload_n 2, 1) := by decide +kernel
theorem dX1_takeSum_75 : decode cX1_takeSum 75 = .ok (.getfield 18, 3) := by decide +kernel
theorem dX1_takeSum_78 : decode cX1_takeSum 78 = .ok (.iload 5, 2) := by decide +kernel
theorem dX1_takeSum_80 : decode cX1_takeSum 80 = .ok (.laload, 1) := by decide +kernel
theorem dX1_takeSum_81 : decode cX1_takeSum 81 = .ok (.lcmp, 1) := by decide +kernel
theorem dX1_takeSum_82 : decode cX1_takeSum 82 = .ok (.ifCond .lt 7, 3) := by decide +kernel
theorem dX1_takeSum_85 : decode cX1_takeSum 85 = .ok (.iconst 1, 1) := by decide +kernel
theorem dX1_takeSum_86 : decode cX1_takeSum 86 = .ok (.goto 4, 3) := by decide +kernel
theorem dX1_takeSum_89 : decode cX1_takeSum 89 = .ok (.iconst 0, 1) := by decide +kernel
theorem dX1_takeSum_90 : decode cX1_takeSum 90 = .ok (.istore 8, 2) := by decide +kernel
theorem dX1_takeSum_92 : decode cX1_takeSum 92 = .ok (.iload 5, 2) := by decide +kernel
theorem dX1_takeSum_94 : decode cX1_takeSum 94 = .ok (.aload_n 2, 1) := by decide +kernel
theorem dX1_takeSum_95 : decode cX1_takeSum 95 = .ok (.getfield 28, 3) := by decide +kernel
theorem dX1_takeSum_98 : decode cX1_takeSum 98 = .ok (.if_icmp .ge 34, 3) := by decide +kernel
theorem dX1_takeSum_101 : decode cX1_takeSum 101 = .ok (.iload 4, 2) := by decide +kernel
theorem dX1_takeSum_103 : decode cX1_takeSum 103 = .ok (.aload_n 1, 1) := by decide +kernel
theorem dX1_takeSum_104 : decode cX1_takeSum 104 = .ok (.getfield 28, 3) := by decide +kernel
theorem dX1_takeSum_107 : decode cX1_takeSum 107 = .ok (.if_icmp .ge 21, 3) := by decide +kernel
theorem dX1_takeSum_110 : decode cX1_takeSum 110 = .ok (.aload_n 2, 1) := by decide +kernel
theorem dX1_takeSum_111 : decode cX1_takeSum 111 = .ok (.getfield 18, 3) := by decide +kernel
theorem dX1_takeSum_114 : decode cX1_takeSum 114 = .ok (.iload 5, 2) := by decide +kernel
theorem dX1_takeSum_116 : decode cX1_takeSum 116 = .ok (.laload, 1) := by decide +kernel
theorem dX1_takeSum_117 : decode cX1_takeSum 117 = .ok (.aload_n 1, 1) := by decide +kernel
theorem dX1_takeSum_118 : decode cX1_takeSum 118 = .ok (.getfield 18, 3) := by decide +kernel
theorem dX1_takeSum_121 : decode cX1_takeSum 121 = .ok (.iload 4, 2) := by decide +kernel
theorem dX1_takeSum_123 : decode cX1_takeSum 123 = .ok (.laload, 1) := by decide +kernel
theorem dX1_takeSum_124 : decode cX1_takeSum 124 = .ok (.lcmp, 1) := by decide +kernel
theorem dX1_takeSum_125 : decode cX1_takeSum 125 = .ok (.ifCond .lt 7, 3) := by decide +kernel
theorem dX1_takeSum_128 : decode cX1_takeSum 128 = .ok (.iconst 1, 1) := by decide +kernel
theorem dX1_takeSum_129 : decode cX1_takeSum 129 = .ok (.goto 4, 3) := by decide +kernel
theorem dX1_takeSum_132 : decode cX1_takeSum 132 = .ok (.iconst 0, 1) := by decide +kernel
theorem dX1_takeSum_133 : decode cX1_takeSum 133 = .ok (.istore 9, 2) := by decide +kernel
theorem dX1_takeSum_135 : decode cX1_takeSum 135 = .ok (.iload 8, 2) := by decide +kernel
theorem dX1_takeSum_137 : decode cX1_takeSum 137 = .ok (.ifCond .eq 13, 3) := by decide +kernel
theorem dX1_takeSum_140 : decode cX1_takeSum 140 = .ok (.aload_n 1, 1) := by decide +kernel
theorem dX1_takeSum_141 : decode cX1_takeSum 141 = .ok (.getfield 18, 3) := by decide +kernel
theorem dX1_takeSum_144 : decode cX1_takeSum 144 = .ok (.iload 4, 2) := by decide +kernel
theorem dX1_takeSum_146 : decode cX1_takeSum 146 = .ok (.laload, 1) := by decide +kernel
theorem dX1_takeSum_147 : decode cX1_takeSum 147 = .ok (.goto 10, 3) := by decide +kernel
theorem dX1_takeSum_150 : decode cX1_takeSum 150 = .ok (.aload_n 2, 1) := by decide +kernel
theorem dX1_takeSum_151 : decode cX1_takeSum 151 = .ok (.getfield 18, 3) := by decide +kernel
theorem dX1_takeSum_154 : decode cX1_takeSum 154 = .ok (.iload 5, 2) := by decide +kernel
theorem dX1_takeSum_156 : decode cX1_takeSum 156 = .ok (.laload, 1) := by decide +kernel
theorem dX1_takeSum_157 : decode cX1_takeSum 157 = .ok (.lstore 10, 2) := by decide +kernel
theorem dX1_takeSum_159 : decode cX1_takeSum 159 = .ok (.lconst 0, 1) := by decide +kernel
theorem dX1_takeSum_160 : decode cX1_takeSum 160 = .ok (.lstore 12, 2) := by decide +kernel
theorem dX1_takeSum_162 : decode cX1_takeSum 162 = .ok (.iload 8, 2) := by decide +kernel
theorem dX1_takeSum_164 : decode cX1_takeSum 164 = .ok (.ifCond .eq 19, 3) := by decide +kernel
theorem dX1_takeSum_167 : decode cX1_takeSum 167 = .ok (.lload 12, 2) := by decide +kernel
theorem dX1_takeSum_169 : decode cX1_takeSum 169 = .ok (.aload_n 1, 1) := by decide +kernel
theorem dX1_takeSum_170 : decode cX1_takeSum 170 = .ok (.getfield 24, 3) := by decide +kernel
theorem dX1_takeSum_173 : decode cX1_takeSum 173 = .ok (.iload 4, 2) := by decide +kernel
theorem dX1_takeSum_175 : decode cX1_takeSum 175 = .ok (.iaload, 1) := by decide +kernel
theorem dX1_takeSum_176 : decode cX1_takeSum 176 = .ok (.i2l, 1) := by decide +kernel
theorem dX1_takeSum_177 : decode cX1_takeSum 177 = .ok (.ladd, 1) := by decide +kernel
theorem dX1_takeSum_178 : decode cX1_takeSum 178 = .ok (.lstore 12, 2) := by decide +kernel
theorem dX1_takeSum_180 : decode cX1_takeSum 180 = .ok (.iinc 4 1, 3) := by decide +kernel
theorem dX1_takeSum_183 : decode cX1_takeSum 183 = .ok (.iload 9, 2) := by decide +kernel
theorem dX1_takeSum_185 : decode cX1_takeSum 185 = .ok (.ifCond .eq 22, 3) := by decide +kernel
theorem dX1_takeSum_188 : decode cX1_takeSum 188 = .ok (.lload 12, 2) := by decide +kernel
theorem dX1_takeSum_190 : decode cX1_takeSum 190 = .ok (.iload_n 3, 1) := by decide +kernel
theorem dX1_takeSum_191 : decode cX1_takeSum 191 = .ok (.i2l, 1) := by decide +kernel
theorem dX1_takeSum_192 : decode cX1_takeSum 192 = .ok (.aload_n 2, 1) := by decide +kernel
theorem dX1_takeSum_193 : decode cX1_takeSum 193 = .ok (.getfield 24, 3) := by decide +kernel
theorem dX1_takeSum_196 : decode cX1_takeSum 196 = .ok (.iload 5, 2) := by decide +kernel
theorem dX1_takeSum_198 : decode cX1_takeSum 198 = .ok (.iaload, 1) := by decide +kernel
theorem dX1_takeSum_199 : decode cX1_takeSum 199 = .ok (.i2l, 1) := by decide +kernel
theorem dX1_takeSum_200 : decode cX1_takeSum 200 = .ok (.lmul, 1) := by decide +kernel
theorem dX1_takeSum_201 : decode cX1_takeSum 201 = .ok (.ladd, 1) := by decide +kernel
theorem dX1_takeSum_202 : decode cX1_takeSum 202 = .ok (.lstore 12, 2) := by decide +kernel
theorem dX1_takeSum_204 : decode cX1_takeSum 204 = .ok (.iinc 5 1, 3) := by decide +kernel
theorem dX1_takeSum_207 : decode cX1_takeSum 207 = .ok (.aload_n 0, 1) := by decide +kernel
theorem dX1_takeSum_208 : decode cX1_takeSum 208 = .ok (.lload 10, 2) := by decide +kernel
theorem dX1_takeSum_210 : decode cX1_takeSum 210 = .ok (.lload 12, 2) := by decide +kernel
theorem dX1_takeSum_212 : decode cX1_takeSum 212 = .ok (.invokevirtual 46, 3) := by decide +kernel
theorem dX1_takeSum_215 : decode cX1_takeSum 215 = .ok (.ifCond .ne 5, 3) := by decide +kernel
theorem dX1_takeSum_218 : decode cX1_takeSum 218 = .ok (.iconst 0, 1) := by decide +kernel
theorem dX1_takeSum_219 : decode cX1_takeSum 219 = .ok (.ireturn, 1) := by decide +kernel
theorem dX1_takeSum_220 : decode cX1_takeSum 220 = .ok (.iinc 7 1, 3) := by decide +kernel
theorem dX1_takeSum_223 : decode cX1_takeSum 223 = .ok (.goto (-199), 3) := by decide +kernel
theorem dX1_takeSum_226 : decode cX1_takeSum 226 = .ok (.iconst 1, 1) := by decide +kernel
theorem dX1_takeSum_227 : decode cX1_takeSum 227 = .ok (.ireturn, 1) := by decide +kernel
end
section
theorem dX2_init_0 : decode cX2_init 0 = .ok (.aload_n 0, 1) := by decide +kernel
theorem dX2_init_1 : decode cX2_init 1 = .ok (.invokespecial 1, 3) := by decide +kernel
theorem dX2_init_4 : decode cX2_init 4 = .ok (.new 7, 3) := by decide +kernel
theorem dX2_init_7 : decode cX2_init 7 = .ok (.dup, 1) := by decide +kernel
theorem dX2_init_8 : decode cX2_init 8 = .ok (.iconst 0, 1) := by decide +kernel
theorem dX2_init_9 : decode cX2_init 9 = .ok (.invokespecial 9, 3) := by decide +kernel
theorem dX2_init_12 : decode cX2_init 12 = .ok (.astore_n 1, 1) := by decide +kernel
theorem dX2_init_13 : decode cX2_init 13 = .ok (.aload_n 0, 1) := by decide +kernel
theorem dX2_init_14 : decode cX2_init 14 = .ok (.bipush 16, 2) := by decide +kernel
theorem dX2_init_16 : decode cX2_init 16 = .ok (.anewarray 7, 3) := by decide +kernel
theorem dX2_init_19 : decode cX2_init 19 = .ok (.putfield 14, 3) := by decide +kernel
theorem dX2_init_22 : decode cX2_init 22 = .ok (.iconst 0, 1) := by decide +kernel
theorem dX2_init_23 : decode cX2_init 23 = .ok (.istore_n 2, 1) := by decide +kernel
theorem dX2_init_24 : decode cX2_init 24 = .ok (.iload_n 2, 1) := by decide +kernel
theorem dX2_init_25 : decode cX2_init 25 = .ok (.bipush 16, 2) := by decide +kernel
theorem dX2_init_27 : decode cX2_init 27 = .ok (.if_icmp .ge 16, 3) := by decide +kernel
theorem dX2_init_30 : decode cX2_init 30 = .ok (.aload_n 0, 1) := by decide +kernel
theorem dX2_init_31 : decode cX2_init 31 = .ok (.getfield 14, 3) := by decide +kernel
theorem dX2_init_34 : decode cX2_init 34 = .ok (.iload_n 2, 1) := by decide +kernel
theorem dX2_init_35 : decode cX2_init 35 = .ok (.aload_n 1, 1) := by decide +kernel
theorem dX2_init_36 : decode cX2_init 36 = .ok (.aastore, 1) := by decide +kernel
theorem dX2_init_37 : decode cX2_init 37 = .ok (.iinc 2 1, 3) := by decide +kernel
theorem dX2_init_40 : decode cX2_init 40 = .ok (.goto (-16), 3) := by decide +kernel
theorem dX2_init_43 : decode cX2_init 43 = .ok (.aload_n 0, 1) := by decide +kernel
theorem dX2_init_44 : decode cX2_init 44 = .ok (.bipush 40, 2) := by decide +kernel
theorem dX2_init_46 : decode cX2_init 46 = .ok (.anewarray 7, 3) := by decide +kernel
theorem dX2_init_49 : decode cX2_init 49 = .ok (.putfield 18, 3) := by decide +kernel
theorem dX2_init_52 : decode cX2_init 52 = .ok (.iconst 0, 1) := by decide +kernel
theorem dX2_init_53 : decode cX2_init 53 = .ok (.istore_n 2, 1) := by decide +kernel
theorem dX2_init_54 : decode cX2_init 54 = .ok (.iload_n 2, 1) := by decide +kernel
theorem dX2_init_55 : decode cX2_init 55 = .ok (.bipush 40, 2) := by decide +kernel
theorem dX2_init_57 : decode cX2_init 57 = .ok (.if_icmp .ge 16, 3) := by decide +kernel
theorem dX2_init_60 : decode cX2_init 60 = .ok (.aload_n 0, 1) := by decide +kernel
theorem dX2_init_61 : decode cX2_init 61 = .ok (.getfield 18, 3) := by decide +kernel
theorem dX2_init_64 : decode cX2_init 64 = .ok (.iload_n 2, 1) := by decide +kernel
theorem dX2_init_65 : decode cX2_init 65 = .ok (.aload_n 1, 1) := by decide +kernel
theorem dX2_init_66 : decode cX2_init 66 = .ok (.aastore, 1) := by decide +kernel
theorem dX2_init_67 : decode cX2_init 67 = .ok (.iinc 2 1, 3) := by decide +kernel
theorem dX2_init_70 : decode cX2_init 70 = .ok (.goto (-16), 3) := by decide +kernel
theorem dX2_init_73 : decode cX2_init 73 = .ok (.aload_n 0, 1) := by decide +kernel
theorem dX2_init_74 : decode cX2_init 74 = .ok (.iconst 0, 1) := by decide +kernel
theorem dX2_init_75 : decode cX2_init 75 = .ok (.putfield 21, 3) := by decide +kernel
theorem dX2_init_78 : decode cX2_init 78 = .ok (.aload_n 0, 1) := by decide +kernel
theorem dX2_init_79 : decode cX2_init 79 = .ok (.bipush 20, 2) := by decide +kernel
theorem dX2_init_81 : decode cX2_init 81 = .ok (.newarray .int, 2) := by decide +kernel
theorem dX2_init_83 : decode cX2_init 83 = .ok (.putfield 25, 3) := by decide +kernel
theorem dX2_init_86 : decode cX2_init 86 = .ok (.aload_n 0, 1) := by decide +kernel
theorem dX2_init_87 : decode cX2_init 87 = .ok (.bipush 80, 2) := by decide +kernel
theorem dX2_init_89 : decode cX2_init 89 = .ok (.newarray .int, 2) := by decide +kernel
theorem dX2_init_91 : decode cX2_init 91 = .ok (.putfield 29, 3) := by decide +kernel
theorem dX2_init_94 : decode cX2_init 94 = .ok (.aload_n 0, 1) := by decide +kernel
theorem dX2_init_95 : decode cX2_init 95 = .ok (.iconst 0, 1) := by decide +kernel
theorem dX2_init_96 : decode cX2_init 96 = .ok (.putfield 32, 3) := by decide +kernel
theorem dX2_init_99 : decode cX2_init 99 = .ok (.aload_n 0, 1) := by decide +kernel
theorem dX2_init_100 : decode cX2_init 100 = .ok (.new 35, 3) := by decide +kernel
theorem dX2_init_103 : decode cX2_init 103 = .ok (.dup, 1) := by decide +kernel
theorem dX2_init_104 : decode cX2_init 104 = .ok (.invokespecial 37, 3) := by decide +kernel
theorem dX2_init_107 : decode cX2_init 107 = .ok (.putfield 38, 3) := by decide +kernel
theorem dX2_init_110 : decode cX2_init 110 = .ok (.return_, 1) := by decide +kernel
theorem dX2_constant_0 : decode cX2_constant 0 = .ok (.iload_n 1, 1) := by decide +kernel
theorem dX2_constant_1 : decode cX2_constant 1 = .ok (.invokestatic 42, 3) := by decide +kernel
theorem dX2_constant_4 : decode cX2_constant 4 = .ok (.ifCond .ne 5, 3) := by decide +kernel
theorem dX2_constant_7 : decode cX2_constant 7 = .ok (.iconst (-1), 1) := by decide +kernel
theorem dX2_constant_8 : decode cX2_constant 8 = .ok (.ireturn, 1) := by decide +kernel
theorem dX2_constant_9 : decode cX2_constant 9 = .ok (.iload_n 2, 1) := by decide +kernel
theorem dX2_constant_10 : decode cX2_constant 10 = .ok (.ldc 46, 2) := by decide +kernel
theorem dX2_constant_12 : decode cX2_constant 12 = .ok (.if_icmp .gt 9, 3) := by decide +kernel
theorem dX2_constant_15 : decode cX2_constant 15 = .ok (.iload_n 2, 1) := by decide +kernel
theorem dX2_constant_16 : decode cX2_constant 16 = .ok (.ldc 47, 2) := by decide +kernel
theorem dX2_constant_18 : decode cX2_constant 18 = .ok (.if_icmp .ge 6, 3) := by decide +kernel
theorem dX2_constant_21 : decode cX2_constant 21 = .ok (.bipush (-2), 2) := by decide +kernel
theorem dX2_constant_23 : decode cX2_constant 23 = .ok (.ireturn, 1) := by decide +kernel
theorem dX2_constant_24 : decode cX2_constant 24 = .ok (.aload_n 0, 1) := by decide +kernel
theorem dX2_constant_25 : decode cX2_constant 25 = .ok (.getfield 38, 3) := by decide +kernel
theorem dX2_constant_28 : decode cX2_constant 28 = .ok (.lconst 0, 1) := by decide +kernel
theorem dX2_constant_29 : decode cX2_constant 29 = .ok (.iload_n 2, 1) := by decide +kernel
theorem dX2_constant_30 : decode cX2_constant 30 = .ok (.invokevirtual 48, 3) := by decide +kernel
theorem dX2_constant_33 : decode cX2_constant 33 = .ok (.aload_n 0, 1) := by decide +kernel
theorem dX2_constant_34 : decode cX2_constant 34 = .ok (.iload_n 1, 1) := by decide +kernel
theorem dX2_constant_35 : decode cX2_constant 35 = .ok (.aload_n 0, 1) := by decide +kernel
theorem dX2_constant_36 : decode cX2_constant 36 = .ok (.getfield 38, 3) := by decide +kernel
theorem dX2_constant_39 : decode cX2_constant 39 = .ok (.getfield 52, 3) := by decide +kernel
theorem dX2_constant_42 : decode cX2_constant 42 = .ok (.invokevirtual 56, 3) := by decide +kernel
theorem dX2_constant_45 : decode cX2_constant 45 = .ok (.ireturn, 1) := by decide +kernel
theorem dX2_symbol_0 : decode cX2_symbol 0 = .ok (.iload_n 1, 1) := by decide +kernel
theorem dX2_symbol_1 : decode cX2_symbol 1 = .ok (.invokestatic 42, 3) := by decide +kernel
theorem dX2_symbol_4 : decode cX2_symbol 4 = .ok (.ifCond .eq 10, 3) := by decide +kernel
theorem dX2_symbol_7 : decode cX2_symbol 7 = .ok (.iload_n 2, 1) := by decide +kernel
theorem dX2_symbol_8 : decode cX2_symbol 8 = .ok (.invokestatic 60, 3) := by decide +kernel
theorem dX2_symbol_11 : decode cX2_symbol 11 = .ok (.ifCond .ne 5, 3) := by decide +kernel
theorem dX2_symbol_14 : decode cX2_symbol 14 = .ok (.iconst (-1), 1) := by decide +kernel
theorem dX2_symbol_15 : decode cX2_symbol 15 = .ok (.ireturn, 1) := by decide +kernel
theorem dX2_symbol_16 : decode cX2_symbol 16 = .ok (.aload_n 0, 1) := by decide +kernel
theorem dX2_symbol_17 : decode cX2_symbol 17 = .ok (.getfield 38, 3) := by decide +kernel
theorem dX2_symbol_20 : decode cX2_symbol 20 = .ok (.iload_n 2, 1) := by decide +kernel
theorem dX2_symbol_21 : decode cX2_symbol 21 = .ok (.invokestatic 63, 3) := by decide +kernel
theorem dX2_symbol_24 : decode cX2_symbol 24 = .ok (.iconst 1, 1) := by decide +kernel
theorem dX2_symbol_25 : decode cX2_symbol 25 = .ok (.invokevirtual 48, 3) := by decide +kernel
theorem dX2_symbol_28 : decode cX2_symbol 28 = .ok (.aload_n 0, 1) := by decide +kernel
theorem dX2_symbol_29 : decode cX2_symbol 29 = .ok (.iload_n 1, 1) := by decide +kernel
theorem dX2_symbol_30 : decode cX2_symbol 30 = .ok (.aload_n 0, 1) := by decide +kernel
theorem dX2_symbol_31 : decode cX2_symbol 31 = .ok (.getfield 38, 3) := by decide +kernel
theorem dX2_symbol_34 : decode cX2_symbol 34 = .ok (.getfield 52, 3) := by decide +kernel
theorem dX2_symbol_37 : decode cX2_symbol 37 = .ok (.invokevirtual 56, 3) := by decide +kernel
theorem dX2_symbol_40 : decode cX2_symbol 40 = .ok (.ireturn, 1) := by decide +kernel
theorem dX2_plus_0 : decode cX2_plus 0 = .ok (.aload_n 0, 1) := by decide +kernel
theorem dX2_plus_1 : decode cX2_plus 1 = .ok (.iload_n 1, 1) := by decide +kernel
theorem dX2_plus_2 : decode cX2_plus 2 = .ok (.iload_n 2, 1) := by decide +kernel
theorem dX2_plus_3 : decode cX2_plus 3 = .ok (.iload_n 3, 1) := by decide +kernel
theorem dX2_plus_4 : decode cX2_plus 4 = .ok (.iconst 1, 1) := by decide +kernel
theorem dX2_plus_5 : decode cX2_plus 5 = .ok (.invokevirtual 67, 3) := by decide +kernel
theorem dX2_plus_8 : decode cX2_plus 8 = .ok (.ireturn, 1) := by decide +kernel
theorem dX2_minus_0 : decode cX2_minus 0 = .ok (.aload_n 0, 1) := by decide +kernel
theorem dX2_minus_1 : decode cX2_minus 1 = .ok (.iload_n 1, 1) := by decide +kernel
theorem dX2_minus_2 : decode cX2_minus 2 = .ok (.iload_n 2, 1) := by decide +kernel
theorem dX2_minus_3 : decode cX2_minus 3 = .ok (.iload_n 3, 1) := by decide +kernel
theorem dX2_minus_4 : decode cX2_minus 4 = .ok (.iconst (-1), 1) := by decide +kernel
theorem dX2_minus_5 : decode cX2_minus 5 = .ok (.invokevirtual 67, 3) := by decide +kernel
theorem dX2_minus_8 : decode cX2_minus 8 = .ok (.ireturn, 1) := by decide +kernel
theorem dX2_times_0 : decode cX2_times 0 = .ok (.iload_n 1, 1) := by decide +kernel
theorem dX2_times_1 : decode cX2_times 1 = .ok (.invokestatic 42, 3) := by decide +kernel
theorem dX2_times_4 : decode cX2_times 4 = .ok (.ifCond .eq 17, 3) := by decide +kernel
theorem dX2_times_7 : decode cX2_times 7 = .ok (.iload_n 2, 1) := by decide +kernel
theorem dX2_times_8 : decode cX2_times 8 = .ok (.invokestatic 42, 3) := by decide +kernel
theorem dX2_times_11 : decode cX2_times 11 = .ok (.ifCond .eq 10, 3) := by decide +kernel
theorem dX2_times_14 : decode cX2_times 14 = .ok (.iload_n 3, 1) := by decide +kernel
theorem dX2_times_15 : decode cX2_times 15 = .ok (.invokestatic 42, 3) := by decide +kernel
theorem dX2_times_18 : decode cX2_times 18 = .ok (.ifCond .ne 5, 3) := by decide +kernel
theorem dX2_times_21 : decode cX2_times 21 = .ok (.iconst (-1), 1) := by decide +kernel
theorem dX2_times_22 : decode cX2_times 22 = .ok (.ireturn, 1) := by decide +kernel
theorem dX2_times_23 : decode cX2_times 23 = .ok (.aload_n 0, 1) := by decide +kernel
theorem dX2_times_24 : decode cX2_times 24 = .ok (.getfield 38, 3) := by decide +kernel
theorem dX2_times_27 : decode cX2_times 27 = .ok (.aload_n 0, 1) := by decide +kernel
theorem dX2_times_28 : decode cX2_times 28 = .ok (.getfield 14, 3) := by decide +kernel
theorem dX2_times_31 : decode cX2_times 31 = .ok (.iload_n 2, 1) := by decide +kernel
theorem dX2_times_32 : decode cX2_times 32 = .ok (.aaload, 1) := by decide +kernel
theorem dX2_times_33 : decode cX2_times 33 = .ok (.aload_n 0, 1) := by decide +kernel
theorem dX2_times_34 : decode cX2_times 34 = .ok (.getfield 14, 3) := by decide +kernel
theorem dX2_times_37 : decode cX2_times 37 = .ok (.iload_n 3, 1) := by decide +kernel
theorem dX2_times_38 : decode cX2_times 38 = .ok (.aaload, 1) := by decide +kernel
theorem dX2_times_39 : decode cX2_times 39 = .ok (.invokevirtual 71, 3) := by decide +kernel
theorem dX2_times_42 : decode cX2_times 42 = .ok (.ifCond .ne 6, 3) := by decide +kernel
theorem dX2_times_45 : decode cX2_times 45 = .ok (.bipush (-2), 2) := by decide +kernel
theorem dX2_times_47 : decode cX2_times 47 = .ok (.ireturn, 1) := by decide +kernel
theorem dX2_times_48 : decode cX2_times 48 = .ok (.aload_n 0, 1) := by decide +kernel
theorem dX2_times_49 : decode cX2_times 49 = .ok (.iload_n 1, 1) := by decide +kernel
theorem dX2_times_50 : decode cX2_times 50 = .ok (.aload_n 0, 1) := by decide +kernel
theorem dX2_times_51 : decode cX2_times 51 = .ok (.getfield 38, 3) := by decide +kernel
theorem dX2_times_54 : decode cX2_times 54 = .ok (.getfield 52, 3) := by decide +kernel
theorem dX2_times_57 : decode cX2_times 57 = .ok (.invokevirtual 56, 3) := by decide +kernel
theorem dX2_times_60 : decode cX2_times 60 = .ok (.ireturn, 1) := by decide +kernel
theorem dX2_put_0 : decode cX2_put 0 = .ok (.iload_n 1, 1) := by decide +kernel
theorem dX2_put_1 : decode cX2_put 1 = .ok (.invokestatic 42, 3) := by decide +kernel
theorem dX2_put_4 : decode cX2_put 4 = .ok (.ifCond .eq 10, 3) := by decide +kernel
theorem dX2_put_7 : decode cX2_put 7 = .ok (.iload_n 2, 1) := by decide +kernel
theorem dX2_put_8 : decode cX2_put 8 = .ok (.invokestatic 42, 3) := by decide +kernel
theorem dX2_put_11 : decode cX2_put 11 = .ok (.ifCond .ne 5, 3) := by decide +kernel
theorem dX2_put_14 : decode cX2_put 14 = .ok (.iconst (-1), 1) := by decide +kernel
theorem dX2_put_15 : decode cX2_put 15 = .ok (.ireturn, 1) := by decide +kernel
theorem dX2_put_16 : decode cX2_put 16 = .ok (.aload_n 0, 1) := by decide +kernel
theorem dX2_put_17 : decode cX2_put 17 = .ok (.getfield 14, 3) := by decide +kernel
theorem dX2_put_20 : decode cX2_put 20 = .ok (.iload_n 2, 1) := by decide +kernel
theorem dX2_put_21 : decode cX2_put 21 = .ok (.aaload, 1) := by decide +kernel
theorem dX2_put_22 : decode cX2_put 22 = .ok (.astore_n 3, 1) := by decide +kernel
theorem dX2_put_23 : decode cX2_put 23 = .ok (.aload_n 0, 1) := by decide +kernel
theorem dX2_put_24 : decode cX2_put 24 = .ok (.getfield 38, 3) := by decide +kernel
theorem dX2_put_27 : decode cX2_put 27 = .ok (.invokevirtual 75, 3) := by decide +kernel
theorem dX2_put_30 : decode cX2_put 30 = .ok (.iconst 0, 1) := by decide +kernel
theorem dX2_put_31 : decode cX2_put 31 = .ok (.istore 4, 2) := by decide +kernel
theorem dX2_put_33 : decode cX2_put 33 = .ok (.iload 4, 2) := by decide +kernel
theorem dX2_put_35 : decode cX2_put 35 = .ok (.aload_n 3, 1) := by decide +kernel
theorem dX2_put_36 : decode cX2_put 36 = .ok (.getfield 78, 3) := by decide +kernel
theorem dX2_put_39 : decode cX2_put 39 = .ok (.if_icmp .ge 32, 3) := by decide +kernel
theorem dX2_put_42 : decode cX2_put 42 = .ok (.aload_n 0, 1) := by decide +kernel
theorem dX2_put_43 : decode cX2_put 43 = .ok (.aload_n 3, 1) := by decide +kernel
theorem dX2_put_44 : decode cX2_put 44 = .ok (.iload 4, 2) := by decide +kernel
theorem dX2_put_46 : decode cX2_put 46 = .ok (.invokevirtual 81, 3) := by decide +kernel
theorem dX2_put_49 : decode cX2_put 49 = .ok (.ifCond .eq 13, 3) := by decide +kernel
theorem dX2_put_52 : decode cX2_put 52 = .ok (.aload_n 0, 1) := by decide +kernel
theorem dX2_put_53 : decode cX2_put 53 = .ok (.getfield 38, 3) := by decide +kernel
theorem dX2_put_56 : decode cX2_put 56 = .ok (.invokevirtual 85, 3) := by decide +kernel
theorem dX2_put_59 : decode cX2_put 59 = .ok (.ifCond .ne 6, 3) := by decide +kernel
theorem dX2_put_62 : decode cX2_put 62 = .ok (.bipush (-2), 2) := by decide +kernel
theorem dX2_put_64 : decode cX2_put 64 = .ok (.ireturn, 1) := by decide +kernel
theorem dX2_put_65 : decode cX2_put 65 = .ok (.iinc 4 1, 3) := by decide +kernel
theorem dX2_put_68 : decode cX2_put 68 = .ok (.goto (-35), 3) := by decide +kernel
theorem dX2_put_71 : decode cX2_put 71 = .ok (.aload_n 0, 1) := by decide +kernel
theorem dX2_put_72 : decode cX2_put 72 = .ok (.iload_n 1, 1) := by decide +kernel
theorem dX2_put_73 : decode cX2_put 73 = .ok (.aload_n 0, 1) := by decide +kernel
theorem dX2_put_74 : decode cX2_put 74 = .ok (.getfield 38, 3) := by decide +kernel
theorem dX2_put_77 : decode cX2_put 77 = .ok (.getfield 89, 3) := by decide +kernel
theorem dX2_put_80 : decode cX2_put 80 = .ok (.invokevirtual 56, 3) := by decide +kernel
theorem dX2_put_83 : decode cX2_put 83 = .ok (.ireturn, 1) := by decide +kernel
theorem dX2_size_0 : decode cX2_size 0 = .ok (.iload_n 1, 1) := by decide +kernel
theorem dX2_size_1 : decode cX2_size 1 = .ok (.invokestatic 42, 3) := by decide +kernel
theorem dX2_size_4 : decode cX2_size 4 = .ok (.ifCond .eq 15, 3) := by decide +kernel
theorem dX2_size_7 : decode cX2_size 7 = .ok (.aload_n 0, 1) := by decide +kernel
theorem dX2_size_8 : decode cX2_size 8 = .ok (.getfield 14, 3) := by decide +kernel
theorem dX2_size_11 : decode cX2_size 11 = .ok (.iload_n 1, 1) := by decide +kernel
theorem dX2_size_12 : decode cX2_size 12 = .ok (.aaload, 1) := by decide +kernel
theorem dX2_size_13 : decode cX2_size 13 = .ok (.getfield 78, 3) := by decide +kernel
theorem dX2_size_16 : decode cX2_size 16 = .ok (.goto 4, 3) := by decide +kernel
theorem dX2_size_19 : decode cX2_size 19 = .ok (.iconst (-1), 1) := by decide +kernel
theorem dX2_size_20 : decode cX2_size 20 = .ok (.ireturn, 1) := by decide +kernel
theorem dX2_term_0 : decode cX2_term 0 = .ok (.iload_n 1, 1) := by decide +kernel
theorem dX2_term_1 : decode cX2_term 1 = .ok (.invokestatic 42, 3) := by decide +kernel
theorem dX2_term_4 : decode cX2_term 4 = .ok (.ifCond .ne 5, 3) := by decide +kernel
theorem dX2_term_7 : decode cX2_term 7 = .ok (.iconst 0, 1) := by decide +kernel
theorem dX2_term_8 : decode cX2_term 8 = .ok (.ireturn, 1) := by decide +kernel
theorem dX2_term_9 : decode cX2_term 9 = .ok (.iload_n 3, 1) := by decide +kernel
theorem dX2_term_10 : decode cX2_term 10 = .ok (.iconst (-1), 1) := by decide +kernel
theorem dX2_term_11 : decode cX2_term 11 = .ok (.if_icmp .ne 14, 3) := by decide +kernel
theorem dX2_term_14 : decode cX2_term 14 = .ok (.aload_n 0, 1) := by decide +kernel
theorem dX2_term_15 : decode cX2_term 15 = .ok (.getfield 14, 3) := by decide +kernel
theorem dX2_term_18 : decode cX2_term 18 = .ok (.iload_n 1, 1) := by decide +kernel
theorem dX2_term_19 : decode cX2_term 19 = .ok (.aaload, 1) := by decide +kernel
theorem dX2_term_20 : decode cX2_term 20 = .ok (.iload_n 2, 1) := by decide +kernel
theorem dX2_term_21 : decode cX2_term 21 = .ok (.invokevirtual 92, 3) := by decide +kernel
theorem dX2_term_24 : decode cX2_term 24 = .ok (.ireturn, 1) := by decide +kernel
theorem dX2_term_25 : decode cX2_term 25 = .ok (.aload_n 0, 1) := by decide +kernel
theorem dX2_term_26 : decode cX2_term 26 = .ok (.getfield 14, 3) := by decide +kernel
theorem dX2_term_29 : decode cX2_term 29 = .ok (.iload_n 1, 1) := by decide +kernel
theorem dX2_term_30 : decode cX2_term 30 = .ok (.aaload, 1) := by decide +kernel
theorem dX2_term_31 : decode cX2_term 31 = .ok (.iload_n 2, 1) := by decide +kernel
theorem dX2_term_32 : decode cX2_term 32 = .ok (.iload_n 3, 1) := by decide +kernel
theorem dX2_term_33 : decode cX2_term 33 = .ok (.invokevirtual 96, 3) := by decide +kernel
theorem dX2_term_36 : decode cX2_term 36 = .ok (.ireturn, 1) := by decide +kernel
theorem dX2_same_0 : decode cX2_same 0 = .ok (.iload_n 1, 1) := by decide +kernel
theorem dX2_same_1 : decode cX2_same 1 = .ok (.invokestatic 42, 3) := by decide +kernel
theorem dX2_same_4 : decode cX2_same 4 = .ok (.ifCond .eq 10, 3) := by decide +kernel
theorem dX2_same_7 : decode cX2_same 7 = .ok (.iload_n 2, 1) := by decide +kernel
theorem dX2_same_8 : decode cX2_same 8 = .ok (.invokestatic 42, 3) := by decide +kernel
theorem dX2_same_11 : decode cX2_same 11 = .ok (.ifCond .ne 5, 3) := by decide +kernel
theorem dX2_same_14 : decode cX2_same 14 = .ok (.iconst (-1), 1) := by decide +kernel
theorem dX2_same_15 : decode cX2_same 15 = .ok (.ireturn, 1) := by decide +kernel
theorem dX2_same_16 : decode cX2_same 16 = .ok (.aload_n 0, 1) := by decide +kernel
theorem dX2_same_17 : decode cX2_same 17 = .ok (.getfield 14, 3) := by decide +kernel
theorem dX2_same_20 : decode cX2_same 20 = .ok (.iload_n 1, 1) := by decide +kernel
theorem dX2_same_21 : decode cX2_same 21 = .ok (.aaload, 1) := by decide +kernel
theorem dX2_same_22 : decode cX2_same 22 = .ok (.aload_n 0, 1) := by decide +kernel
theorem dX2_same_23 : decode cX2_same 23 = .ok (.getfield 14, 3) := by decide +kernel
theorem dX2_same_26 : decode cX2_same 26 = .ok (.iload_n 2, 1) := by decide +kernel
theorem dX2_same_27 : decode cX2_same 27 = .ok (.aaload, 1) := by decide +kernel
theorem dX2_same_28 : decode cX2_same 28 = .ok (.invokevirtual 100, 3) := by decide +kernel
theorem dX2_same_31 : decode cX2_same 31 = .ok (.ifCond .eq 7, 3) := by decide +kernel
theorem dX2_same_34 : decode cX2_same 34 = .ok (.iconst 1, 1) := by decide +kernel
theorem dX2_same_35 : decode cX2_same 35 = .ok (.goto 4, 3) := by decide +kernel
theorem dX2_same_38 : decode cX2_same 38 = .ok (.iconst 0, 1) := by decide +kernel
theorem dX2_same_39 : decode cX2_same 39 = .ok (.ireturn, 1) := by decide +kernel
theorem dX2_value_0 : decode cX2_value 0 = .ok (.iload_n 1, 1) := by decide +kernel
theorem dX2_value_1 : decode cX2_value 1 = .ok (.invokestatic 42, 3) := by decide +kernel
theorem dX2_value_4 : decode cX2_value 4 = .ok (.ifCond .eq 16, 3) := by decide +kernel
theorem dX2_value_7 : decode cX2_value 7 = .ok (.aload_n 0, 1) := by decide +kernel
theorem dX2_value_8 : decode cX2_value 8 = .ok (.getfield 14, 3) := by decide +kernel
theorem dX2_value_11 : decode cX2_value 11 = .ok (.iload_n 1, 1) := by decide +kernel
theorem dX2_value_12 : decode cX2_value 12 = .ok (.aaload, 1) := by decide +kernel
theorem dX2_value_13 : decode cX2_value 13 = .ok (.iload_n 2, 1) := by decide +kernel
theorem dX2_value_14 : decode cX2_value 14 = .ok (.invokevirtual 104, 3) := by decide +kernel
theorem dX2_value_17 : decode cX2_value 17 = .ok (.goto 4, 3) := by decide +kernel
theorem dX2_value_20 : decode cX2_value 20 = .ok (.lconst 0, 1) := by decide +kernel
theorem dX2_value_21 : decode cX2_value 21 = .ok (.lreturn, 1) := by decide +kernel
theorem dX2_hypothesis_0 : decode cX2_hypothesis 0 = .ok (.iload_n 1, 1) := by decide +kernel
theorem dX2_hypothesis_1 : decode cX2_hypothesis 1 = .ok (.invokestatic 42, 3) := by decide +kernel
theorem dX2_hypothesis_4 : decode cX2_hypothesis 4 = .ok (.ifCond .eq 12, 3) := by decide +kernel
theorem dX2_hypothesis_7 : decode cX2_hypothesis 7 = .ok (.aload_n 0, 1) := by decide +kernel
theorem dX2_hypothesis_8 : decode cX2_hypothesis 8 = .ok (.getfield 21, 3) := by decide +kernel
theorem dX2_hypothesis_11 : decode cX2_hypothesis 11 = .ok (.bipush 40, 2) := by decide +kernel
theorem dX2_hypothesis_13 : decode cX2_hypothesis 13 = .ok (.if_icmp .lt 5, 3) := by decide +kernel
theorem dX2_hypothesis_16 : decode cX2_hypothesis 16 = .ok (.iconst (-1), 1) := by decide +kernel
theorem dX2_hypothesis_17 : decode cX2_hypothesis 17 = .ok (.ireturn, 1) := by decide +kernel
theorem dX2_hypothesis_18 : decode cX2_hypothesis 18 = .ok (.aload_n 0, 1) := by decide +kernel
theorem dX2_hypothesis_19 : decode cX2_hypothesis 19 = .ok (.getfield 18, 3) := by decide +kernel
theorem dX2_hypothesis_22 : decode cX2_hypothesis 22 = .ok (.aload_n 0, 1) := by decide +kernel
theorem dX2_hypothesis_23 : decode cX2_hypothesis 23 = .ok (.getfield 21, 3) := by decide +kernel
theorem dX2_hypothesis_26 : decode cX2_hypothesis 26 = .ok (.aload_n 0, 1) := by decide +kernel
theorem dX2_hypothesis_27 : decode cX2_hypothesis 27 = .ok (.getfield 14, 3) := by decide +kernel
theorem dX2_hypothesis_30 : decode cX2_hypothesis 30 = .ok (.iload_n 1, 1) := by decide +kernel
theorem dX2_hypothesis_31 : decode cX2_hypothesis 31 = .ok (.aaload, 1) := by decide +kernel
theorem dX2_hypothesis_32 : decode cX2_hypothesis 32 = .ok (.aastore, 1) := by decide +kernel
theorem dX2_hypothesis_33 : decode cX2_hypothesis 33 = .ok (.aload_n 0, 1) := by decide +kernel
theorem dX2_hypothesis_34 : decode cX2_hypothesis 34 = .ok (.dup, 1) := by decide +kernel
theorem dX2_hypothesis_35 : decode cX2_hypothesis 35 = .ok (.getfield 21, 3) := by decide +kernel
theorem dX2_hypothesis_38 : decode cX2_hypothesis 38 = .ok (.iconst 1, 1) := by decide +kernel
theorem dX2_hypothesis_39 : decode cX2_hypothesis 39 = .ok (.iadd, 1) := by decide +kernel
theorem dX2_hypothesis_40 : decode cX2_hypothesis 40 = .ok (.putfield 21, 3) := by decide +kernel
theorem dX2_hypothesis_43 : decode cX2_hypothesis 43 = .ok (.aload_n 0, 1) := by decide +kernel
theorem dX2_hypothesis_44 : decode cX2_hypothesis 44 = .ok (.getfield 21, 3) := by decide +kernel
theorem dX2_hypothesis_47 : decode cX2_hypothesis 47 = .ok (.iconst 1, 1) := by decide +kernel
theorem dX2_hypothesis_48 : decode cX2_hypothesis 48 = .ok (.isub, 1) := by decide +kernel
theorem dX2_hypothesis_49 : decode cX2_hypothesis 49 = .ok (.ireturn, 1) := by decide +kernel
theorem dX2_keep_0 : decode cX2_keep 0 = .ok (.iload_n 1, 1) := by decide +kernel
theorem dX2_keep_1 : decode cX2_keep 1 = .ok (.ifCond .lt 11, 3) := by decide +kernel
theorem dX2_keep_4 : decode cX2_keep 4 = .ok (.iload_n 1, 1) := by decide +kernel
theorem dX2_keep_5 : decode cX2_keep 5 = .ok (.aload_n 0, 1) := by decide +kernel
theorem dX2_keep_6 : decode cX2_keep 6 = .ok (.getfield 21, 3) := by decide +kernel
theorem dX2_keep_9 : decode cX2_keep 9 = .ok (.if_icmp .le 5, 3) := by decide +kernel
theorem dX2_keep_12 : decode cX2_keep 12 = .ok (.iconst (-1), 1) := by decide +kernel
theorem dX2_keep_13 : decode cX2_keep 13 = .ok (.ireturn, 1) := by decide +kernel
theorem dX2_keep_14 : decode cX2_keep 14 = .ok (.aload_n 0, 1) := by decide +kernel
theorem dX2_keep_15 : decode cX2_keep 15 = .ok (.iload_n 1, 1) := by decide +kernel
theorem dX2_keep_16 : decode cX2_keep 16 = .ok (.putfield 21, 3) := by decide +kernel
theorem dX2_keep_19 : decode cX2_keep 19 = .ok (.iload_n 1, 1) := by decide +kernel
theorem dX2_keep_20 : decode cX2_keep 20 = .ok (.ireturn, 1) := by decide +kernel
theorem dX2_part_0 : decode cX2_part 0 = .ok (.iload_n 1, 1) := by decide +kernel
theorem dX2_part_1 : decode cX2_part 1 = .ok (.ifCond .lt 18, 3) := by decide +kernel
theorem dX2_part_4 : decode cX2_part 4 = .ok (.iload_n 1, 1) := by decide +kernel
theorem dX2_part_5 : decode cX2_part 5 = .ok (.ldc 46, 2) := by decide +kernel
theorem dX2_part_7 : decode cX2_part 7 = .ok (.if_icmp .gt 12, 3) := by decide +kernel
theorem dX2_part_10 : decode cX2_part 10 = .ok (.aload_n 0, 1) := by decide +kernel
theorem dX2_part_11 : decode cX2_part 11 = .ok (.getfield 32, 3) := by decide +kernel
theorem dX2_part_14 : decode cX2_part 14 = .ok (.bipush 20, 2) := by decide +kernel
theorem dX2_part_16 : decode cX2_part 16 = .ok (.if_icmp .lt 5, 3) := by decide +kernel
theorem dX2_part_19 : decode cX2_part 19 = .ok (.iconst (-1), 1) := by decide +kernel
theorem dX2_part_20 : decode cX2_part 20 = .ok (.ireturn, 1) := by decide +kernel
theorem dX2_part_21 : decode cX2_part 21 = .ok (.iload_n 2, 1) := by decide +kernel
theorem dX2_part_22 : decode cX2_part 22 = .ok (.iconst (-1), 1) := by decide +kernel
theorem dX2_part_23 : decode cX2_part 23 = .ok (.if_icmp .lt 20, 3) := by decide +kernel
theorem dX2_part_26 : decode cX2_part 26 = .ok (.iload_n 3, 1) := by decide +kernel
theorem dX2_part_27 : decode cX2_part 27 = .ok (.iconst (-1), 1) := by decide +kernel
theorem dX2_part_28 : decode cX2_part 28 = .ok (.if_icmp .lt 15, 3) := by decide +kernel
theorem dX2_part_31 : decode cX2_part 31 = .ok (.iload 4, 2) := by decide +kernel
theorem dX2_part_33 : decode cX2_part 33 = .ok (.iconst (-1), 1) := by decide +kernel
theorem dX2_part_34 : decode cX2_part 34 = .ok (.if_icmp .lt 9, 3) := by decide +kernel
theorem dX2_part_37 : decode cX2_part 37 = .ok (.iload 5, 2) := by decide +kernel
theorem dX2_part_39 : decode cX2_part 39 = .ok (.iconst (-1), 1) := by decide +kernel
theorem dX2_part_40 : decode cX2_part 40 = .ok (.if_icmp .ge 5, 3) := by decide +kernel
theorem dX2_part_43 : decode cX2_part 43 = .ok (.iconst (-1), 1) := by decide +kernel
theorem dX2_part_44 : decode cX2_part 44 = .ok (.ireturn, 1) := by decide +kernel
theorem dX2_part_45 : decode cX2_part 45 = .ok (.aload_n 0, 1) := by decide +kernel
theorem dX2_part_46 : decode cX2_part 46 = .ok (.getfield 32, 3) := by decide +kernel
theorem dX2_part_49 : decode cX2_part 49 = .ok (.iconst 4, 1) := by decide +kernel
theorem dX2_part_50 : decode cX2_part 50 = .ok (.imul, 1) := by decide +kernel
theorem dX2_part_51 : decode cX2_part 51 = .ok (.istore 6, 2) := by decide +kernel
theorem dX2_part_53 : decode cX2_part 53 = .ok (.aload_n 0, 1) := by decide +kernel
theorem dX2_part_54 : decode cX2_part 54 = .ok (.getfield 29, 3) := by decide +kernel
theorem dX2_part_57 : decode cX2_part 57 = .ok (.iload 6, 2) := by decide +kernel
theorem dX2_part_59 : decode cX2_part 59 = .ok (.iload_n 2, 1) := by decide +kernel
theorem dX2_part_60 : decode cX2_part 60 = .ok (.iastore, 1) := by decide +kernel
theorem dX2_part_61 : decode cX2_part 61 = .ok (.aload_n 0, 1) := by decide +kernel
theorem dX2_part_62 : decode cX2_part 62 = .ok (.getfield 29, 3) := by decide +kernel
theorem dX2_part_65 : decode cX2_part 65 = .ok (.iload 6, 2) := by decide +kernel
theorem dX2_part_67 : decode cX2_part 67 = .ok (.iconst 1, 1) := by decide +kernel
theorem dX2_part_68 : decode cX2_part 68 = .ok (.iadd, 1) := by decide +kernel
theorem dX2_part_69 : decode cX2_part 69 = .ok (.iload_n 3, 1) := by decide +kernel
theorem dX2_part_70 : decode cX2_part 70 = .ok (.iastore, 1) := by decide +kernel
theorem dX2_part_71 : decode cX2_part 71 = .ok (.aload_n 0, 1) := by decide +kernel
theorem dX2_part_72 : decode cX2_part 72 = .ok (.getfield 29, 3) := by decide +kernel
theorem dX2_part_75 : decode cX2_part 75 = .ok (.iload 6, 2) := by decide +kernel
theorem dX2_part_77 : decode cX2_part 77 = .ok (.iconst 2, 1) := by decide +kernel
theorem dX2_part_78 : decode cX2_part 78 = .ok (.iadd, 1) := by decide +kernel
theorem dX2_part_79 : decode cX2_part 79 = .ok (.iload 4, 2) := by decide +kernel
theorem dX2_part_81 : decode cX2_part 81 = .ok (.iastore, 1) := by decide +kernel
theorem dX2_part_82 : decode cX2_part 82 = .ok (.aload_n 0, 1) := by decide +kernel
theorem dX2_part_83 : decode cX2_part 83 = .ok (.getfield 29, 3) := by decide +kernel
theorem dX2_part_86 : decode cX2_part 86 = .ok (.iload 6, 2) := by decide +kernel
theorem dX2_part_88 : decode cX2_part 88 = .ok (.iconst 3, 1) := by decide +kernel
theorem dX2_part_89 : decode cX2_part 89 = .ok (.iadd, 1) := by decide +kernel
theorem dX2_part_90 : decode cX2_part 90 = .ok (.iload 5, 2) := by decide +kernel
theorem dX2_part_92 : decode cX2_part 92 = .ok (.iastore, 1) := by decide +kernel
theorem dX2_part_93 : decode cX2_part 93 = .ok (.aload_n 0, 1) := by decide +kernel
theorem dX2_part_94 : decode cX2_part 94 = .ok (.getfield 25, 3) := by decide +kernel
theorem dX2_part_97 : decode cX2_part 97 = .ok (.aload_n 0, 1) := by decide +kernel
theorem dX2_part_98 : decode cX2_part 98 = .ok (.getfield 32, 3) := by decide +kernel
theorem dX2_part_101 : decode cX2_part 101 = .ok (.iload_n 1, 1) := by decide +kernel
theorem dX2_part_102 : decode cX2_part 102 = .ok (.iastore, 1) := by decide +kernel
theorem dX2_part_103 : decode cX2_part 103 = .ok (.aload_n 0, 1) := by decide +kernel
theorem dX2_part_104 : decode cX2_part 104 = .ok (.dup, 1) := by decide +kernel
theorem dX2_part_105 : decode cX2_part 105 = .ok (.getfield 32, 3) := by decide +kernel
theorem dX2_part_108 : decode cX2_part 108 = .ok (.iconst 1, 1) := by decide +kernel
theorem dX2_part_109 : decode cX2_part 109 = .ok (.iadd, 1) := by decide +kernel
theorem dX2_part_110 : decode cX2_part 110 = .ok (.putfield 32, 3) := by decide +kernel
theorem dX2_part_113 : decode cX2_part 113 = .ok (.aload_n 0, 1) := by decide +kernel
theorem dX2_part_114 : decode cX2_part 114 = .ok (.getfield 32, 3) := by decide +kernel
theorem dX2_part_117 : decode cX2_part 117 = .ok (.ireturn, 1) := by decide +kernel
theorem dX2_show_0 : decode cX2_show 0 = .ok (.iload_n 1, 1) := by decide +kernel
theorem dX2_show_1 : decode cX2_show 1 = .ok (.invokestatic 42, 3) := by decide +kernel
theorem dX2_show_4 : decode cX2_show 4 = .ok (.ifCond .eq 14, 3) := by decide +kernel
theorem dX2_show_7 : decode cX2_show 7 = .ok (.iload_n 2, 1) := by decide +kernel
theorem dX2_show_8 : decode cX2_show 8 = .ok (.iconst 1, 1) := by decide +kernel
theorem dX2_show_9 : decode cX2_show 9 = .ok (.if_icmp .lt 9, 3) := by decide +kernel
theorem dX2_show_12 : decode cX2_show 12 = .ok (.iload_n 2, 1) := by decide +kernel
theorem dX2_show_13 : decode cX2_show 13 = .ok (.ldc 46, 2) := by decide +kernel
theorem dX2_show_15 : decode cX2_show 15 = .ok (.if_icmp .le 5, 3) := by decide +kernel
theorem dX2_show_18 : decode cX2_show 18 = .ok (.iconst (-1), 1) := by decide +kernel
theorem dX2_show_19 : decode cX2_show 19 = .ok (.ireturn, 1) := by decide +kernel
theorem dX2_show_20 : decode cX2_show 20 = .ok (.aload_n 0, 1) := by decide +kernel
theorem dX2_show_21 : decode cX2_show 21 = .ok (.aload_n 0, 1) := by decide +kernel
theorem dX2_show_22 : decode cX2_show 22 = .ok (.getfield 14, 3) := by decide +kernel
theorem dX2_show_25 : decode cX2_show 25 = .ok (.iload_n 1, 1) := by decide +kernel
theorem dX2_show_26 : decode cX2_show 26 = .ok (.aaload, 1) := by decide +kernel
theorem dX2_show_27 : decode cX2_show 27 = .ok (.iload_n 2, 1) := by decide +kernel
theorem dX2_show_28 : decode cX2_show 28 = .ok (.invokevirtual 107, 3) := by decide +kernel
theorem dX2_show_31 : decode cX2_show 31 = .ok (.istore_n 3, 1) := by decide +kernel
theorem dX2_show_32 : decode cX2_show 32 = .ok (.aload_n 0, 1) := by decide +kernel
theorem dX2_show_33 : decode cX2_show 33 = .ok (.iconst 0, 1) := by decide +kernel
theorem dX2_show_34 : decode cX2_show 34 = .ok (.putfield 32, 3) := by decide +kernel
theorem dX2_show_37 : decode cX2_show 37 = .ok (.iload_n 3, 1) := by decide +kernel
theorem dX2_show_38 : decode cX2_show 38 = .ok (.ireturn, 1) := by decide +kernel
theorem dX2_count_0 : decode cX2_count 0 = .ok (.iload_n 1, 1) := by decide +kernel
theorem dX2_count_1 : decode cX2_count 1 = .ok (.ifCond .ne 8, 3) := by decide +kernel
theorem dX2_count_4 : decode cX2_count 4 = .ok (.aload_n 0, 1) := by decide +kernel
theorem dX2_count_5 : decode cX2_count 5 = .ok (.getfield 21, 3) := by decide +kernel
theorem dX2_count_8 : decode cX2_count 8 = .ok (.ireturn, 1) := by decide +kernel
theorem dX2_count_9 : decode cX2_count 9 = .ok (.iload_n 1, 1) := by decide +kernel
theorem dX2_count_10 : decode cX2_count 10 = .ok (.iconst 1, 1) := by decide +kernel
theorem dX2_count_11 : decode cX2_count 11 = .ok (.if_icmp .ne 10, 3) := by decide +kernel
theorem dX2_count_14 : decode cX2_count 14 = .ok (.aload_n 0, 1) := by decide +kernel
theorem dX2_count_15 : decode cX2_count 15 = .ok (.getfield 32, 3) := by decide +kernel
theorem dX2_count_18 : decode cX2_count 18 = .ok (.goto 4, 3) := by decide +kernel
theorem dX2_count_21 : decode cX2_count 21 = .ok (.iconst (-1), 1) := by decide +kernel
theorem dX2_count_22 : decode cX2_count 22 = .ok (.ireturn, 1) := by decide +kernel
theorem dX2_isRegister_0 : decode cX2_isRegister 0 = .ok (.iload_n 0, 1) := by decide +kernel
theorem dX2_isRegister_1 : decode cX2_isRegister 1 = .ok (.ifCond .lt 13, 3) := by decide +kernel
theorem dX2_isRegister_4 : decode cX2_isRegister 4 = .ok (.iload_n 0, 1) := by decide +kernel
theorem dX2_isRegister_5 : decode cX2_isRegister 5 = .ok (.bipush 16, 2) := by decide +kernel
theorem dX2_isRegister_7 : decode cX2_isRegister 7 = .ok (.if_icmp .ge 7, 3) := by decide +kernel
theorem dX2_isRegister_10 : decode cX2_isRegister 10 = .ok (.iconst 1, 1) := by decide +kernel
theorem dX2_isRegister_11 : decode cX2_isRegister 11 = .ok (.goto 4, 3) := by decide +kernel
theorem dX2_isRegister_14 : decode cX2_isRegister 14 = .ok (.iconst 0, 1) := by decide +kernel
theorem dX2_isRegister_15 : decode cX2_isRegister 15 = .ok (.ireturn, 1) := by decide +kernel
theorem dX2_isSymbol_0 : decode cX2_isSymbol 0 = .ok (.iload_n 0, 1) := by decide +kernel
theorem dX2_isSymbol_1 : decode cX2_isSymbol 1 = .ok (.ifCond .lt 13, 3) := by decide +kernel
theorem dX2_isSymbol_4 : decode cX2_isSymbol 4 = .ok (.iload_n 0, 1) := by decide +kernel
theorem dX2_isSymbol_5 : decode cX2_isSymbol 5 = .ok (.bipush 16, 2) := by decide +kernel
theorem dX2_isSymbol_7 : decode cX2_isSymbol 7 = .ok (.if_icmp .ge 7, 3) := by decide +kernel
theorem dX2_isSymbol_10 : decode cX2_isSymbol 10 = .ok (.iconst 1, 1) := by decide +kernel
theorem dX2_isSymbol_11 : decode cX2_isSymbol 11 = .ok (.goto 4, 3) := by decide +kernel
theorem dX2_isSymbol_14 : decode cX2_isSymbol 14 = .ok (.iconst 0, 1) := by decide +kernel
theorem dX2_isSymbol_15 : decode cX2_isSymbol 15 = .ok (.ireturn, 1) := by decide +kernel
theorem dX2_symbolCode_0 : decode cX2_symbolCode 0 = .ok (.lconst 1, 1) := by decide +kernel
theorem dX2_symbolCode_1 : decode cX2_symbolCode 1 = .ok (.lstore_n 1, 1) := by decide +kernel
theorem dX2_symbolCode_2 : decode cX2_symbolCode 2 = .ok (.iload_n 0, 1) := by decide +kernel
theorem dX2_symbolCode_3 : decode cX2_symbolCode 3 = .ok (.iconst 1, 1) := by decide +kernel
theorem dX2_symbolCode_4 : decode cX2_symbolCode 4 = .ok (.iadd, 1) := by decide +kernel
theorem dX2_symbolCode_5 : decode cX2_symbolCode 5 = .ok (.istore_n 3, 1) := by decide +kernel
theorem dX2_symbolCode_6 : decode cX2_symbolCode 6 = .ok (.iload_n 3, 1) := by decide +kernel
theorem dX2_symbolCode_7 : decode cX2_symbolCode 7 = .ok (.bipush 16, 2) := by decide +kernel
theorem dX2_symbolCode_9 : decode cX2_symbolCode 9 = .ok (.if_icmp .ge 15, 3) := by decide +kernel
theorem dX2_symbolCode_12 : decode cX2_symbolCode 12 = .ok (.lload_n 1, 1) := by decide +kernel
theorem dX2_symbolCode_13 : decode cX2_symbolCode 13 = .ok (.ldc2_w 111, 3) := by decide +kernel
theorem dX2_symbolCode_16 : decode cX2_symbolCode 16 = .ok (.lmul, 1) := by decide +kernel
theorem dX2_symbolCode_17 : decode cX2_symbolCode 17 = .ok (.lstore_n 1, 1) := by decide +kernel
theorem dX2_symbolCode_18 : decode cX2_symbolCode 18 = .ok (.iinc 3 1, 3) := by decide +kernel
theorem dX2_symbolCode_21 : decode cX2_symbolCode 21 = .ok (.goto (-15), 3) := by decide +kernel
theorem dX2_symbolCode_24 : decode cX2_symbolCode 24 = .ok (.ldc2_w 113, 3) := by decide +kernel
theorem dX2_symbolCode_27 : decode cX2_symbolCode 27 = .ok (.lload_n 1, 1) := by decide +kernel
theorem dX2_symbolCode_28 : decode cX2_symbolCode 28 = .ok (.ladd, 1) := by decide +kernel
theorem dX2_symbolCode_29 : decode cX2_symbolCode 29 = .ok (.lreturn, 1) := by decide +kernel
theorem dX2_store_0 : decode cX2_store 0 = .ok (.aload_n 0, 1) := by decide +kernel
theorem dX2_store_1 : decode cX2_store 1 = .ok (.getfield 14, 3) := by decide +kernel
theorem dX2_store_4 : decode cX2_store 4 = .ok (.iload_n 1, 1) := by decide +kernel
theorem dX2_store_5 : decode cX2_store 5 = .ok (.aload_n 2, 1) := by decide +kernel
theorem dX2_store_6 : decode cX2_store 6 = .ok (.invokevirtual 115, 3) := by decide +kernel
theorem dX2_store_9 : decode cX2_store 9 = .ok (.aastore, 1) := by decide +kernel
theorem dX2_store_10 : decode cX2_store 10 = .ok (.aload_n 2, 1) := by decide +kernel
theorem dX2_store_11 : decode cX2_store 11 = .ok (.getfield 78, 3) := by decide +kernel
theorem dX2_store_14 : decode cX2_store 14 = .ok (.ireturn, 1) := by decide +kernel
theorem dX2_combine_0 : decode cX2_combine 0 = .ok (.iload_n 1, 1) := by decide +kernel
theorem dX2_combine_1 : decode cX2_combine 1 = .ok (.invokestatic 42, 3) := by decide +kernel
theorem dX2_combine_4 : decode cX2_combine 4 = .ok (.ifCond .eq 17, 3) := by decide +kernel
theorem dX2_combine_7 : decode cX2_combine 7 = .ok (.iload_n 2, 1) := by decide +kernel
theorem dX2_combine_8 : decode cX2_combine 8 = .ok (.invokestatic 42, 3) := by decide +kernel
theorem dX2_combine_11 : decode cX2_combine 11 = .ok (.ifCond .eq 10, 3) := by decide +kernel
theorem dX2_combine_14 : decode cX2_combine 14 = .ok (.iload_n 3, 1) := by decide +kernel
theorem dX2_combine_15 : decode cX2_combine 15 = .ok (.invokestatic 42, 3) := by decide +kernel
theorem dX2_combine_18 : decode cX2_combine 18 = .ok (.ifCond .ne 5, 3) := by decide +kernel
theorem dX2_combine_21 : decode cX2_combine 21 = .ok (.iconst (-1), 1) := by decide +kernel
theorem dX2_combine_22 : decode cX2_combine 22 = .ok (.ireturn, 1) := by decide +kernel
theorem dX2_combine_23 : decode cX2_combine 23 = .ok (.aload_n 0, 1) := by decide +kernel
theorem dX2_combine_24 : decode cX2_combine 24 = .ok (.getfield 38, 3) := by decide +kernel
theorem dX2_combine_27 : decode cX2_combine 27 = .ok (.aload_n 0, 1) := by decide +kernel
theorem dX2_combine_28 : decode cX2_combine 28 = .ok (.getfield 14, 3) := by decide +kernel
theorem dX2_combine_31 : decode cX2_combine 31 = .ok (.iload_n 2, 1) := by decide +kernel
theorem dX2_combine_32 : decode cX2_combine 32 = .ok (.aaload, 1) := by decide +kernel
theorem dX2_combine_33 : decode cX2_combine 33 = .ok (.aload_n 0, 1) := by decide +kernel
theorem dX2_combine_34 : decode cX2_combine 34 = .ok (.getfield 14, 3) := by decide +kernel
theorem dX2_combine_37 : decode cX2_combine 37 = .ok (.iload_n 3, 1) := by decide +kernel
theorem dX2_combine_38 : decode cX2_combine 38 = .ok (.aaload, 1) := by decide +kernel
theorem dX2_combine_39 : decode cX2_combine 39 = .ok (.iload 4, 2) := by decide +kernel
theorem dX2_combine_41 : decode cX2_combine 41 = .ok (.invokevirtual 119, 3) := by decide +kernel
theorem dX2_combine_44 : decode cX2_combine 44 = .ok (.ifCond .ne 6, 3) := by decide +kernel
theorem dX2_combine_47 : decode cX2_combine 47 = .ok (.bipush (-2), 2) := by decide +kernel
theorem dX2_combine_49 : decode cX2_combine 49 = .ok (.ireturn, 1) := by decide +kernel
theorem dX2_combine_50 : decode cX2_combine 50 = .ok (.aload_n 0, 1) := by decide +kernel
theorem dX2_combine_51 : decode cX2_combine 51 = .ok (.iload_n 1, 1) := by decide +kernel
theorem dX2_combine_52 : decode cX2_combine 52 = .ok (.aload_n 0, 1) := by decide +kernel
theorem dX2_combine_53 : decode cX2_combine 53 = .ok (.getfield 38, 3) := by decide +kernel
theorem dX2_combine_56 : decode cX2_combine 56 = .ok (.getfield 89, 3) := by decide +kernel
theorem dX2_combine_59 : decode cX2_combine 59 = .ok (.invokevirtual 56, 3) := by decide +kernel
theorem dX2_combine_62 : decode cX2_combine 62 = .ok (.ireturn, 1) := by decide +kernel
theorem dX2_workTerm_0 : decode cX2_workTerm 0 = .ok (.aload_n 0, 1) := by decide +kernel
theorem dX2_workTerm_1 : decode cX2_workTerm 1 = .ok (.getfield 38, 3) := by decide +kernel
theorem dX2_workTerm_4 : decode cX2_workTerm 4 = .ok (.lconst 0, 1) := by decide +kernel
theorem dX2_workTerm_5 : decode cX2_workTerm 5 = .ok (.aload_n 1, 1) := by decide +kernel
theorem dX2_workTerm_6 : decode cX2_workTerm 6 = .ok (.iload_n 2, 1) := by decide +kernel
theorem dX2_workTerm_7 : decode cX2_workTerm 7 = .ok (.invokevirtual 92, 3) := by decide +kernel
theorem dX2_workTerm_10 : decode cX2_workTerm 10 = .ok (.invokevirtual 48, 3) := by decide +kernel
theorem dX2_workTerm_13 : decode cX2_workTerm 13 = .ok (.iconst 0, 1) := by decide +kernel
theorem dX2_workTerm_14 : decode cX2_workTerm 14 = .ok (.istore_n 3, 1) := by decide +kernel
theorem dX2_workTerm_15 : decode cX2_workTerm 15 = .ok (.iload_n 3, 1) := by decide +kernel
theorem dX2_workTerm_16 : decode cX2_workTerm 16 = .ok (.bipush 16, 2) := by decide +kernel
theorem dX2_workTerm_18 : decode cX2_workTerm 18 = .ok (.if_icmp .ge 51, 3) := by decide +kernel
theorem dX2_workTerm_21 : decode cX2_workTerm 21 = .ok (.aload_n 1, 1) := by decide +kernel
theorem dX2_workTerm_22 : decode cX2_workTerm 22 = .ok (.iload_n 2, 1) := by decide +kernel
theorem dX2_workTerm_23 : decode cX2_workTerm 23 = .ok (.iload_n 3, 1) := by decide +kernel
theorem dX2_workTerm_24 : decode cX2_workTerm 24 = .ok (.invokevirtual 96, 3) := by decide +kernel
theorem dX2_workTerm_27 : decode cX2_workTerm 27 = .ok (.istore 4, 2) := by decide +kernel
theorem dX2_workTerm_29 : decode cX2_workTerm 29 = .ok (.iconst 0, 1) := by decide +kernel
theorem dX2_workTerm_30 : decode cX2_workTerm 30 = .ok (.istore 5, 2) := by decide +kernel
theorem dX2_workTerm_32 : decode cX2_workTerm 32 = .ok (.iload 5, 2) := by decide +kernel
theorem dX2_workTerm_34 : decode cX2_workTerm 34 = .ok (.iload 4, 2) := by decide +kernel
theorem dX2_workTerm_36 : decode cX2_workTerm 36 = .ok (.if_icmp .ge 27, 3) := by decide +kernel
theorem dX2_workTerm_39 : decode cX2_workTerm 39 = .ok (.aload_n 0, 1) := by decide +kernel
theorem dX2_workTerm_40 : decode cX2_workTerm 40 = .ok (.getfield 38, 3) := by decide +kernel
theorem dX2_workTerm_43 : decode cX2_workTerm 43 = .ok (.aload_n 0, 1) := by decide +kernel
theorem dX2_workTerm_44 : decode cX2_workTerm 44 = .ok (.getfield 14, 3) := by decide +kernel
theorem dX2_workTerm_47 : decode cX2_workTerm 47 = .ok (.iload_n 3, 1) := by decide +kernel
theorem dX2_workTerm_48 : decode cX2_workTerm 48 = .ok (.aaload, 1) := by decide +kernel
theorem dX2_workTerm_49 : decode cX2_workTerm 49 = .ok (.invokevirtual 123, 3) := by decide +kernel
theorem dX2_workTerm_52 : decode cX2_workTerm 52 = .ok (.ifCond .ne 5, 3) := by decide +kernel
theorem dX2_workTerm_55 : decode cX2_workTerm 55 = .ok (.iconst 0, 1) := by decide +kernel
theorem dX2_workTerm_56 : decode cX2_workTerm 56 = .ok (.ireturn, 1) := by decide +kernel
theorem dX2_workTerm_57 : decode cX2_workTerm 57 = .ok (.iinc 5 1, 3) := by decide +kernel
theorem dX2_workTerm_60 : decode cX2_workTerm 60 = .ok (.goto (-28), 3) := by decide +kernel
theorem dX2_workTerm_63 : decode cX2_workTerm 63 = .ok (.iinc 3 1, 3) := by decide +kernel
theorem dX2_workTerm_66 : decode cX2_workTerm 66 = .ok (.goto (-51), 3) := by decide +kernel
theorem dX2_workTerm_69 : decode cX2_workTerm 69 = .ok (.iconst 1, 1) := by decide +kernel
theorem dX2_workTerm_70 : decode cX2_workTerm 70 = .ok (.ireturn, 1) := by decide +kernel
theorem dX2_judge_0 : decode cX2_judge 0 = .ok (.aload_n 0, 1) := by decide +kernel
theorem dX2_judge_1 : decode cX2_judge 1 = .ok (.invokevirtual 126, 3) := by decide +kernel
theorem dX2_judge_4 : decode cX2_judge 4 = .ok (.ifCond .ne 5, 3) := by decide +kernel
theorem dX2_judge_7 : decode cX2_judge 7 = .ok (.iconst 0, 1) := by decide +kernel
theorem dX2_judge_8 : decode cX2_judge 8 = .ok (.ireturn, 1) := by decide +kernel
theorem dX2_judge_9 : decode cX2_judge 9 = .ok (.aload_n 0, 1) := by decide +kernel
theorem dX2_judge_10 : decode cX2_judge 10 = .ok (.getfield 38, 3) := by decide +kernel
theorem dX2_judge_13 : decode cX2_judge 13 = .ok (.lconst 0, 1) := by decide +kernel
theorem dX2_judge_14 : decode cX2_judge 14 = .ok (.iload_n 2, 1) := by decide +kernel
theorem dX2_judge_15 : decode cX2_judge 15 = .ok (.invokevirtual 48, 3) := by decide +kernel
theorem dX2_judge_18 : decode cX2_judge 18 = .ok (.aload_n 0, 1) := by decide +kernel
theorem dX2_judge_19 : decode cX2_judge 19 = .ok (.getfield 38, 3) := by decide +kernel
theorem dX2_judge_22 : decode cX2_judge 22 = .ok (.aload_n 1, 1) := by decide +kernel
theorem dX2_judge_23 : decode cX2_judge 23 = .ok (.invokevirtual 123, 3) := by decide +kernel
theorem dX2_judge_26 : decode cX2_judge 26 = .ok (.ifCond .ne 6, 3) := by decide +kernel
theorem dX2_judge_29 : decode cX2_judge 29 = .ok (.bipush (-2), 2) := by decide +kernel
theorem dX2_judge_31 : decode cX2_judge 31 = .ok (.ireturn, 1) := by decide +kernel
theorem dX2_judge_32 : decode cX2_judge 32 = .ok (.aload_n 0, 1) := by decide +kernel
theorem dX2_judge_33 : decode cX2_judge 33 = .ok (.getfield 38, 3) := by decide +kernel
theorem dX2_judge_36 : decode cX2_judge 36 = .ok (.getfield 52, 3) := by decide +kernel
theorem dX2_judge_39 : decode cX2_judge 39 = .ok (.invokevirtual 115, 3) := by decide +kernel
theorem dX2_judge_42 : decode cX2_judge 42 = .ok (.astore_n 3, 1) := by decide +kernel
theorem dX2_judge_43 : decode cX2_judge 43 = .ok (.aload_n 0, 1) := by decide +kernel
theorem dX2_judge_44 : decode cX2_judge 44 = .ok (.getfield 38, 3) := by decide +kernel
theorem dX2_judge_47 : decode cX2_judge 47 = .ok (.invokevirtual 75, 3) := by decide +kernel
theorem dX2_judge_50 : decode cX2_judge 50 = .ok (.iconst 0, 1) := by decide +kernel
theorem dX2_judge_51 : decode cX2_judge 51 = .ok (.istore 4, 2) := by decide +kernel
theorem dX2_judge_53 : decode cX2_judge 53 = .ok (.iload 4, 2) := by decide +kernel
theorem dX2_judge_55 : decode cX2_judge 55 = .ok (.aload_n 0, 1) := by decide +kernel
theorem dX2_judge_56 : decode cX2_judge 56 = .ok (.getfield 32, 3) := by decide +kernel
theorem dX2_judge_59 : decode cX2_judge 59 = .ok (.if_icmp .ge 31, 3) := by decide +kernel
theorem dX2_judge_62 : decode cX2_judge 62 = .ok (.aload_n 0, 1) := by decide +kernel
theorem dX2_judge_63 : decode cX2_judge 63 = .ok (.iload 4, 2) := by decide +kernel
theorem dX2_judge_65 : decode cX2_judge 65 = .ok (.invokevirtual 129, 3) := by decide +kernel
theorem dX2_judge_68 : decode cX2_judge 68 = .ok (.ifCond .eq 13, 3) := by decide +kernel
theorem dX2_judge_71 : decode cX2_judge 71 = .ok (.aload_n 0, 1) := by decide +kernel
theorem dX2_judge_72 : decode cX2_judge 72 = .ok (.getfield 38, 3) := by decide +kernel
theorem dX2_judge_75 : decode cX2_judge 75 = .ok (.invokevirtual 85, 3) := by decide +kernel
theorem dX2_judge_78 : decode cX2_judge 78 = .ok (.ifCond .ne 6, 3) := by decide +kernel
theorem dX2_judge_81 : decode cX2_judge 81 = .ok (.bipush (-2), 2) := by decide +kernel
theorem dX2_judge_83 : decode cX2_judge 83 = .ok (.ireturn, 1) := by decide +kernel
theorem dX2_judge_84 : decode cX2_judge 84 = .ok (.iinc 4 1, 3) := by decide +kernel
theorem dX2_judge_87 : decode cX2_judge 87 = .ok (.goto (-34), 3) := by decide +kernel
theorem dX2_judge_90 : decode cX2_judge 90 = .ok (.aload_n 0, 1) := by decide +kernel
theorem dX2_judge_91 : decode cX2_judge 91 = .ok (.getfield 38, 3) := by decide +kernel
theorem dX2_judge_94 : decode cX2_judge 94 = .ok (.getfield 89, 3) := by decide +kernel
theorem dX2_judge_97 : decode cX2_judge 97 = .ok (.aload_n 3, 1) := by decide +kernel
theorem dX2_judge_98 : decode cX2_judge 98 = .ok (.invokevirtual 100, 3) := by decide +kernel
theorem dX2_judge_101 : decode cX2_judge 101 = .ok (.ifCond .eq 7, 3) := by decide +kernel
theorem dX2_judge_104 : decode cX2_judge 104 = .ok (.iconst 1, 1) := by decide +kernel
theorem dX2_judge_105 : decode cX2_judge 105 = .ok (.goto 4, 3) := by decide +kernel
theorem dX2_judge_108 : decode cX2_judge 108 = .ok (.iconst 0, 1) := by decide +kernel
theorem dX2_judge_109 : decode cX2_judge 109 = .ok (.ireturn, 1) := by decide +kernel
theorem dX2_factorsAreThere_0 : decode cX2_factorsAreThere 0 = .ok (.iconst 0, 1) := by decide +kernel
theorem dX2_factorsAreThere_1 : decode cX2_factorsAreThere 1 = .ok (.istore_n 1, 1) := by decide +kernel
theorem dX2_factorsAreThere_2 : decode cX2_factorsAreThere 2 = .ok (.iload_n 1, 1) := by decide +kernel
theorem dX2_factorsAreThere_3 : decode cX2_factorsAreThere 3 = .ok (.aload_n 0, 1) := by decide +kernel
theorem dX2_factorsAreThere_4 : decode cX2_factorsAreThere 4 = .ok (.getfield 32, 3) := by decide +kernel
theorem dX2_factorsAreThere_7 : decode cX2_factorsAreThere 7 = .ok (.iconst 4, 1) := by decide +kernel
theorem dX2_factorsAreThere_8 : decode cX2_factorsAreThere 8 = .ok (.imul, 1) := by decide +kernel
theorem dX2_factorsAreThere_9 : decode cX2_factorsAreThere 9 = .ok (.if_icmp .ge 24, 3) := by decide +kernel
theorem dX2_factorsAreThere_12 : decode cX2_factorsAreThere 12 = .ok (.aload_n 0, 1) := by decide +kernel
theorem dX2_factorsAreThere_13 : decode cX2_factorsAreThere 13 = .ok (.getfield 29, 3) := by decide +kernel
theorem dX2_factorsAreThere_16 : decode cX2_factorsAreThere 16 = .ok (.iload_n 1, 1) := by decide +kernel
theorem dX2_factorsAreThere_17 : decode cX2_factorsAreThere 17 = .ok (.iaload, 1) := by decide +kernel
theorem dX2_factorsAreThere_18 : decode cX2_factorsAreThere 18 = .ok (.aload_n 0, 1) := by decide +kernel
theorem dX2_factorsAreThere_19 : decode cX2_factorsAreThere 19 = .ok (.getfield 21, 3) := by decide +kernel
theorem dX2_factorsAreThere_22 : decode cX2_factorsAreThere 22 = .ok (.if_icmp .lt 5, 3) := by decide +kernel
theorem dX2_factorsAreThere_25 : decode cX2_factorsAreThere 25 = .ok (.iconst 0, 1) := by decide +kernel
theorem dX2_factorsAreThere_26 : decode cX2_factorsAreThere 26 = .ok (.ireturn, 1) := by decide +kernel
theorem dX2_factorsAreThere_27 : decode cX2_factorsAreThere 27 = .ok (.iinc 1 1, 3) := by decide +kernel
theorem dX2_factorsAreThere_30 : decode cX2_factorsAreThere 30 = .ok (.goto (-28), 3) := by decide +kernel
theorem dX2_factorsAreThere_33 : decode cX2_factorsAreThere 33 = .ok (.iconst 1, 1) := by decide +kernel
theorem dX2_factorsAreThere_34 : decode cX2_factorsAreThere 34 = .ok (.ireturn, 1) := by decide +kernel
theorem dX2_workPart_0 : decode cX2_workPart 0 = .ok (.aload_n 0, 1) := by decide +kernel
theorem dX2_workPart_1 : decode cX2_workPart 1 = .ok (.getfield 38, 3) := by decide +kernel
theorem dX2_workPart_4 : decode cX2_workPart 4 = .ok (.lconst 0, 1) := by decide +kernel
theorem dX2_workPart_5 : decode cX2_workPart 5 = .ok (.aload_n 0, 1) := by decide +kernel
theorem dX2_workPart_6 : decode cX2_workPart 6 = .ok (.getfield 25, 3) := by decide +kernel
theorem dX2_workPart_9 : decode cX2_workPart 9 = .ok (.iload_n 1, 1) := by decide +kernel
theorem dX2_workPart_10 : decode cX2_workPart 10 = .ok (.iaload, 1) := by decide +kernel
theorem dX2_workPart_11 : decode cX2_workPart 11 = .ok (.invokevirtual 48, 3) := by decide +kernel
theorem dX2_workPart_14 : decode cX2_workPart 14 = .ok (.iload_n 1, 1) := by decide +kernel
theorem dX2_workPart_15 : decode cX2_workPart 15 = .ok (.iconst 4, 1) := by decide +kernel
theorem dX2_workPart_16 : decode cX2_workPart 16 = .ok (.imul, 1) := by decide +kernel
theorem dX2_workPart_17 : decode cX2_workPart 17 = .ok (.istore_n 2, 1) := by decide +kernel
theorem dX2_workPart_18 : decode cX2_workPart 18 = .ok (.iload_n 2, 1) := by decide +kernel
theorem dX2_workPart_19 : decode cX2_workPart 19 = .ok (.iload_n 1, 1) := by decide +kernel
theorem dX2_workPart_20 : decode cX2_workPart 20 = .ok (.iconst 1, 1) := by decide +kernel
theorem dX2_workPart_21 : decode cX2_workPart 21 = .ok (.iadd, 1) := by decide +kernel
theorem dX2_workPart_22 : decode cX2_workPart 22 = .ok (.iconst 4, 1) := by decide +kernel
theorem dX2_workPart_23 : decode cX2_workPart 23 = .ok (.imul, 1) := by decide +kernel
theorem dX2_workPart_24 : decode cX2_workPart 24 = .ok (.if_icmp .ge 46, 3) := by decide +kernel
theorem dX2_workPart_27 : decode cX2_workPart 27 = .ok (.aload_n 0, 1) := by decide +kernel
theorem dX2_workPart_28 : decode cX2_workPart 28 = .ok (.getfield 29, 3) := by decide +kernel
theorem dX2_workPart_31 : decode cX2_workPart 31 = .ok (.iload_n 2, 1) := by decide +kernel
theorem dX2_workPart_32 : decode cX2_workPart 32 = .ok (.iaload, 1) := by decide +kernel
theorem dX2_workPart_33 : decode cX2_workPart 33 = .ok (.istore_n 3, 1) := by decide +kernel
theorem dX2_workPart_34 : decode cX2_workPart 34 = .ok (.iload_n 3, 1) := by decide +kernel
theorem dX2_workPart_35 : decode cX2_workPart 35 = .ok (.ifCond .lt 29, 3) := by decide +kernel
theorem dX2_workPart_38 : decode cX2_workPart 38 = .ok (.iload_n 3, 1) := by decide +kernel
theorem dX2_workPart_39 : decode cX2_workPart 39 = .ok (.aload_n 0, 1) := by decide +kernel
theorem dX2_workPart_40 : decode cX2_workPart 40 = .ok (.getfield 21, 3) := by decide +kernel
theorem dX2_workPart_43 : decode cX2_workPart 43 = .ok (.if_icmp .ge 21, 3) := by decide +kernel
theorem dX2_workPart_46 : decode cX2_workPart 46 = .ok (.aload_n 0, 1) := by decide +kernel
theorem dX2_workPart_47 : decode cX2_workPart 47 = .ok (.getfield 38, 3) := by decide +kernel
theorem dX2_workPart_50 : decode cX2_workPart 50 = .ok (.aload_n 0, 1) := by decide +kernel
theorem dX2_workPart_51 : decode cX2_workPart 51 = .ok (.getfield 18, 3) := by decide +kernel
theorem dX2_workPart_54 : decode cX2_workPart 54 = .ok (.iload_n 3, 1) := by decide +kernel
theorem dX2_workPart_55 : decode cX2_workPart 55 = .ok (.aaload, 1) := by decide +kernel
theorem dX2_workPart_56 : decode cX2_workPart 56 = .ok (.invokevirtual 123, 3) := by decide +kernel
theorem dX2_workPart_59 : decode cX2_workPart 59 = .ok (.ifCond .ne 5, 3) := by decide +kernel
theorem dX2_workPart_62 : decode cX2_workPart 62 = .ok (.iconst 0, 1) := by decide +kernel
theorem dX2_workPart_63 : decode cX2_workPart 63 = .ok (.ireturn, 1) := by decide +kernel
theorem dX2_workPart_64 : decode cX2_workPart 64 = .ok (.iinc 2 1, 3) := by decide +kernel
theorem dX2_workPart_67 : decode cX2_workPart 67 = .ok (.goto (-49), 3) := by decide +kernel
theorem dX2_workPart_70 : decode cX2_workPart 70 = .ok (.iconst 1, 1) := by decide +kernel
theorem dX2_workPart_71 : decode cX2_workPart 71 = .ok (.ireturn, 1) := by decide +kernel
end
section
theorem dX3_init_0 : decode cX3_init 0 = .ok (.aload_n 0, 1) := by decide +kernel
theorem dX3_init_1 : decode cX3_init 1 = .ok (.invokespecial 1, 3) := by decide +kernel
theorem dX3_init_4 : decode cX3_init 4 = .ok (.aload_n 0, 1) := by decide +kernel
theorem dX3_init_5 : decode cX3_init 5 = .ok (.bipush 62, 2) := by decide +kernel
theorem dX3_init_7 : decode cX3_init 7 = .ok (.newarray .int, 2) := by decide +kernel
theorem dX3_init_9 : decode cX3_init 9 = .ok (.putfield 9, 3) := by decide +kernel
theorem dX3_init_12 : decode cX3_init 12 = .ok (.aload_n 0, 1) := by decide +kernel
theorem dX3_init_13 : decode cX3_init 13 = .ok (.sipush 3720, 3) := by decide +kernel
theorem dX3_init_16 : decode cX3_init 16 = .ok (.newarray .long, 2) := by decide +kernel
theorem dX3_init_18 : decode cX3_init 18 = .ok (.putfield 13, 3) := by decide +kernel
theorem dX3_init_21 : decode cX3_init 21 = .ok (.aload_n 0, 1) := by decide +kernel
theorem dX3_init_22 : decode cX3_init 22 = .ok (.sipush 3720, 3) := by decide +kernel
theorem dX3_init_25 : decode cX3_init 25 = .ok (.newarray .long, 2) := by decide +kernel
theorem dX3_init_27 : decode cX3_init 27 = .ok (.putfield 17, 3) := by decide +kernel
theorem dX3_init_30 : decode cX3_init 30 = .ok (.aload_n 0, 1) := by decide +kernel
theorem dX3_init_31 : decode cX3_init 31 = .ok (.sipush 3720, 3) := by decide +kernel
theorem dX3_init_34 : decode cX3_init 34 = .ok (.newarray .long, 2) := by decide +kernel
theorem dX3_init_36 : decode cX3_init 36 = .ok (.putfield 20, 3) := by decide +kernel
theorem dX3_init_39 : decode cX3_init 39 = .ok (.aload_n 0, 1) := by decide +kernel
theorem dX3_init_40 : decode cX3_init 40 = .ok (.bipush 20, 2) := by decide +kernel
theorem dX3_init_42 : decode cX3_init 42 = .ok (.newarray .int, 2) := by decide +kernel
theorem dX3_init_44 : decode cX3_init 44 = .ok (.putfield 23, 3) := by decide +kernel
theorem dX3_init_47 : decode cX3_init 47 = .ok (.aload_n 0, 1) := by decide +kernel
theorem dX3_init_48 : decode cX3_init 48 = .ok (.bipush 20, 2) := by decide +kernel
theorem dX3_init_50 : decode cX3_init 50 = .ok (.newarray .int, 2) := by decide +kernel
theorem dX3_init_52 : decode cX3_init 52 = .ok (.putfield 26, 3) := by decide +kernel
theorem dX3_init_55 : decode cX3_init 55 = .ok (.aload_n 0, 1) := by decide +kernel
theorem dX3_init_56 : decode cX3_init 56 = .ok (.bipush 20, 2) := by decide +kernel
theorem dX3_init_58 : decode cX3_init 58 = .ok (.newarray .int, 2) := by decide +kernel
theorem dX3_init_60 : decode cX3_init 60 = .ok (.putfield 29, 3) := by decide +kernel
theorem dX3_init_63 : decode cX3_init 63 = .ok (.aload_n 0, 1) := by decide +kernel
theorem dX3_init_64 : decode cX3_init 64 = .ok (.bipush 20, 2) := by decide +kernel
theorem dX3_init_66 : decode cX3_init 66 = .ok (.newarray .int, 2) := by decide +kernel
theorem dX3_init_68 : decode cX3_init 68 = .ok (.putfield 32, 3) := by decide +kernel
theorem dX3_init_71 : decode cX3_init 71 = .ok (.aload_n 0, 1) := by decide +kernel
theorem dX3_init_72 : decode cX3_init 72 = .ok (.bipush 20, 2) := by decide +kernel
theorem dX3_init_74 : decode cX3_init 74 = .ok (.newarray .int, 2) := by decide +kernel
theorem dX3_init_76 : decode cX3_init 76 = .ok (.putfield 35, 3) := by decide +kernel
theorem dX3_init_79 : decode cX3_init 79 = .ok (.aload_n 0, 1) := by decide +kernel
theorem dX3_init_80 : decode cX3_init 80 = .ok (.sipush 3700, 3) := by decide +kernel
theorem dX3_init_83 : decode cX3_init 83 = .ok (.newarray .long, 2) := by decide +kernel
theorem dX3_init_85 : decode cX3_init 85 = .ok (.putfield 38, 3) := by decide +kernel
theorem dX3_init_88 : decode cX3_init 88 = .ok (.aload_n 0, 1) := by decide +kernel
theorem dX3_init_89 : decode cX3_init 89 = .ok (.sipush 3700, 3) := by decide +kernel
theorem dX3_init_92 : decode cX3_init 92 = .ok (.newarray .long, 2) := by decide +kernel
theorem dX3_init_94 : decode cX3_init 94 = .ok (.putfield 41, 3) := by decide +kernel
theorem dX3_init_97 : decode cX3_init 97 = .ok (.aload_n 0, 1) := by decide +kernel
theorem dX3_init_98 : decode cX3_init 98 = .ok (.sipush 3700, 3) := by decide +kernel
theorem dX3_init_101 : decode cX3_init 101 = .ok (.newarray .long, 2) := by decide +kernel
theorem dX3_init_103 : decode cX3_init 103 = .ok (.putfield 44, 3) := by decide +kernel
theorem dX3_init_106 : decode cX3_init 106 = .ok (.return_, 1) := by decide +kernel
theorem dX3_begin_0 : decode cX3_begin 0 = .ok (.aload_n 0, 1) := by decide +kernel
theorem dX3_begin_1 : decode cX3_begin 1 = .ok (.iconst 0, 1) := by decide +kernel
theorem dX3_begin_2 : decode cX3_begin 2 = .ok (.putfield 47, 3) := by decide +kernel
theorem dX3_begin_5 : decode cX3_begin 5 = .ok (.aload_n 0, 1) := by decide +kernel
theorem dX3_begin_6 : decode cX3_begin 6 = .ok (.iconst 0, 1) := by decide +kernel
theorem dX3_begin_7 : decode cX3_begin 7 = .ok (.putfield 51, 3) := by decide +kernel
theorem dX3_begin_10 : decode cX3_begin 10 = .ok (.return_, 1) := by decide +kernel
theorem dX3_add_0 : decode cX3_add 0 = .ok (.iconst 0, 1) := by decide +kernel
theorem dX3_add_1 : decode cX3_add 1 = .ok (.istore 7, 2) := by decide +kernel
theorem dX3_add_3 : decode cX3_add 3 = .ok (.iload 7, 2) := by decide +kernel
theorem dX3_add_5 : decode cX3_add 5 = .ok (.aload_n 0, 1) := by decide +kernel
theorem dX3_add_6 : decode cX3_add 6 = .ok (.getfield 47, 3) := by decide +kernel
theorem dX3_add_9 : decode cX3_add 9 = .ok (.if_icmp .ge 34, 3) := by decide +kernel
theorem dX3_add_12 : decode cX3_add 12 = .ok (.aload_n 0, 1) := by decide +kernel
theorem dX3_add_13 : decode cX3_add 13 = .ok (.getfield 41, 3) := by decide +kernel
theorem dX3_add_16 : decode cX3_add 16 = .ok (.iload 7, 2) := by decide +kernel
theorem dX3_add_18 : decode cX3_add 18 = .ok (.laload, 1) := by decide +kernel
theorem dX3_add_19 : decode cX3_add 19 = .ok (.lload_n 3, 1) := by decide +kernel
theorem dX3_add_20 : decode cX3_add 20 = .ok (.lcmp, 1) := by decide +kernel
theorem dX3_add_21 : decode cX3_add 21 = .ok (.ifCond .ne 16, 3) := by decide +kernel
theorem dX3_add_24 : decode cX3_add 24 = .ok (.aload_n 0, 1) := by decide +kernel
theorem dX3_add_25 : decode cX3_add 25 = .ok (.getfield 44, 3) := by decide +kernel
theorem dX3_add_28 : decode cX3_add 28 = .ok (.iload 7, 2) := by decide +kernel
theorem dX3_add_30 : decode cX3_add 30 = .ok (.laload, 1) := by decide +kernel
theorem dX3_add_31 : decode cX3_add 31 = .ok (.lload 5, 2) := by decide +kernel
theorem dX3_add_33 : decode cX3_add 33 = .ok (.lcmp, 1) := by decide +kernel
theorem dX3_add_34 : decode cX3_add 34 = .ok (.ifCond .eq 9, 3) := by decide +kernel
theorem dX3_add_37 : decode cX3_add 37 = .ok (.iinc 7 1, 3) := by decide +kernel
theorem dX3_add_40 : decode cX3_add 40 = .ok (.goto (-37), 3) := by decide +kernel
theorem dX3_add_43 : decode cX3_add 43 = .ok (.iload 7, 2) := by decide +kernel
theorem dX3_add_45 : decode cX3_add 45 = .ok (.aload_n 0, 1) := by decide +kernel
theorem dX3_add_46 : decode cX3_add 46 = .ok (.getfield 47, 3) := by decide +kernel
theorem dX3_add_49 : decode cX3_add 49 = .ok (.if_icmp .ne 38, 3) := by decide +kernel
theorem dX3_add_52 : decode cX3_add 52 = .ok (.aload_n 0, 1) := by decide +kernel
theorem dX3_add_53 : decode cX3_add 53 = .ok (.getfield 38, 3) := by decide +kernel
theorem dX3_add_56 : decode cX3_add 56 = .ok (.iload 7, 2) := by decide +kernel
theorem dX3_add_58 : decode cX3_add 58 = .ok (.lconst 0, 1) := by decide +kernel
theorem dX3_add_59 : decode cX3_add 59 = .ok (.lastore, 1) := by decide +kernel
theorem dX3_add_60 : decode cX3_add 60 = .ok (.aload_n 0, 1) := by decide +kernel
theorem dX3_add_61 : decode cX3_add 61 = .ok (.getfield 41, 3) := by decide +kernel
theorem dX3_add_64 : decode cX3_add 64 = .ok (.iload 7, 2) := by decide +kernel
theorem dX3_add_66 : decode cX3_add 66 = .ok (.lload_n 3, 1) := by decide +kernel
theorem dX3_add_67 : decode cX3_add 67 = .ok (.lastore, 1) := by decide +kernel
theorem dX3_add_68 : decode cX3_add 68 = .ok (.aload_n 0, 1) := by decide +kernel
theorem dX3_add_69 : decode cX3_add 69 = .ok (.getfield 44, 3) := by decide +kernel
theorem dX3_add_72 : decode cX3_add 72 = .ok (.iload 7, 2) := by decide +kernel
theorem dX3_add_74 : decode cX3_add 74 = .ok (.lload 5, 2) := by decide +kernel
theorem dX3_add_76 : decode cX3_add 76 = .ok (.lastore, 1) := by decide +kernel
theorem dX3_add_77 : decode cX3_add 77 = .ok (.aload_n 0, 1) := by decide +kernel
theorem dX3_add_78 : decode cX3_add 78 = .ok (.dup, 1) := by decide +kernel
theorem dX3_add_79 : decode cX3_add 79 = .ok (.getfield 47, 3) := by decide +kernel
theorem dX3_add_82 : decode cX3_add 82 = .ok (.iconst 1, 1) := by decide +kernel
theorem dX3_add_83 : decode cX3_add 83 = .ok (.iadd, 1) := by decide +kernel
theorem dX3_add_84 : decode cX3_add 84 = .ok (.putfield 47, 3) := by decide +kernel
theorem dX3_add_87 : decode cX3_add 87 = .ok (.aload_n 0, 1) := by decide +kernel
theorem dX3_add_88 : decode cX3_add 88 = .ok (.getfield 38, 3) := by decide +kernel
theorem dX3_add_91 : decode cX3_add 91 = .ok (.iload 7, 2) := by decide +kernel
theorem dX3_add_93 : decode cX3_add 93 = .ok (.dup2, 1) := by decide +kernel
theorem dX3_add_94 : decode cX3_add 94 = .ok (.laload, 1) := by decide +kernel
theorem dX3_add_95 : decode cX3_add 95 = .ok (.lload_n 1, 1) := by decide +kernel
theorem dX3_add_96 : decode cX3_add 96 = .ok (.ladd, 1) := by decide +kernel
theorem dX3_add_97 : decode cX3_add 97 = .ok (.lastore, 1) := by decide +kernel
theorem dX3_add_98 : decode cX3_add 98 = .ok (.return_, 1) := by decide +kernel
theorem dX3_isFar_0 : decode cX3_isFar 0 = .ok (.iconst 0, 1) := by decide +kernel
theorem dX3_isFar_1 : decode cX3_isFar 1 = .ok (.istore_n 2, 1) := by decide +kernel
theorem dX3_isFar_2 : decode cX3_isFar 2 = .ok (.iconst 0, 1) := by decide +kernel
theorem dX3_isFar_3 : decode cX3_isFar 3 = .ok (.istore_n 3, 1) := by decide +kernel
theorem dX3_isFar_4 : decode cX3_isFar 4 = .ok (.iload_n 3, 1) := by decide +kernel
theorem dX3_isFar_5 : decode cX3_isFar 5 = .ok (.bipush 64, 2) := by decide +kernel
theorem dX3_isFar_7 : decode cX3_isFar 7 = .ok (.if_icmp .ge 33, 3) := by decide +kernel
theorem dX3_isFar_10 : decode cX3_isFar 10 = .ok (.iload_n 2, 1) := by decide +kernel
theorem dX3_isFar_11 : decode cX3_isFar 11 = .ok (.ifCond .ne 17, 3) := by decide +kernel
theorem dX3_isFar_14 : decode cX3_isFar 14 = .ok (.lload_n 0, 1) := by decide +kernel
theorem dX3_isFar_15 : decode cX3_isFar 15 = .ok (.iload_n 3, 1) := by decide +kernel
theorem dX3_isFar_16 : decode cX3_isFar 16 = .ok (.lushr, 1) := by decide +kernel
theorem dX3_isFar_17 : decode cX3_isFar 17 = .ok (.ldc2_w 55, 3) := by decide +kernel
theorem dX3_isFar_20 : decode cX3_isFar 20 = .ok (.land, 1) := by decide +kernel
theorem dX3_isFar_21 : decode cX3_isFar 21 = .ok (.ldc2_w 57, 3) := by decide +kernel
theorem dX3_isFar_24 : decode cX3_isFar 24 = .ok (.lcmp, 1) := by decide +kernel
theorem dX3_isFar_25 : decode cX3_isFar 25 = .ok (.ifCond .le 7, 3) := by decide +kernel
theorem dX3_isFar_28 : decode cX3_isFar 28 = .ok (.iconst 1, 1) := by decide +kernel
theorem dX3_isFar_29 : decode cX3_isFar 29 = .ok (.goto 4, 3) := by decide +kernel
theorem dX3_isFar_32 : decode cX3_isFar 32 = .ok (.iconst 0, 1) := by decide +kernel
theorem dX3_isFar_33 : decode cX3_isFar 33 = .ok (.istore_n 2, 1) := by decide +kernel
theorem dX3_isFar_34 : decode cX3_isFar 34 = .ok (.iinc 3 8, 3) := by decide +kernel
theorem dX3_isFar_37 : decode cX3_isFar 37 = .ok (.goto (-33), 3) := by decide +kernel
theorem dX3_isFar_40 : decode cX3_isFar 40 = .ok (.iload_n 2, 1) := by decide +kernel
theorem dX3_isFar_41 : decode cX3_isFar 41 = .ok (.ireturn, 1) := by decide +kernel
theorem dX3_degree_0 : decode cX3_degree 0 = .ok (.iconst 0, 1) := by decide +kernel
theorem dX3_degree_1 : decode cX3_degree 1 = .ok (.istore 4, 2) := by decide +kernel
theorem dX3_degree_3 : decode cX3_degree 3 = .ok (.iconst 0, 1) := by decide +kernel
theorem dX3_degree_4 : decode cX3_degree 4 = .ok (.istore 5, 2) := by decide +kernel
theorem dX3_degree_6 : decode cX3_degree 6 = .ok (.iload 5, 2) := by decide +kernel
theorem dX3_degree_8 : decode cX3_degree 8 = .ok (.bipush 64, 2) := by decide +kernel
theorem dX3_degree_10 : decode cX3_degree 10 = .ok (.if_icmp .ge 33, 3) := by decide +kernel
theorem dX3_degree_13 : decode cX3_degree 13 = .ok (.iload 4, 2) := by decide +kernel
theorem dX3_degree_15 : decode cX3_degree 15 = .ok (.lload_n 0, 1) := by decide +kernel
theorem dX3_degree_16 : decode cX3_degree 16 = .ok (.iload 5, 2) := by decide +kernel
theorem dX3_degree_18 : decode cX3_degree 18 = .ok (.lushr, 1) := by decide +kernel
theorem dX3_degree_19 : decode cX3_degree 19 = .ok (.ldc2_w 55, 3) := by decide +kernel
theorem dX3_degree_22 : decode cX3_degree 22 = .ok (.land, 1) := by decide +kernel
theorem dX3_degree_23 : decode cX3_degree 23 = .ok (.l2i, 1) := by decide +kernel
theorem dX3_degree_24 : decode cX3_degree 24 = .ok (.lload_n 2, 1) := by decide +kernel
theorem dX3_degree_25 : decode cX3_degree 25 = .ok (.iload 5, 2) := by decide +kernel
theorem dX3_degree_27 : decode cX3_degree 27 = .ok (.lushr, 1) := by decide +kernel
theorem dX3_degree_28 : decode cX3_degree 28 = .ok (.ldc2_w 55, 3) := by decide +kernel
theorem dX3_degree_31 : decode cX3_degree 31 = .ok (.land, 1) := by decide +kernel
theorem dX3_degree_32 : decode cX3_degree 32 = .ok (.l2i, 1) := by decide +kernel
theorem dX3_degree_33 : decode cX3_degree 33 = .ok (.iadd, 1) := by decide +kernel
theorem dX3_degree_34 : decode cX3_degree 34 = .ok (.iadd, 1) := by decide +kernel
theorem dX3_degree_35 : decode cX3_degree 35 = .ok (.istore 4, 2) := by decide +kernel
theorem dX3_degree_37 : decode cX3_degree 37 = .ok (.iinc 5 8, 3) := by decide +kernel
theorem dX3_degree_40 : decode cX3_degree 40 = .ok (.goto (-34), 3) := by decide +kernel
theorem dX3_degree_43 : decode cX3_degree 43 = .ok (.iload 4, 2) := by decide +kernel
theorem dX3_degree_45 : decode cX3_degree 45 = .ok (.ireturn, 1) := by decide +kernel
theorem dX3_isAhead_0 : decode cX3_isAhead 0 = .ok (.aload_n 0, 1) := by decide +kernel
theorem dX3_isAhead_1 : decode cX3_isAhead 1 = .ok (.getfield 41, 3) := by decide +kernel
theorem dX3_isAhead_4 : decode cX3_isAhead 4 = .ok (.iload_n 1, 1) := by decide +kernel
theorem dX3_isAhead_5 : decode cX3_isAhead 5 = .ok (.laload, 1) := by decide +kernel
theorem dX3_isAhead_6 : decode cX3_isAhead 6 = .ok (.aload_n 0, 1) := by decide +kernel
theorem dX3_isAhead_7 : decode cX3_isAhead 7 = .ok (.getfield 44, 3) := by decide +kernel
theorem dX3_isAhead_10 : decode cX3_isAhead 10 = .ok (.iload_n 1, 1) := by decide +kernel
theorem dX3_isAhead_11 : decode cX3_isAhead 11 = .ok (.laload, 1) := by decide +kernel
theorem dX3_isAhead_12 : decode cX3_isAhead 12 = .ok (.invokestatic 59, 3) := by decide +kernel
theorem dX3_isAhead_15 : decode cX3_isAhead 15 = .ok (.istore_n 3, 1) := by decide +kernel
theorem dX3_isAhead_16 : decode cX3_isAhead 16 = .ok (.aload_n 0, 1) := by decide +kernel
theorem dX3_isAhead_17 : decode cX3_isAhead 17 = .ok (.getfield 41, 3) := by decide +kernel
theorem dX3_isAhead_20 : decode cX3_isAhead 20 = .ok (.iload_n 2, 1) := by decide +kernel
theorem dX3_isAhead_21 : decode cX3_isAhead 21 = .ok (.laload, 1) := by decide +kernel
theorem dX3_isAhead_22 : decode cX3_isAhead 22 = .ok (.aload_n 0, 1) := by decide +kernel
theorem dX3_isAhead_23 : decode cX3_isAhead 23 = .ok (.getfield 44, 3) := by decide +kernel
theorem dX3_isAhead_26 : decode cX3_isAhead 26 = .ok (.iload_n 2, 1) := by decide +kernel
theorem dX3_isAhead_27 : decode cX3_isAhead 27 = .ok (.laload, 1) := by decide +kernel
theorem dX3_isAhead_28 : decode cX3_isAhead 28 = .ok (.invokestatic 59, 3) := by decide +kernel
theorem dX3_isAhead_31 : decode cX3_isAhead 31 = .ok (.istore 4, 2) := by decide +kernel
theorem dX3_isAhead_33 : decode cX3_isAhead 33 = .ok (.iload_n 3, 1) := by decide +kernel
theorem dX3_isAhead_34 : decode cX3_isAhead 34 = .ok (.iload 4, 2) := by decide +kernel
theorem dX3_isAhead_36 : decode cX3_isAhead 36 = .ok (.if_icmp .eq 15, 3) := by decide +kernel
theorem dX3_isAhead_39 : decode cX3_isAhead 39 = .ok (.iload_n 3, 1) := by decide +kernel
theorem dX3_isAhead_40 : decode cX3_isAhead 40 = .ok (.iload 4, 2) := by decide +kernel
theorem dX3_isAhead_42 : decode cX3_isAhead 42 = .ok (.if_icmp .le 7, 3) := by decide +kernel
theorem dX3_isAhead_45 : decode cX3_isAhead 45 = .ok (.iconst 1, 1) := by decide +kernel
theorem dX3_isAhead_46 : decode cX3_isAhead 46 = .ok (.goto 4, 3) := by decide +kernel
theorem dX3_isAhead_49 : decode cX3_isAhead 49 = .ok (.iconst 0, 1) := by decide +kernel
theorem dX3_isAhead_50 : decode cX3_isAhead 50 = .ok (.ireturn, 1) := by decide +kernel
theorem dX3_isAhead_51 : decode cX3_isAhead 51 = .ok (.aload_n 0, 1) := by decide +kernel
theorem dX3_isAhead_52 : decode cX3_isAhead 52 = .ok (.getfield 41, 3) := by decide +kernel
theorem dX3_isAhead_55 : decode cX3_isAhead 55 = .ok (.iload_n 1, 1) := by decide +kernel
theorem dX3_isAhead_56 : decode cX3_isAhead 56 = .ok (.laload, 1) := by decide +kernel
theorem dX3_isAhead_57 : decode cX3_isAhead 57 = .ok (.aload_n 0, 1) := by decide +kernel
theorem dX3_isAhead_58 : decode cX3_isAhead 58 = .ok (.getfield 41, 3) := by decide +kernel
theorem dX3_isAhead_61 : decode cX3_isAhead 61 = .ok (.iload_n 2, 1) := by decide +kernel
theorem dX3_isAhead_62 : decode cX3_isAhead 62 = .ok (.laload, 1) := by decide +kernel
theorem dX3_isAhead_63 : decode cX3_isAhead 63 = .ok (.lcmp, 1) := by decide +kernel
theorem dX3_isAhead_64 : decode cX3_isAhead 64 = .ok (.ifCond .eq 27, 3) := by decide +kernel
theorem dX3_isAhead_67 : decode cX3_isAhead 67 = .ok (.aload_n 0, 1) := by decide +kernel
theorem dX3_isAhead_68 : decode cX3_isAhead 68 = .ok (.getfield 41, 3) := by decide +kernel
theorem dX3_isAhead_71 : decode cX3_isAhead 71 = .ok (.iload_n 1, 1) := by decide +kernel
theorem dX3_isAhead_72 : decode cX3_isAhead 72 = .ok (.laload, 1) := by decide +kernel
theorem dX3_isAhead_73 : decode cX3_isAhead 73 = .ok (.aload_n 0, 1) := by decide +kernel
theorem dX3_isAhead_74 : decode cX3_isAhead 74 = .ok (.getfield 41, 3) := by decide +kernel
theorem dX3_isAhead_77 : decode cX3_isAhead 77 = .ok (.iload_n 2, 1) := by decide +kernel
theorem dX3_isAhead_78 : decode cX3_isAhead 78 = .ok (.laload, 1) := by decide +kernel
theorem dX3_isAhead_79 : decode cX3_isAhead 79 = .ok (.lcmp, 1) := by decide +kernel
theorem dX3_isAhead_80 : decode cX3_isAhead 80 = .ok (.ifCond .le 7, 3) := by decide +kernel
theorem dX3_isAhead_83 : decode cX3_isAhead 83 = .ok (.iconst 1, 1) := by decide +kernel
theorem dX3_isAhead_84 : decode cX3_isAhead 84 = .ok (.goto 28, 3) := by decide +kernel
theorem dX3_isAhead_87 : decode cX3_isAhead 87 = .ok (.iconst 0, 1) := by decide +kernel
theorem dX3_isAhead_88 : decode cX3_isAhead 88 = .ok (.goto 24, 3) := by decide +kernel
theorem dX3_isAhead_91 : decode cX3_isAhead 91 = .ok (.aload_n 0, 1) := by decide +kernel
theorem dX3_isAhead_92 : decode cX3_isAhead 92 = .ok (.getfield 44, 3) := by decide +kernel
theorem dX3_isAhead_95 : decode cX3_isAhead 95 = .ok (.iload_n 1, 1) := by decide +kernel
theorem dX3_isAhead_96 : decode cX3_isAhead 96 = .ok (.laload, 1) := by decide +kernel
theorem dX3_isAhead_97 : decode cX3_isAhead 97 = .ok (.aload_n 0, 1) := by decide +kernel
theorem dX3_isAhead_98 : decode cX3_isAhead 98 = .ok (.getfield 44, 3) := by decide +kernel
theorem dX3_isAhead_101 : decode cX3_isAhead 101 = .ok (.iload_n 2, 1) := by decide +kernel
theorem dX3_isAhead_102 : decode cX3_isAhead 102 = .ok (.laload, 1) := by decide +kernel
theorem dX3_isAhead_103 : decode cX3_isAhead 103 = .ok (.lcmp, 1) := by decide +kernel
theorem dX3_isAhead_104 : decode cX3_isAhead 104 = .ok (.ifCond .le 7, 3) := by decide +kernel
theorem dX3_isAhead_107 : decode cX3_isAhead 107 = .ok (.iconst 1, 1) := by decide +kernel
theorem dX3_isAhead_108 : decode cX3_isAhead 108 = .ok (.goto 4, 3) := by decide +kernel
theorem dX3_isAhead_111 : decode cX3_isAhead 111 = .ok (.iconst 0, 1) := by decide +kernel
theorem dX3_isAhead_112 : decode cX3_isAhead 112 = .ok (.ireturn, 1) := by decide +kernel
theorem dX3_swap_0 : decode cX3_swap 0 = .ok (.aload_n 0, 1) := by decide +kernel
theorem dX3_swap_1 : decode cX3_swap 1 = .ok (.getfield 38, 3) := by decide +kernel
theorem dX3_swap_4 : decode cX3_swap 4 = .ok (.iload_n 1, 1) := by decide +kernel
theorem dX3_swap_5 : decode cX3_swap 5 = .ok (.laload, 1) := by decide +kernel
theorem dX3_swap_6 : decode cX3_swap 6 = .ok (.lstore_n 3, 1) := by decide +kernel
theorem dX3_swap_7 : decode cX3_swap 7 = .ok (.aload_n 0, 1) := by decide +kernel
theorem dX3_swap_8 : decode cX3_swap 8 = .ok (.getfield 38, 3) := by decide +kernel
theorem dX3_swap_11 : decode cX3_swap 11 = .ok (.iload_n 1, 1) := by decide +kernel
theorem dX3_swap_12 : decode cX3_swap 12 = .ok (.aload_n 0, 1) := by decide +kernel
theorem dX3_swap_13 : decode cX3_swap 13 = .ok (.getfield 38, 3) := by decide +kernel
theorem dX3_swap_16 : decode cX3_swap 16 = .ok (.iload_n 2, 1) := by decide +kernel
theorem dX3_swap_17 : decode cX3_swap 17 = .ok (.laload, 1) := by decide +kernel
theorem dX3_swap_18 : decode cX3_swap 18 = .ok (.lastore, 1) := by decide +kernel
theorem dX3_swap_19 : decode cX3_swap 19 = .ok (.aload_n 0, 1) := by decide +kernel
theorem dX3_swap_20 : decode cX3_swap 20 = .ok (.getfield 38, 3) := by decide +kernel
theorem dX3_swap_23 : decode cX3_swap 23 = .ok (.iload_n 2, 1) := by decide +kernel
theorem dX3_swap_24 : decode cX3_swap 24 = .ok (.lload_n 3, 1) := by decide +kernel
theorem dX3_swap_25 : decode cX3_swap 25 = .ok (.lastore, 1) := by decide +kernel
theorem dX3_swap_26 : decode cX3_swap 26 = .ok (.aload_n 0, 1) := by decide +kernel
theorem dX3_swap_27 : decode cX3_swap 27 = .ok (.getfield 41, 3) := by decide +kernel
theorem dX3_swap_30 : decode cX3_swap 30 = .ok (.iload_n 1, 1) := by decide +kernel
theorem dX3_swap_31 : decode cX3_swap 31 = .ok (.laload, 1) := by decide +kernel
theorem dX3_swap_32 : decode cX3_swap 32 = .ok (.lstore_n 3, 1) := by decide +kernel
theorem dX3_swap_33 : decode cX3_swap 33 = .ok (.aload_n 0, 1) := by decide +kernel
theorem dX3_swap_34 : decode cX3_swap 34 = .ok (.getfield 41, 3) := by decide +kernel
theorem dX3_swap_37 : decode cX3_swap 37 = .ok (.iload_n 1, 1) := by decide +kernel
theorem dX3_swap_38 : decode cX3_swap 38 = .ok (.aload_n 0, 1) := by decide +kernel
theorem dX3_swap_39 : decode cX3_swap 39 = .ok (.getfield 41, 3) := by decide +kernel
theorem dX3_swap_42 : decode cX3_swap 42 = .ok (.iload_n 2, 1) := by decide +kernel
theorem dX3_swap_43 : decode cX3_swap 43 = .ok (.laload, 1) := by decide +kernel
theorem dX3_swap_44 : decode cX3_swap 44 = .ok (.lastore, 1) := by decide +kernel
theorem dX3_swap_45 : decode cX3_swap 45 = .ok (.aload_n 0, 1) := by decide +kernel
theorem dX3_swap_46 : decode cX3_swap 46 = .ok (.getfield 41, 3) := by decide +kernel
theorem dX3_swap_49 : decode cX3_swap 49 = .ok (.iload_n 2, 1) := by decide +kernel
theorem dX3_swap_50 : decode cX3_swap 50 = .ok (.lload_n 3, 1) := by decide +kernel
theorem dX3_swap_51 : decode cX3_swap 51 = .ok (.lastore, 1) := by decide +kernel
theorem dX3_swap_52 : decode cX3_swap 52 = .ok (.aload_n 0, 1) := by decide +kernel
theorem dX3_swap_53 : decode cX3_swap 53 = .ok (.getfield 44, 3) := by decide +kernel
theorem dX3_swap_56 : decode cX3_swap 56 = .ok (.iload_n 1, 1) := by decide +kernel
theorem dX3_swap_57 : decode cX3_swap 57 = .ok (.laload, 1) := by decide +kernel
theorem dX3_swap_58 : decode cX3_swap 58 = .ok (.lstore_n 3, 1) := by decide +kernel
theorem dX3_swap_59 : decode cX3_swap 59 = .ok (.aload_n 0, 1) := by decide +kernel
theorem dX3_swap_60 : decode cX3_swap 60 = .ok (.getfield 44, 3) := by decide +kernel
theorem dX3_swap_63 : decode cX3_swap 63 = .ok (.iload_n 1, 1) := by decide +kernel
theorem dX3_swap_64 : decode cX3_swap 64 = .ok (.aload_n 0, 1) := by decide +kernel
theorem dX3_swap_65 : decode cX3_swap 65 = .ok (.getfield 44, 3) := by decide +kernel
theorem dX3_swap_68 : decode cX3_swap 68 = .ok (.iload_n 2, 1) := by decide +kernel
theorem dX3_swap_69 : decode cX3_swap 69 = .ok (.laload, 1) := by decide +kernel
theorem dX3_swap_70 : decode cX3_swap 70 = .ok (.lastore, 1) := by decide +kernel
theorem dX3_swap_71 : decode cX3_swap 71 = .ok (.aload_n 0, 1) := by decide +kernel
theorem dX3_swap_72 : decode cX3_swap 72 = .ok (.getfield 44, 3) := by decide +kernel
theorem dX3_swap_75 : decode cX3_swap 75 = .ok (.iload_n 2, 1) := by decide +kernel
theorem dX3_swap_76 : decode cX3_swap 76 = .ok (.lload_n 3, 1) := by decide +kernel
theorem dX3_swap_77 : decode cX3_swap 77 = .ok (.lastore, 1) := by decide +kernel
theorem dX3_swap_78 : decode cX3_swap 78 = .ok (.return_, 1) := by decide +kernel
theorem dX3_to_0 : decode cX3_to 0 = .ok (.iconst 0, 1) := by decide +kernel
theorem dX3_to_1 : decode cX3_to 1 = .ok (.istore_n 2, 1) := by decide +kernel
theorem dX3_to_2 : decode cX3_to 2 = .ok (.iconst 0, 1) := by decide +kernel
theorem dX3_to_3 : decode cX3_to 3 = .ok (.istore_n 3, 1) := by decide +kernel
theorem dX3_to_4 : decode cX3_to 4 = .ok (.iload_n 3, 1) := by decide +kernel
theorem dX3_to_5 : decode cX3_to 5 = .ok (.aload_n 0, 1) := by decide +kernel
theorem dX3_to_6 : decode cX3_to 6 = .ok (.getfield 47, 3) := by decide +kernel
theorem dX3_to_9 : decode cX3_to 9 = .ok (.if_icmp .ge 32, 3) := by decide +kernel
theorem dX3_to_12 : decode cX3_to 12 = .ok (.aload_n 0, 1) := by decide +kernel
theorem dX3_to_13 : decode cX3_to 13 = .ok (.getfield 38, 3) := by decide +kernel
theorem dX3_to_16 : decode cX3_to 16 = .ok (.iload_n 3, 1) := by decide +kernel
theorem dX3_to_17 : decode cX3_to 17 = .ok (.laload, 1) := by decide +kernel
theorem dX3_to_18 : decode cX3_to 18 = .ok (.lconst 0, 1) := by decide +kernel
theorem dX3_to_19 : decode cX3_to 19 = .ok (.lcmp, 1) := by decide +kernel
theorem dX3_to_20 : decode cX3_to 20 = .ok (.ifCond .ne 6, 3) := by decide +kernel
theorem dX3_to_23 : decode cX3_to 23 = .ok (.goto 12, 3) := by decide +kernel
theorem dX3_to_26 : decode cX3_to 26 = .ok (.aload_n 0, 1) := by decide +kernel
theorem dX3_to_27 : decode cX3_to 27 = .ok (.iload_n 3, 1) := by decide +kernel
theorem dX3_to_28 : decode cX3_to 28 = .ok (.iload_n 2, 1) := by decide +kernel
theorem dX3_to_29 : decode cX3_to 29 = .ok (.invokevirtual 63, 3) := by decide +kernel
theorem dX3_to_32 : decode cX3_to 32 = .ok (.iinc 2 1, 3) := by decide +kernel
theorem dX3_to_35 : decode cX3_to 35 = .ok (.iinc 3 1, 3) := by decide +kernel
theorem dX3_to_38 : decode cX3_to 38 = .ok (.goto (-34), 3) := by decide +kernel
theorem dX3_to_41 : decode cX3_to 41 = .ok (.aload_n 0, 1) := by decide +kernel
theorem dX3_to_42 : decode cX3_to 42 = .ok (.iload_n 2, 1) := by decide +kernel
theorem dX3_to_43 : decode cX3_to 43 = .ok (.putfield 47, 3) := by decide +kernel
theorem dX3_to_46 : decode cX3_to 46 = .ok (.aload_n 0, 1) := by decide +kernel
theorem dX3_to_47 : decode cX3_to 47 = .ok (.getfield 51, 3) := by decide +kernel
theorem dX3_to_50 : decode cX3_to 50 = .ok (.ifCond .ne 16, 3) := by decide +kernel
theorem dX3_to_53 : decode cX3_to 53 = .ok (.aload_n 0, 1) := by decide +kernel
theorem dX3_to_54 : decode cX3_to 54 = .ok (.getfield 47, 3) := by decide +kernel
theorem dX3_to_57 : decode cX3_to 57 = .ok (.bipush 60, 2) := by decide +kernel
theorem dX3_to_59 : decode cX3_to 59 = .ok (.if_icmp .gt 7, 3) := by decide +kernel
theorem dX3_to_62 : decode cX3_to 62 = .ok (.iconst 1, 1) := by decide +kernel
theorem dX3_to_63 : decode cX3_to 63 = .ok (.goto 4, 3) := by decide +kernel
theorem dX3_to_66 : decode cX3_to 66 = .ok (.iconst 0, 1) := by decide +kernel
theorem dX3_to_67 : decode cX3_to 67 = .ok (.istore_n 3, 1) := by decide +kernel
theorem dX3_to_68 : decode cX3_to 68 = .ok (.iconst 0, 1) := by decide +kernel
theorem dX3_to_69 : decode cX3_to 69 = .ok (.istore 4, 2) := by decide +kernel
theorem dX3_to_71 : decode cX3_to 71 = .ok (.iload 4, 2) := by decide +kernel
theorem dX3_to_73 : decode cX3_to 73 = .ok (.aload_n 0, 1) := by decide +kernel
theorem dX3_to_74 : decode cX3_to 74 = .ok (.getfield 47, 3) := by decide +kernel
theorem dX3_to_77 : decode cX3_to 77 = .ok (.if_icmp .ge 47, 3) := by decide +kernel
theorem dX3_to_80 : decode cX3_to 80 = .ok (.iload_n 3, 1) := by decide +kernel
theorem dX3_to_81 : decode cX3_to 81 = .ok (.ifCond .eq 35, 3) := by decide +kernel
theorem dX3_to_84 : decode cX3_to 84 = .ok (.aload_n 0, 1) := by decide +kernel
theorem dX3_to_85 : decode cX3_to 85 = .ok (.getfield 38, 3) := by decide +kernel
theorem dX3_to_88 : decode cX3_to 88 = .ok (.iload 4, 2) := by decide +kernel
theorem dX3_to_90 : decode cX3_to 90 = .ok (.laload, 1) := by decide +kernel
theorem dX3_to_91 : decode cX3_to 91 = .ok (.ldc2_w 67, 3) := by decide +kernel
theorem dX3_to_94 : decode cX3_to 94 = .ok (.lcmp, 1) := by decide +kernel
theorem dX3_to_95 : decode cX3_to 95 = .ok (.ifCond .gt 21, 3) := by decide +kernel
theorem dX3_to_98 : decode cX3_to 98 = .ok (.aload_n 0, 1) := by decide +kernel
theorem dX3_to_99 : decode cX3_to 99 = .ok (.getfield 38, 3) := by decide +kernel
theorem dX3_to_102 : decode cX3_to 102 = .ok (.iload 4, 2) := by decide +kernel
theorem dX3_to_104 : decode cX3_to 104 = .ok (.laload, 1) := by decide +kernel
theorem dX3_to_105 : decode cX3_to 105 = .ok (.ldc2_w 69, 3) := by decide +kernel
theorem dX3_to_108 : decode cX3_to 108 = .ok (.lcmp, 1) := by decide +kernel
theorem dX3_to_109 : decode cX3_to 109 = .ok (.ifCond .lt 7, 3) := by decide +kernel
theorem dX3_to_112 : decode cX3_to 112 = .ok (.iconst 1, 1) := by decide +kernel
theorem dX3_to_113 : decode cX3_to 113 = .ok (.goto 4, 3) := by decide +kernel
theorem dX3_to_116 : decode cX3_to 116 = .ok (.iconst 0, 1) := by decide +kernel
theorem dX3_to_117 : decode cX3_to 117 = .ok (.istore_n 3, 1) := by decide +kernel
theorem dX3_to_118 : decode cX3_to 118 = .ok (.iinc 4 1, 3) := by decide +kernel
theorem dX3_to_121 : decode cX3_to 121 = .ok (.goto (-50), 3) := by decide +kernel
theorem dX3_to_124 : decode cX3_to 124 = .ok (.iload_n 3, 1) := by decide +kernel
theorem dX3_to_125 : decode cX3_to 125 = .ok (.ifCond .ne 5, 3) := by decide +kernel
theorem dX3_to_128 : decode cX3_to 128 = .ok (.iconst 0, 1) := by decide +kernel
theorem dX3_to_129 : decode cX3_to 129 = .ok (.ireturn, 1) := by decide +kernel
theorem dX3_to_130 : decode cX3_to 130 = .ok (.iconst 1, 1) := by decide +kernel
theorem dX3_to_131 : decode cX3_to 131 = .ok (.istore 4, 2) := by decide +kernel
theorem dX3_to_133 : decode cX3_to 133 = .ok (.iload 4, 2) := by decide +kernel
theorem dX3_to_135 : decode cX3_to 135 = .ok (.aload_n 0, 1) := by decide +kernel
theorem dX3_to_136 : decode cX3_to 136 = .ok (.getfield 47, 3) := by decide +kernel
theorem dX3_to_139 : decode cX3_to 139 = .ok (.if_icmp .ge 47, 3) := by decide +kernel
theorem dX3_to_142 : decode cX3_to 142 = .ok (.iload 4, 2) := by decide +kernel
theorem dX3_to_144 : decode cX3_to 144 = .ok (.istore 5, 2) := by decide +kernel
theorem dX3_to_146 : decode cX3_to 146 = .ok (.iload 5, 2) := by decide +kernel
theorem dX3_to_148 : decode cX3_to 148 = .ok (.ifCond .le 32, 3) := by decide +kernel
theorem dX3_to_151 : decode cX3_to 151 = .ok (.aload_n 0, 1) := by decide +kernel
theorem dX3_to_152 : decode cX3_to 152 = .ok (.iload 5, 2) := by decide +kernel
theorem dX3_to_154 : decode cX3_to 154 = .ok (.iload 5, 2) := by decide +kernel
theorem dX3_to_156 : decode cX3_to 156 = .ok (.iconst 1, 1) := by decide +kernel
theorem dX3_to_157 : decode cX3_to 157 = .ok (.isub, 1) := by decide +kernel
theorem dX3_to_158 : decode cX3_to 158 = .ok (.invokevirtual 71, 3) := by decide +kernel
theorem dX3_to_161 : decode cX3_to 161 = .ok (.ifCond .eq 19, 3) := by decide +kernel
theorem dX3_to_164 : decode cX3_to 164 = .ok (.aload_n 0, 1) := by decide +kernel
theorem dX3_to_165 : decode cX3_to 165 = .ok (.iload 5, 2) := by decide +kernel
theorem dX3_to_167 : decode cX3_to 167 = .ok (.iload 5, 2) := by decide +kernel
theorem dX3_to_169 : decode cX3_to 169 = .ok (.iconst 1, 1) := by decide +kernel
theorem dX3_to_170 : decode cX3_to 170 = .ok (.isub, 1) := by decide +kernel
theorem dX3_to_171 : decode cX3_to 171 = .ok (.invokevirtual 63, 3) := by decide +kernel
theorem dX3_to_174 : decode cX3_to 174 = .ok (.iinc 5 (-1), 3) := by decide +kernel
theorem dX3_to_177 : decode cX3_to 177 = .ok (.goto (-31), 3) := by decide +kernel
theorem dX3_to_180 : decode cX3_to 180 = .ok (.iinc 4 1, 3) := by decide +kernel
theorem dX3_to_183 : decode cX3_to 183 = .ok (.goto (-50), 3) := by decide +kernel
theorem dX3_to_186 : decode cX3_to 186 = .ok (.aload_n 0, 1) := by decide +kernel
theorem dX3_to_187 : decode cX3_to 187 = .ok (.getfield 9, 3) := by decide +kernel
theorem dX3_to_190 : decode cX3_to 190 = .ok (.iload_n 1, 1) := by decide +kernel
theorem dX3_to_191 : decode cX3_to 191 = .ok (.aload_n 0, 1) := by decide +kernel
theorem dX3_to_192 : decode cX3_to 192 = .ok (.getfield 47, 3) := by decide +kernel
theorem dX3_to_195 : decode cX3_to 195 = .ok (.iastore, 1) := by decide +kernel
theorem dX3_to_196 : decode cX3_to 196 = .ok (.iconst 0, 1) := by decide +kernel
theorem dX3_to_197 : decode cX3_to 197 = .ok (.istore 4, 2) := by decide +kernel
theorem dX3_to_199 : decode cX3_to 199 = .ok (.iload 4, 2) := by decide +kernel
theorem dX3_to_201 : decode cX3_to 201 = .ok (.aload_n 0, 1) := by decide +kernel
theorem dX3_to_202 : decode cX3_to 202 = .ok (.getfield 47, 3) := by decide +kernel
theorem dX3_to_205 : decode cX3_to 205 = .ok (.if_icmp .ge 66, 3) := by decide +kernel
theorem dX3_to_208 : decode cX3_to 208 = .ok (.aload_n 0, 1) := by decide +kernel
theorem dX3_to_209 : decode cX3_to 209 = .ok (.getfield 13, 3) := by decide +kernel
theorem dX3_to_212 : decode cX3_to 212 = .ok (.bipush 60, 2) := by decide +kernel
theorem dX3_to_214 : decode cX3_to 214 = .ok (.iload_n 1, 1) := by decide +kernel
theorem dX3_to_215 : decode cX3_to 215 = .ok (.imul, 1) := by decide +kernel
theorem dX3_to_216 : decode cX3_to 216 = .ok (.iload 4, 2) := by decide +kernel
theorem dX3_to_218 : decode cX3_to 218 = .ok (.iadd, 1) := by decide +kernel
theorem dX3_to_219 : decode cX3_to 219 = .ok (.aload_n 0, 1) := by decide +kernel
theorem dX3_to_220 : decode cX3_to 220 = .ok (.getfield 38, 3) := by decide +kernel
theorem dX3_to_223 : decode cX3_to 223 = .ok (.iload 4, 2) := by decide +kernel
theorem dX3_to_225 : decode cX3_to 225 = .ok (.laload, 1) := by decide +kernel
theorem dX3_to_226 : decode cX3_to 226 = .ok (.lastore, 1) := by decide +kernel
theorem dX3_to_227 : decode cX3_to 227 = .ok (.aload_n 0, 1) := by decide +kernel
theorem dX3_to_228 : decode cX3_to 228 = .ok (.getfield 17, 3) := by decide +kernel
theorem dX3_to_231 : decode cX3_to 231 = .ok (.bipush 60, 2) := by decide +kernel
theorem dX3_to_233 : decode cX3_to 233 = .ok (.iload_n 1, 1) := by decide +kernel
theorem dX3_to_234 : decode cX3_to 234 = .ok (.imul, 1) := by decide +kernel
theorem dX3_to_235 : decode cX3_to 235 = .ok (.iload 4, 2) := by decide +kernel
theorem dX3_to_237 : decode cX3_to 237 = .ok (.iadd, 1) := by decide +kernel
theorem dX3_to_238 : decode cX3_to 238 = .ok (.aload_n 0, 1) := by decide +kernel
theorem dX3_to_239 : decode cX3_to 239 = .ok (.getfield 41, 3) := by decide +kernel
theorem dX3_to_242 : decode cX3_to 242 = .ok (.iload 4, 2) := by decide +kernel
theorem dX3_to_244 : decode cX3_to 244 = .ok (.laload, 1) := by decide +kernel
theorem dX3_to_245 : decode cX3_to 245 = .ok (.lastore, 1) := by decide +kernel
theorem dX3_to_246 : decode cX3_to 246 = .ok (.aload_n 0, 1) := by decide +kernel
theorem dX3_to_247 : decode cX3_to 247 = .ok (.getfield 20, 3) := by decide +kernel
theorem dX3_to_250 : decode cX3_to 250 = .ok (.bipush 60, 2) := by decide +kernel
theorem dX3_to_252 : decode cX3_to 252 = .ok (.iload_n 1, 1) := by decide +kernel
theorem dX3_to_253 : decode cX3_to 253 = .ok (.imul, 1) := by decide +kernel
theorem dX3_to_254 : decode cX3_to 254 = .ok (.iload 4, 2) := by decide +kernel
theorem dX3_to_256 : decode cX3_to 256 = .ok (.iadd, 1) := by decide +kernel
theorem dX3_to_257 : decode cX3_to 257 = .ok (.aload_n 0, 1) := by decide +kernel
theorem dX3_to_258 : decode cX3_to 258 = .ok (.getfield 44, 3) := by decide +kernel
theorem dX3_to_261 : decode cX3_to 261 = .ok (.iload 4, 2) := by decide +kernel
theorem dX3_to_263 : decode cX3_to 263 = .ok (.laload, 1) := by decide +kernel
theorem dX3_to_264 : decode cX3_to 264 = .ok (.lastore, 1) := by decide +kernel
theorem dX3_to_265 : decode cX3_to 265 = .ok (.iinc 4 1, 3) := by decide +kernel
theorem dX3_to_268 : decode cX3_to 268 = .ok (.goto (-69), 3) := by decide +kernel
theorem dX3_to_271 : decode cX3_to 271 = .ok (.iconst 1, 1) := by decide +kernel
theorem dX3_to_272 : decode cX3_to 272 = .ok (.ireturn, 1) := by decide +kernel
theorem dX3_addAll_0 : decode cX3_addAll 0 = .ok (.bipush 60, 2) := by decide +kernel
theorem dX3_addAll_2 : decode cX3_addAll 2 = .ok (.iload_n 1, 1) := by decide +kernel
theorem dX3_addAll_3 : decode cX3_addAll 3 = .ok (.imul, 1) := by decide +kernel
theorem dX3_addAll_4 : decode cX3_addAll 4 = .ok (.istore 4, 2) := by decide +kernel
theorem dX3_addAll_6 : decode cX3_addAll 6 = .ok (.iload 4, 2) := by decide +kernel
theorem dX3_addAll_8 : decode cX3_addAll 8 = .ok (.bipush 60, 2) := by decide +kernel
theorem dX3_addAll_10 : decode cX3_addAll 10 = .ok (.iload_n 1, 1) := by decide +kernel
theorem dX3_addAll_11 : decode cX3_addAll 11 = .ok (.imul, 1) := by decide +kernel
theorem dX3_addAll_12 : decode cX3_addAll 12 = .ok (.aload_n 0, 1) := by decide +kernel
theorem dX3_addAll_13 : decode cX3_addAll 13 = .ok (.getfield 9, 3) := by decide +kernel
theorem dX3_addAll_16 : decode cX3_addAll 16 = .ok (.iload_n 1, 1) := by decide +kernel
theorem dX3_addAll_17 : decode cX3_addAll 17 = .ok (.iaload, 1) := by decide +kernel
theorem dX3_addAll_18 : decode cX3_addAll 18 = .ok (.iadd, 1) := by decide +kernel
theorem dX3_addAll_19 : decode cX3_addAll 19 = .ok (.if_icmp .ge 36, 3) := by decide +kernel
theorem dX3_addAll_22 : decode cX3_addAll 22 = .ok (.aload_n 0, 1) := by decide +kernel
theorem dX3_addAll_23 : decode cX3_addAll 23 = .ok (.lload_n 2, 1) := by decide +kernel
theorem dX3_addAll_24 : decode cX3_addAll 24 = .ok (.aload_n 0, 1) := by decide +kernel
theorem dX3_addAll_25 : decode cX3_addAll 25 = .ok (.getfield 13, 3) := by decide +kernel
theorem dX3_addAll_28 : decode cX3_addAll 28 = .ok (.iload 4, 2) := by decide +kernel
theorem dX3_addAll_30 : decode cX3_addAll 30 = .ok (.laload, 1) := by decide +kernel
theorem dX3_addAll_31 : decode cX3_addAll 31 = .ok (.lmul, 1) := by decide +kernel
theorem dX3_addAll_32 : decode cX3_addAll 32 = .ok (.aload_n 0, 1) := by decide +kernel
theorem dX3_addAll_33 : decode cX3_addAll 33 = .ok (.getfield 17, 3) := by decide +kernel
theorem dX3_addAll_36 : decode cX3_addAll 36 = .ok (.iload 4, 2) := by decide +kernel
theorem dX3_addAll_38 : decode cX3_addAll 38 = .ok (.laload, 1) := by decide +kernel
theorem dX3_addAll_39 : decode cX3_addAll 39 = .ok (.aload_n 0, 1) := by decide +kernel
theorem dX3_addAll_40 : decode cX3_addAll 40 = .ok (.getfield 20, 3) := by decide +kernel
theorem dX3_addAll_43 : decode cX3_addAll 43 = .ok (.iload 4, 2) := by decide +kernel
theorem dX3_addAll_45 : decode cX3_addAll 45 = .ok (.laload, 1) := by decide +kernel
theorem dX3_addAll_46 : decode cX3_addAll 46 = .ok (.invokevirtual 75, 3) := by decide +kernel
theorem dX3_addAll_49 : decode cX3_addAll 49 = .ok (.iinc 4 1, 3) := by decide +kernel
theorem dX3_addAll_52 : decode cX3_addAll 52 = .ok (.goto (-46), 3) := by decide +kernel
theorem dX3_addAll_55 : decode cX3_addAll 55 = .ok (.return_, 1) := by decide +kernel
theorem dX3_sum_0 : decode cX3_sum 0 = .ok (.aload_n 0, 1) := by decide +kernel
theorem dX3_sum_1 : decode cX3_sum 1 = .ok (.invokevirtual 79, 3) := by decide +kernel
theorem dX3_sum_4 : decode cX3_sum 4 = .ok (.aload_n 0, 1) := by decide +kernel
theorem dX3_sum_5 : decode cX3_sum 5 = .ok (.iload_n 2, 1) := by decide +kernel
theorem dX3_sum_6 : decode cX3_sum 6 = .ok (.lconst 1, 1) := by decide +kernel
theorem dX3_sum_7 : decode cX3_sum 7 = .ok (.invokevirtual 82, 3) := by decide +kernel
theorem dX3_sum_10 : decode cX3_sum 10 = .ok (.aload_n 0, 1) := by decide +kernel
theorem dX3_sum_11 : decode cX3_sum 11 = .ok (.iload_n 3, 1) := by decide +kernel
theorem dX3_sum_12 : decode cX3_sum 12 = .ok (.lload 4, 2) := by decide +kernel
theorem dX3_sum_14 : decode cX3_sum 14 = .ok (.invokevirtual 82, 3) := by decide +kernel
theorem dX3_sum_17 : decode cX3_sum 17 = .ok (.aload_n 0, 1) := by decide +kernel
theorem dX3_sum_18 : decode cX3_sum 18 = .ok (.iload_n 1, 1) := by decide +kernel
theorem dX3_sum_19 : decode cX3_sum 19 = .ok (.invokevirtual 86, 3) := by decide +kernel
theorem dX3_sum_22 : decode cX3_sum 22 = .ok (.ireturn, 1) := by decide +kernel
theorem dX3_product_0 : decode cX3_product 0 = .ok (.aload_n 0, 1) := by decide +kernel
theorem dX3_product_1 : decode cX3_product 1 = .ok (.invokevirtual 79, 3) := by decide +kernel
theorem dX3_product_4 : decode cX3_product 4 = .ok (.bipush 60, 2) := by decide +kernel
theorem dX3_product_6 : decode cX3_product 6 = .ok (.iload_n 2, 1) := by decide +kernel
theorem dX3_product_7 : decode cX3_product 7 = .ok (.imul, 1) := by decide +kernel
theorem dX3_product_8 : decode cX3_product 8 = .ok (.istore 4, 2) := by decide +kernel
theorem dX3_product_10 : decode cX3_product 10 = .ok (.iload 4, 2) := by decide +kernel
theorem dX3_product_12 : decode cX3_product 12 = .ok (.bipush 60, 2) := by decide +kernel
theorem dX3_product_14 : decode cX3_product 14 = .ok (.iload_n 2, 1) := by decide +kernel
theorem dX3_product_15 : decode cX3_product 15 = .ok (.imul, 1) := by decide +kernel
theorem dX3_product_16 : decode cX3_product 16 = .ok (.aload_n 0, 1) := by decide +kernel
theorem dX3_product_17 : decode cX3_product 17 = .ok (.getfield 9, 3) := by decide +kernel
theorem dX3_product_20 : decode cX3_product 20 = .ok (.iload_n 2, 1) := by decide +kernel
theorem dX3_product_21 : decode cX3_product 21 = .ok (.iaload, 1) := by decide +kernel
theorem dX3_product_22 : decode cX3_product 22 = .ok (.iadd, 1) := by decide +kernel
theorem dX3_product_23 : decode cX3_product 23 = .ok (.if_icmp .ge 126, 3) := by decide +kernel
theorem dX3_product_26 : decode cX3_product 26 = .ok (.bipush 60, 2) := by decide +kernel
theorem dX3_product_28 : decode cX3_product 28 = .ok (.iload_n 3, 1) := by decide +kernel
theorem dX3_product_29 : decode cX3_product 29 = .ok (.imul, 1) := by decide +kernel
theorem dX3_product_30 : decode cX3_product 30 = .ok (.istore 5, 2) := by decide +kernel
theorem dX3_product_32 : decode cX3_product 32 = .ok (.iload 5, 2) := by decide +kernel
theorem dX3_product_34 : decode cX3_product 34 = .ok (.bipush 60, 2) := by decide +kernel
theorem dX3_product_36 : decode cX3_product 36 = .ok (.iload_n 3, 1) := by decide +kernel
theorem dX3_product_37 : decode cX3_product 37 = .ok (.imul, 1) := by decide +kernel
theorem dX3_product_38 : decode cX3_product 38 = .ok (.aload_n 0, 1) := by decide +kernel
theorem dX3_product_39 : decode cX3_product 39 = .ok (.getfield 9, 3) := by decide +kernel
theorem dX3_product_42 : decode cX3_product 42 = .ok (.iload_n 3, 1) := by decide +kernel
theorem dX3_product_43 : decode cX3_product 43 = .ok (.iaload, 1) := by decide +kernel
theorem dX3_product_44 : decode cX3_product 44 = .ok (.iadd, 1) := by decide +kernel
theorem dX3_product_45 : decode cX3_product 45 = .ok (.if_icmp .ge 98, 3) := by decide +kernel
theorem dX3_product_48 : decode cX3_product 48 = .ok (.aload_n 0, 1) := by decide +kernel
theorem dX3_product_49 : decode cX3_product 49 = .ok (.getfield 17, 3) := by decide +kernel
theorem dX3_product_52 : decode cX3_product 52 = .ok (.iload 4, 2) := by decide +kernel
theorem dX3_product_54 : decode cX3_product 54 = .ok (.laload, 1) := by decide +kernel
theorem dX3_product_55 : decode cX3_product 55 = .ok (.aload_n 0, 1) := by decide +kernel
theorem dX3_product_56 : decode cX3_product 56 = .ok (.getfield 17, 3) := by decide +kernel
theorem dX3_product_59 : decode cX3_product 59 = .ok (.iload 5, 2) := by decide +kernel
theorem dX3_product_61 : decode cX3_product 61 = .ok (.laload, 1) := by decide +kernel
theorem dX3_product_62 : decode cX3_product 62 = .ok (.ladd, 1) := by decide +kernel
theorem dX3_product_63 : decode cX3_product 63 = .ok (.lstore 6, 2) := by decide +kernel
theorem dX3_product_65 : decode cX3_product 65 = .ok (.aload_n 0, 1) := by decide +kernel
theorem dX3_product_66 : decode cX3_product 66 = .ok (.getfield 20, 3) := by decide +kernel
theorem dX3_product_69 : decode cX3_product 69 = .ok (.iload 4, 2) := by decide +kernel
theorem dX3_product_71 : decode cX3_product 71 = .ok (.laload, 1) := by decide +kernel
theorem dX3_product_72 : decode cX3_product 72 = .ok (.aload_n 0, 1) := by decide +kernel
theorem dX3_product_73 : decode cX3_product 73 = .ok (.getfield 20, 3) := by decide +kernel
theorem dX3_product_76 : decode cX3_product 76 = .ok (.iload 5, 2) := by decide +kernel
theorem dX3_product_78 : decode cX3_product 78 = .ok (.laload, 1) := by decide +kernel
theorem dX3_product_79 : decode cX3_product 79 = .ok (.ladd, 1) := by decide +kernel
theorem dX3_product_80 : decode cX3_product 80 = .ok (.lstore 8, 2) := by decide +kernel
theorem dX3_product_82 : decode cX3_product 82 = .ok (.aload_n 0, 1) := by decide +kernel
theorem dX3_product_83 : decode cX3_product 83 = .ok (.aload_n 0, 1) := by decide +kernel
theorem dX3_product_84 : decode cX3_product 84 = .ok (.getfield 51, 3) := by decide +kernel
theorem dX3_product_87 : decode cX3_product 87 = .ok (.ifCond .ne 19, 3) := by decide +kernel
theorem dX3_product_90 : decode cX3_product 90 = .ok (.lload 6, 2) := by decide +kernel
theorem dX3_product_92 : decode cX3_product 92 = .ok (.invokestatic 90, 3) := by decide +kernel
theorem dX3_product_95 : decode cX3_product 95 = .ok (.ifCond .ne 11, 3) := by decide +kernel
theorem dX3_product_98 : decode cX3_product 98 = .ok (.lload 8, 2) := by decide +kernel
theorem dX3_product_100 : decode cX3_product 100 = .ok (.invokestatic 90, 3) := by decide +kernel
theorem dX3_product_103 : decode cX3_product 103 = .ok (.ifCond .eq 7, 3) := by decide +kernel
theorem dX3_product_106 : decode cX3_product 106 = .ok (.iconst 1, 1) := by decide +kernel
theorem dX3_product_107 : decode cX3_product 107 = .ok (.goto 4, 3) := by decide +kernel
theorem dX3_product_110 : decode cX3_product 110 = .ok (.iconst 0, 1) := by decide +kernel
theorem dX3_product_111 : decode cX3_product 111 = .ok (.putfield 51, 3) := by decide +kernel
theorem dX3_product_114 : decode cX3_product 114 = .ok (.aload_n 0, 1) := by decide +kernel
theorem dX3_product_115 : decode cX3_product 115 = .ok (.aload_n 0, 1) := by decide +kernel
theorem dX3_product_116 : decode cX3_product 116 = .ok (.getfield 13, 3) := by decide +kernel
theorem dX3_product_119 : decode cX3_product 119 = .ok (.iload 4, 2) := by decide +kernel
theorem dX3_product_121 : decode cX3_product 121 = .ok (.laload, 1) := by decide +kernel
theorem dX3_product_122 : decode cX3_product 122 = .ok (.aload_n 0, 1) := by decide +kernel
theorem dX3_product_123 : decode cX3_product 123 = .ok (.getfield 13, 3) := by decide +kernel
theorem dX3_product_126 : decode cX3_product 126 = .ok (.iload 5, 2) := by decide +kernel
theorem dX3_product_128 : decode cX3_product 128 = .ok (.laload, 1) := by decide +kernel
theorem dX3_product_129 : decode cX3_product 129 = .ok (.lmul, 1) := by decide +kernel
theorem dX3_product_130 : decode cX3_product 130 = .ok (.lload 6, 2) := by decide +kernel
theorem dX3_product_132 : decode cX3_product 132 = .ok (.lload 8, 2) := by decide +kernel
theorem dX3_product_134 : decode cX3_product 134 = .ok (.invokevirtual 75, 3) := by decide +kernel
theorem dX3_product_137 : decode cX3_product 137 = .ok (.iinc 5 1, 3) := by decide +kernel
theorem dX3_product_140 : decode cX3_product 140 = .ok (.goto (-108), 3) := by decide +kernel
theorem dX3_product_143 : decode cX3_product 143 = .ok (.iinc 4 1, 3) := by decide +kernel
theorem dX3_product_146 : decode cX3_product 146 = .ok (.goto (-136), 3) := by decide +kernel
theorem dX3_product_149 : decode cX3_product 149 = .ok (.aload_n 0, 1) := by decide +kernel
theorem dX3_product_150 : decode cX3_product 150 = .ok (.iload_n 1, 1) := by decide +kernel
theorem dX3_product_151 : decode cX3_product 151 = .ok (.invokevirtual 86, 3) := by decide +kernel
theorem dX3_product_154 : decode cX3_product 154 = .ok (.ireturn, 1) := by decide +kernel
theorem dX3_whole_0 : decode cX3_whole 0 = .ok (.aload_n 0, 1) := by decide +kernel
theorem dX3_whole_1 : decode cX3_whole 1 = .ok (.invokevirtual 79, 3) := by decide +kernel
theorem dX3_whole_4 : decode cX3_whole 4 = .ok (.lload_n 2, 1) := by decide +kernel
theorem dX3_whole_5 : decode cX3_whole 5 = .ok (.lconst 0, 1) := by decide +kernel
theorem dX3_whole_6 : decode cX3_whole 6 = .ok (.lcmp, 1) := by decide +kernel
theorem dX3_whole_7 : decode cX3_whole 7 = .ok (.ifCond .eq 10, 3) := by decide +kernel
theorem dX3_whole_10 : decode cX3_whole 10 = .ok (.aload_n 0, 1) := by decide +kernel
theorem dX3_whole_11 : decode cX3_whole 11 = .ok (.lload_n 2, 1) := by decide +kernel
theorem dX3_whole_12 : decode cX3_whole 12 = .ok (.lconst 0, 1) := by decide +kernel
theorem dX3_whole_13 : decode cX3_whole 13 = .ok (.lconst 0, 1) := by decide +kernel
theorem dX3_whole_14 : decode cX3_whole 14 = .ok (.invokevirtual 75, 3) := by decide +kernel
theorem dX3_whole_17 : decode cX3_whole 17 = .ok (.aload_n 0, 1) := by decide +kernel
theorem dX3_whole_18 : decode cX3_whole 18 = .ok (.iload_n 1, 1) := by decide +kernel
theorem dX3_whole_19 : decode cX3_whole 19 = .ok (.invokevirtual 86, 3) := by decide +kernel
theorem dX3_whole_22 : decode cX3_whole 22 = .ok (.ireturn, 1) := by decide +kernel
theorem dX3_power_0 : decode cX3_power 0 = .ok (.iload_n 2, 1) := by decide +kernel
theorem dX3_power_1 : decode cX3_power 1 = .ok (.bipush 8, 2) := by decide +kernel
theorem dX3_power_3 : decode cX3_power 3 = .ok (.if_icmp .ge 24, 3) := by decide +kernel
theorem dX3_power_6 : decode cX3_power 6 = .ok (.aload_n 0, 1) := by decide +kernel
theorem dX3_power_7 : decode cX3_power 7 = .ok (.getfield 17, 3) := by decide +kernel
theorem dX3_power_10 : decode cX3_power 10 = .ok (.iload_n 1, 1) := by decide +kernel
theorem dX3_power_11 : decode cX3_power 11 = .ok (.laload, 1) := by decide +kernel
theorem dX3_power_12 : decode cX3_power 12 = .ok (.bipush 56, 2) := by decide +kernel
theorem dX3_power_14 : decode cX3_power 14 = .ok (.bipush 8, 2) := by decide +kernel
theorem dX3_power_16 : decode cX3_power 16 = .ok (.iload_n 2, 1) := by decide +kernel
theorem dX3_power_17 : decode cX3_power 17 = .ok (.imul, 1) := by decide +kernel
theorem dX3_power_18 : decode cX3_power 18 = .ok (.isub, 1) := by decide +kernel
theorem dX3_power_19 : decode cX3_power 19 = .ok (.lushr, 1) := by decide +kernel
theorem dX3_power_20 : decode cX3_power 20 = .ok (.ldc2_w 55, 3) := by decide +kernel
theorem dX3_power_23 : decode cX3_power 23 = .ok (.land, 1) := by decide +kernel
theorem dX3_power_24 : decode cX3_power 24 = .ok (.goto 24, 3) := by decide +kernel
theorem dX3_power_27 : decode cX3_power 27 = .ok (.aload_n 0, 1) := by decide +kernel
theorem dX3_power_28 : decode cX3_power 28 = .ok (.getfield 20, 3) := by decide +kernel
theorem dX3_power_31 : decode cX3_power 31 = .ok (.iload_n 1, 1) := by decide +kernel
theorem dX3_power_32 : decode cX3_power 32 = .ok (.laload, 1) := by decide +kernel
theorem dX3_power_33 : decode cX3_power 33 = .ok (.bipush 56, 2) := by decide +kernel
theorem dX3_power_35 : decode cX3_power 35 = .ok (.bipush 8, 2) := by decide +kernel
theorem dX3_power_37 : decode cX3_power 37 = .ok (.iload_n 2, 1) := by decide +kernel
theorem dX3_power_38 : decode cX3_power 38 = .ok (.bipush 8, 2) := by decide +kernel
theorem dX3_power_40 : decode cX3_power 40 = .ok (.isub, 1) := by decide +kernel
theorem dX3_power_41 : decode cX3_power 41 = .ok (.imul, 1) := by decide +kernel
theorem dX3_power_42 : decode cX3_power 42 = .ok (.isub, 1) := by decide +kernel
theorem dX3_power_43 : decode cX3_power 43 = .ok (.lushr, 1) := by decide +kernel
theorem dX3_power_44 : decode cX3_power 44 = .ok (.ldc2_w 55, 3) := by decide +kernel
theorem dX3_power_47 : decode cX3_power 47 = .ok (.land, 1) := by decide +kernel
theorem dX3_power_48 : decode cX3_power 48 = .ok (.l2i, 1) := by decide +kernel
theorem dX3_power_49 : decode cX3_power 49 = .ok (.ireturn, 1) := by decide +kernel
theorem dX3_copy_0 : decode cX3_copy 0 = .ok (.aload_n 0, 1) := by decide +kernel
theorem dX3_copy_1 : decode cX3_copy 1 = .ok (.getfield 9, 3) := by decide +kernel
theorem dX3_copy_4 : decode cX3_copy 4 = .ok (.iload_n 2, 1) := by decide +kernel
theorem dX3_copy_5 : decode cX3_copy 5 = .ok (.aload_n 0, 1) := by decide +kernel
theorem dX3_copy_6 : decode cX3_copy 6 = .ok (.getfield 9, 3) := by decide +kernel
theorem dX3_copy_9 : decode cX3_copy 9 = .ok (.iload_n 1, 1) := by decide +kernel
theorem dX3_copy_10 : decode cX3_copy 10 = .ok (.iaload, 1) := by decide +kernel
theorem dX3_copy_11 : decode cX3_copy 11 = .ok (.iastore, 1) := by decide +kernel
theorem dX3_copy_12 : decode cX3_copy 12 = .ok (.iconst 0, 1) := by decide +kernel
theorem dX3_copy_13 : decode cX3_copy 13 = .ok (.istore_n 3, 1) := by decide +kernel
theorem dX3_copy_14 : decode cX3_copy 14 = .ok (.iload_n 3, 1) := by decide +kernel
theorem dX3_copy_15 : decode cX3_copy 15 = .ok (.aload_n 0, 1) := by decide +kernel
theorem dX3_copy_16 : decode cX3_copy 16 = .ok (.getfield 9, 3) := by decide +kernel
theorem dX3_copy_19 : decode cX3_copy 19 = .ok (.iload_n 1, 1) := by decide +kernel
theorem dX3_copy_20 : decode cX3_copy 20 = .ok (.iaload, 1) := by decide +kernel
theorem dX3_copy_21 : decode cX3_copy 21 = .ok (.if_icmp .ge 75, 3) := by decide +kernel
theorem dX3_copy_24 : decode cX3_copy 24 = .ok (.aload_n 0, 1) := by decide +kernel
theorem dX3_copy_25 : decode cX3_copy 25 = .ok (.getfield 13, 3) := by decide +kernel
theorem dX3_copy_28 : decode cX3_copy 28 = .ok (.bipush 60, 2) := by decide +kernel
theorem dX3_copy_30 : decode cX3_copy 30 = .ok (.iload_n 2, 1) := by decide +kernel
theorem dX3_copy_31 : decode cX3_copy 31 = .ok (.imul, 1) := by decide +kernel
theorem dX3_copy_32 : decode cX3_copy 32 = .ok (.iload_n 3, 1) := by decide +kernel
theorem dX3_copy_33 : decode cX3_copy 33 = .ok (.iadd, 1) := by decide +kernel
theorem dX3_copy_34 : decode cX3_copy 34 = .ok (.aload_n 0, 1) := by decide +kernel
theorem dX3_copy_35 : decode cX3_copy 35 = .ok (.getfield 13, 3) := by decide +kernel
theorem dX3_copy_38 : decode cX3_copy 38 = .ok (.bipush 60, 2) := by decide +kernel
theorem dX3_copy_40 : decode cX3_copy 40 = .ok (.iload_n 1, 1) := by decide +kernel
theorem dX3_copy_41 : decode cX3_copy 41 = .ok (.imul, 1) := by decide +kernel
theorem dX3_copy_42 : decode cX3_copy 42 = .ok (.iload_n 3, 1) := by decide +kernel
theorem dX3_copy_43 : decode cX3_copy 43 = .ok (.iadd, 1) := by decide +kernel
theorem dX3_copy_44 : decode cX3_copy 44 = .ok (.laload, 1) := by decide +kernel
theorem dX3_copy_45 : decode cX3_copy 45 = .ok (.lastore, 1) := by decide +kernel
theorem dX3_copy_46 : decode cX3_copy 46 = .ok (.aload_n 0, 1) := by decide +kernel
theorem dX3_copy_47 : decode cX3_copy 47 = .ok (.getfield 17, 3) := by decide +kernel
theorem dX3_copy_50 : decode cX3_copy 50 = .ok (.bipush 60, 2) := by decide +kernel
theorem dX3_copy_52 : decode cX3_copy 52 = .ok (.iload_n 2, 1) := by decide +kernel
theorem dX3_copy_53 : decode cX3_copy 53 = .ok (.imul, 1) := by decide +kernel
theorem dX3_copy_54 : decode cX3_copy 54 = .ok (.iload_n 3, 1) := by decide +kernel
theorem dX3_copy_55 : decode cX3_copy 55 = .ok (.iadd, 1) := by decide +kernel
theorem dX3_copy_56 : decode cX3_copy 56 = .ok (.aload_n 0, 1) := by decide +kernel
theorem dX3_copy_57 : decode cX3_copy 57 = .ok (.getfield 17, 3) := by decide +kernel
theorem dX3_copy_60 : decode cX3_copy 60 = .ok (.bipush 60, 2) := by decide +kernel
theorem dX3_copy_62 : decode cX3_copy 62 = .ok (.iload_n 1, 1) := by decide +kernel
theorem dX3_copy_63 : decode cX3_copy 63 = .ok (.imul, 1) := by decide +kernel
theorem dX3_copy_64 : decode cX3_copy 64 = .ok (.iload_n 3, 1) := by decide +kernel
theorem dX3_copy_65 : decode cX3_copy 65 = .ok (.iadd, 1) := by decide +kernel
theorem dX3_copy_66 : decode cX3_copy 66 = .ok (.laload, 1) := by decide +kernel
theorem dX3_copy_67 : decode cX3_copy 67 = .ok (.lastore, 1) := by decide +kernel
theorem dX3_copy_68 : decode cX3_copy 68 = .ok (.aload_n 0, 1) := by decide +kernel
theorem dX3_copy_69 : decode cX3_copy 69 = .ok (.getfield 20, 3) := by decide +kernel
theorem dX3_copy_72 : decode cX3_copy 72 = .ok (.bipush 60, 2) := by decide +kernel
theorem dX3_copy_74 : decode cX3_copy 74 = .ok (.iload_n 2, 1) := by decide +kernel
theorem dX3_copy_75 : decode cX3_copy 75 = .ok (.imul, 1) := by decide +kernel
theorem dX3_copy_76 : decode cX3_copy 76 = .ok (.iload_n 3, 1) := by decide +kernel
theorem dX3_copy_77 : decode cX3_copy 77 = .ok (.iadd, 1) := by decide +kernel
theorem dX3_copy_78 : decode cX3_copy 78 = .ok (.aload_n 0, 1) := by decide +kernel
theorem dX3_copy_79 : decode cX3_copy 79 = .ok (.getfield 20, 3) := by decide +kernel
theorem dX3_copy_82 : decode cX3_copy 82 = .ok (.bipush 60, 2) := by decide +kernel
theorem dX3_copy_84 : decode cX3_copy 84 = .ok (.iload_n 1, 1) := by decide +kernel
theorem dX3_copy_85 : decode cX3_copy 85 = .ok (.imul, 1) := by decide +kernel
theorem dX3_copy_86 : decode cX3_copy 86 = .ok (.iload_n 3, 1) := by decide +kernel
theorem dX3_copy_87 : decode cX3_copy 87 = .ok (.iadd, 1) := by decide +kernel
theorem dX3_copy_88 : decode cX3_copy 88 = .ok (.laload, 1) := by decide +kernel
theorem dX3_copy_89 : decode cX3_copy 89 = .ok (.lastore, 1) := by decide +kernel
theorem dX3_copy_90 : decode cX3_copy 90 = .ok (.iinc 3 1, 3) := by decide +kernel
theorem dX3_copy_93 : decode cX3_copy 93 = .ok (.goto (-79), 3) := by decide +kernel
theorem dX3_copy_96 : decode cX3_copy 96 = .ok (.return_, 1) := by decide +kernel
theorem dX3_is_0 : decode cX3_is 0 = .ok (.iload_n 0, 1) := by decide +kernel
theorem dX3_is_1 : decode cX3_is 1 = .ok (.ifCond .lt 13, 3) := by decide +kernel
theorem dX3_is_4 : decode cX3_is 4 = .ok (.iload_n 0, 1) := by decide +kernel
theorem dX3_is_5 : decode cX3_is 5 = .ok (.bipush 16, 2) := by decide +kernel
theorem dX3_is_7 : decode cX3_is 7 = .ok (.if_icmp .ge 7, 3) := by decide +kernel
theorem dX3_is_10 : decode cX3_is 10 = .ok (.iconst 1, 1) := by decide +kernel
theorem dX3_is_11 : decode cX3_is 11 = .ok (.goto 4, 3) := by decide +kernel
theorem dX3_is_14 : decode cX3_is 14 = .ok (.iconst 0, 1) := by decide +kernel
theorem dX3_is_15 : decode cX3_is 15 = .ok (.ireturn, 1) := by decide +kernel
theorem dX3_constant_0 : decode cX3_constant 0 = .ok (.iload_n 1, 1) := by decide +kernel
theorem dX3_constant_1 : decode cX3_constant 1 = .ok (.invokestatic 94, 3) := by decide +kernel
theorem dX3_constant_4 : decode cX3_constant 4 = .ok (.ifCond .ne 5, 3) := by decide +kernel
theorem dX3_constant_7 : decode cX3_constant 7 = .ok (.iconst (-1), 1) := by decide +kernel
theorem dX3_constant_8 : decode cX3_constant 8 = .ok (.ireturn, 1) := by decide +kernel
theorem dX3_constant_9 : decode cX3_constant 9 = .ok (.aload_n 0, 1) := by decide +kernel
theorem dX3_constant_10 : decode cX3_constant 10 = .ok (.iload_n 1, 1) := by decide +kernel
theorem dX3_constant_11 : decode cX3_constant 11 = .ok (.iload_n 2, 1) := by decide +kernel
theorem dX3_constant_12 : decode cX3_constant 12 = .ok (.i2l, 1) := by decide +kernel
theorem dX3_constant_13 : decode cX3_constant 13 = .ok (.invokevirtual 97, 3) := by decide +kernel
theorem dX3_constant_16 : decode cX3_constant 16 = .ok (.ifCond .eq 12, 3) := by decide +kernel
theorem dX3_constant_19 : decode cX3_constant 19 = .ok (.aload_n 0, 1) := by decide +kernel
theorem dX3_constant_20 : decode cX3_constant 20 = .ok (.getfield 9, 3) := by decide +kernel
theorem dX3_constant_23 : decode cX3_constant 23 = .ok (.iload_n 1, 1) := by decide +kernel
theorem dX3_constant_24 : decode cX3_constant 24 = .ok (.iaload, 1) := by decide +kernel
theorem dX3_constant_25 : decode cX3_constant 25 = .ok (.goto 5, 3) := by decide +kernel
theorem dX3_constant_28 : decode cX3_constant 28 = .ok (.bipush (-2), 2) := by decide +kernel
theorem dX3_constant_30 : decode cX3_constant 30 = .ok (.ireturn, 1) := by decide +kernel
theorem dX3_symbol_0 : decode cX3_symbol 0 = .ok (.iload_n 1, 1) := by decide +kernel
theorem dX3_symbol_1 : decode cX3_symbol 1 = .ok (.invokestatic 94, 3) := by decide +kernel
theorem dX3_symbol_4 : decode cX3_symbol 4 = .ok (.ifCond .eq 10, 3) := by decide +kernel
theorem dX3_symbol_7 : decode cX3_symbol 7 = .ok (.iload_n 2, 1) := by decide +kernel
theorem dX3_symbol_8 : decode cX3_symbol 8 = .ok (.invokestatic 94, 3) := by decide +kernel
theorem dX3_symbol_11 : decode cX3_symbol 11 = .ok (.ifCond .ne 5, 3) := by decide +kernel
theorem dX3_symbol_14 : decode cX3_symbol 14 = .ok (.iconst (-1), 1) := by decide +kernel
theorem dX3_symbol_15 : decode cX3_symbol 15 = .ok (.ireturn, 1) := by decide +kernel
theorem dX3_symbol_16 : decode cX3_symbol 16 = .ok (.aload_n 0, 1) := by decide +kernel
theorem dX3_symbol_17 : decode cX3_symbol 17 = .ok (.invokevirtual 79, 3) := by decide +kernel
theorem dX3_symbol_20 : decode cX3_symbol 20 = .ok (.aload_n 0, 1) := by decide +kernel
theorem dX3_symbol_21 : decode cX3_symbol 21 = .ok (.lconst 1, 1) := by decide +kernel
theorem dX3_symbol_22 : decode cX3_symbol 22 = .ok (.iload_n 2, 1) := by decide +kernel
theorem dX3_symbol_23 : decode cX3_symbol 23 = .ok (.bipush 8, 2) := by decide +kernel
theorem dX3_symbol_25 : decode cX3_symbol 25 = .ok (.if_icmp .ge 15, 3) := by decide +kernel
theorem dX3_symbol_28 : decode cX3_symbol 28 = .ok (.lconst 1, 1) := by decide +kernel
theorem dX3_symbol_29 : decode cX3_symbol 29 = .ok (.bipush 56, 2) := by decide +kernel
theorem dX3_symbol_31 : decode cX3_symbol 31 = .ok (.bipush 8, 2) := by decide +kernel
theorem dX3_symbol_33 : decode cX3_symbol 33 = .ok (.iload_n 2, 1) := by decide +kernel
theorem dX3_symbol_34 : decode cX3_symbol 34 = .ok (.imul, 1) := by decide +kernel
theorem dX3_symbol_35 : decode cX3_symbol 35 = .ok (.isub, 1) := by decide +kernel
theorem dX3_symbol_36 : decode cX3_symbol 36 = .ok (.lshl, 1) := by decide +kernel
theorem dX3_symbol_37 : decode cX3_symbol 37 = .ok (.goto 4, 3) := by decide +kernel
theorem dX3_symbol_40 : decode cX3_symbol 40 = .ok (.lconst 0, 1) := by decide +kernel
theorem dX3_symbol_41 : decode cX3_symbol 41 = .ok (.iload_n 2, 1) := by decide +kernel
theorem dX3_symbol_42 : decode cX3_symbol 42 = .ok (.bipush 8, 2) := by decide +kernel
theorem dX3_symbol_44 : decode cX3_symbol 44 = .ok (.if_icmp .ge 7, 3) := by decide +kernel
theorem dX3_symbol_47 : decode cX3_symbol 47 = .ok (.lconst 0, 1) := by decide +kernel
theorem dX3_symbol_48 : decode cX3_symbol 48 = .ok (.goto 15, 3) := by decide +kernel
theorem dX3_symbol_51 : decode cX3_symbol 51 = .ok (.lconst 1, 1) := by decide +kernel
theorem dX3_symbol_52 : decode cX3_symbol 52 = .ok (.bipush 56, 2) := by decide +kernel
theorem dX3_symbol_54 : decode cX3_symbol 54 = .ok (.bipush 8, 2) := by decide +kernel
theorem dX3_symbol_56 : decode cX3_symbol 56 = .ok (.iload_n 2, 1) := by decide +kernel
theorem dX3_symbol_57 : decode cX3_symbol 57 = .ok (.bipush 8, 2) := by decide +kernel
theorem dX3_symbol_59 : decode cX3_symbol 59 = .ok (.isub, 1) := by decide +kernel
theorem dX3_symbol_60 : decode cX3_symbol 60 = .ok (.imul, 1) := by decide +kernel
theorem dX3_symbol_61 : decode cX3_symbol 61 = .ok (.isub, 1) := by decide +kernel
theorem dX3_symbol_62 : decode cX3_symbol 62 = .ok (.lshl, 1) := by decide +kernel
theorem dX3_symbol_63 : decode cX3_symbol 63 = .ok (.invokevirtual 75, 3) := by decide +kernel
theorem dX3_symbol_66 : decode cX3_symbol 66 = .ok (.aload_n 0, 1) := by decide +kernel
theorem dX3_symbol_67 : decode cX3_symbol 67 = .ok (.iload_n 1, 1) := by decide +kernel
theorem dX3_symbol_68 : decode cX3_symbol 68 = .ok (.invokevirtual 86, 3) := by decide +kernel
theorem dX3_symbol_71 : decode cX3_symbol 71 = .ok (.pop, 1) := by decide +kernel
theorem dX3_symbol_72 : decode cX3_symbol 72 = .ok (.iconst 1, 1) := by decide +kernel
theorem dX3_symbol_73 : decode cX3_symbol 73 = .ok (.ireturn, 1) := by decide +kernel
theorem dX3_plus_0 : decode cX3_plus 0 = .ok (.iload_n 1, 1) := by decide +kernel
theorem dX3_plus_1 : decode cX3_plus 1 = .ok (.invokestatic 94, 3) := by decide +kernel
theorem dX3_plus_4 : decode cX3_plus 4 = .ok (.ifCond .eq 17, 3) := by decide +kernel
theorem dX3_plus_7 : decode cX3_plus 7 = .ok (.iload_n 2, 1) := by decide +kernel
theorem dX3_plus_8 : decode cX3_plus 8 = .ok (.invokestatic 94, 3) := by decide +kernel
theorem dX3_plus_11 : decode cX3_plus 11 = .ok (.ifCond .eq 10, 3) := by decide +kernel
theorem dX3_plus_14 : decode cX3_plus 14 = .ok (.iload_n 3, 1) := by decide +kernel
theorem dX3_plus_15 : decode cX3_plus 15 = .ok (.invokestatic 94, 3) := by decide +kernel
theorem dX3_plus_18 : decode cX3_plus 18 = .ok (.ifCond .ne 5, 3) := by decide +kernel
theorem dX3_plus_21 : decode cX3_plus 21 = .ok (.iconst (-1), 1) := by decide +kernel
theorem dX3_plus_22 : decode cX3_plus 22 = .ok (.ireturn, 1) := by decide +kernel
theorem dX3_plus_23 : decode cX3_plus 23 = .ok (.aload_n 0, 1) := by decide +kernel
theorem dX3_plus_24 : decode cX3_plus 24 = .ok (.iload_n 1, 1) := by decide +kernel
theorem dX3_plus_25 : decode cX3_plus 25 = .ok (.iload_n 2, 1) := by decide +kernel
theorem dX3_plus_26 : decode cX3_plus 26 = .ok (.iload_n 3, 1) := by decide +kernel
theorem dX3_plus_27 : decode cX3_plus 27 = .ok (.lconst 1, 1) := by decide +kernel
theorem dX3_plus_28 : decode cX3_plus 28 = .ok (.invokevirtual 101, 3) := by decide +kernel
theorem dX3_plus_31 : decode cX3_plus 31 = .ok (.ifCond .eq 12, 3) := by decide +kernel
theorem dX3_plus_34 : decode cX3_plus 34 = .ok (.aload_n 0, 1) := by decide +kernel
theorem dX3_plus_35 : decode cX3_plus 35 = .ok (.getfield 9, 3) := by decide +kernel
theorem dX3_plus_38 : decode cX3_plus 38 = .ok (.iload_n 1, 1) := by decide +kernel
theorem dX3_plus_39 : decode cX3_plus 39 = .ok (.iaload, 1) := by decide +kernel
theorem dX3_plus_40 : decode cX3_plus 40 = .ok (.goto 5, 3) := by decide +kernel
theorem dX3_plus_43 : decode cX3_plus 43 = .ok (.bipush (-2), 2) := by decide +kernel
theorem dX3_plus_45 : decode cX3_plus 45 = .ok (.ireturn, 1) := by decide +kernel
theorem dX3_minus_0 : decode cX3_minus 0 = .ok (.iload_n 1, 1) := by decide +kernel
theorem dX3_minus_1 : decode cX3_minus 1 = .ok (.invokestatic 94, 3) := by decide +kernel
theorem dX3_minus_4 : decode cX3_minus 4 = .ok (.ifCond .eq 17, 3) := by decide +kernel
theorem dX3_minus_7 : decode cX3_minus 7 = .ok (.iload_n 2, 1) := by decide +kernel
theorem dX3_minus_8 : decode cX3_minus 8 = .ok (.invokestatic 94, 3) := by decide +kernel
theorem dX3_minus_11 : decode cX3_minus 11 = .ok (.ifCond .eq 10, 3) := by decide +kernel
theorem dX3_minus_14 : decode cX3_minus 14 = .ok (.iload_n 3, 1) := by decide +kernel
theorem dX3_minus_15 : decode cX3_minus 15 = .ok (.invokestatic 94, 3) := by decide +kernel
theorem dX3_minus_18 : decode cX3_minus 18 = .ok (.ifCond .ne 5, 3) := by decide +kernel
theorem dX3_minus_21 : decode cX3_minus 21 = .ok (.iconst (-1), 1) := by decide +kernel
theorem dX3_minus_22 : decode cX3_minus 22 = .ok (.ireturn, 1) := by decide +kernel
theorem dX3_minus_23 : decode cX3_minus 23 = .ok (.aload_n 0, 1) := by decide +kernel
theorem dX3_minus_24 : decode cX3_minus 24 = .ok (.iload_n 1, 1) := by decide +kernel
theorem dX3_minus_25 : decode cX3_minus 25 = .ok (.iload_n 2, 1) := by decide +kernel
theorem dX3_minus_26 : decode cX3_minus 26 = .ok (.iload_n 3, 1) := by decide +kernel
theorem dX3_minus_27 : decode cX3_minus 27 = .ok (.ldc2_w 105, 3) := by decide +kernel
theorem dX3_minus_30 : decode cX3_minus 30 = .ok (.invokevirtual 101, 3) := by decide +kernel
theorem dX3_minus_33 : decode cX3_minus 33 = .ok (.ifCond .eq 12, 3) := by decide +kernel
theorem dX3_minus_36 : decode cX3_minus 36 = .ok (.aload_n 0, 1) := by decide +kernel
theorem dX3_minus_37 : decode cX3_minus 37 = .ok (.getfield 9, 3) := by decide +kernel
theorem dX3_minus_40 : decode cX3_minus 40 = .ok (.iload_n 1, 1) := by decide +kernel
theorem dX3_minus_41 : decode cX3_minus 41 = .ok (.iaload, 1) := by decide +kernel
theorem dX3_minus_42 : decode cX3_minus 42 = .ok (.goto 5, 3) := by decide +kernel
theorem dX3_minus_45 : decode cX3_minus 45 = .ok (.bipush (-2), 2) := by decide +kernel
theorem dX3_minus_47 : decode cX3_minus 47 = .ok (.ireturn, 1) := by decide +kernel
theorem dX3_times_0 : decode cX3_times 0 = .ok (.iload_n 1, 1) := by decide +kernel
theorem dX3_times_1 : decode cX3_times 1 = .ok (.invokestatic 94, 3) := by decide +kernel
theorem dX3_times_4 : decode cX3_times 4 = .ok (.ifCond .eq 17, 3) := by decide +kernel
theorem dX3_times_7 : decode cX3_times 7 = .ok (.iload_n 2, 1) := by decide +kernel
theorem dX3_times_8 : decode cX3_times 8 = .ok (.invokestatic 94, 3) := by decide +kernel
theorem dX3_times_11 : decode cX3_times 11 = .ok (.ifCond .eq 10, 3) := by decide +kernel
theorem dX3_times_14 : decode cX3_times 14 = .ok (.iload_n 3, 1) := by decide +kernel
theorem dX3_times_15 : decode cX3_times 15 = .ok (.invokestatic 94, 3) := by decide +kernel
theorem dX3_times_18 : decode cX3_times 18 = .ok (.ifCond .ne 5, 3) := by decide +kernel
theorem dX3_times_21 : decode cX3_times 21 = .ok (.iconst (-1), 1) := by decide +kernel
theorem dX3_times_22 : decode cX3_times 22 = .ok (.ireturn, 1) := by decide +kernel
theorem dX3_times_23 : decode cX3_times 23 = .ok (.aload_n 0, 1) := by decide +kernel
theorem dX3_times_24 : decode cX3_times 24 = .ok (.iload_n 1, 1) := by decide +kernel
theorem dX3_times_25 : decode cX3_times 25 = .ok (.iload_n 2, 1) := by decide +kernel
theorem dX3_times_26 : decode cX3_times 26 = .ok (.iload_n 3, 1) := by decide +kernel
theorem dX3_times_27 : decode cX3_times 27 = .ok (.invokevirtual 107, 3) := by decide +kernel
theorem dX3_times_30 : decode cX3_times 30 = .ok (.ifCond .eq 12, 3) := by decide +kernel
theorem dX3_times_33 : decode cX3_times 33 = .ok (.aload_n 0, 1) := by decide +kernel
theorem dX3_times_34 : decode cX3_times 34 = .ok (.getfield 9, 3) := by decide +kernel
theorem dX3_times_37 : decode cX3_times 37 = .ok (.iload_n 1, 1) := by decide +kernel
theorem dX3_times_38 : decode cX3_times 38 = .ok (.iaload, 1) := by decide +kernel
theorem dX3_times_39 : decode cX3_times 39 = .ok (.goto 5, 3) := by decide +kernel
theorem dX3_times_42 : decode cX3_times 42 = .ok (.bipush (-2), 2) := by decide +kernel
theorem dX3_times_44 : decode cX3_times 44 = .ok (.ireturn, 1) := by decide +kernel
theorem dX3_put_0 : decode cX3_put 0 = .ok (.iload_n 1, 1) := by decide +kernel
theorem dX3_put_1 : decode cX3_put 1 = .ok (.invokestatic 94, 3) := by decide +kernel
theorem dX3_put_4 : decode cX3_put 4 = .ok (.ifCond .eq 10, 3) := by decide +kernel
theorem dX3_put_7 : decode cX3_put 7 = .ok (.iload_n 2, 1) := by decide +kernel
theorem dX3_put_8 : decode cX3_put 8 = .ok (.invokestatic 94, 3) := by decide +kernel
theorem dX3_put_11 : decode cX3_put 11 = .ok (.ifCond .ne 5, 3) := by decide +kernel
theorem dX3_put_14 : decode cX3_put 14 = .ok (.iconst (-1), 1) := by decide +kernel
theorem dX3_put_15 : decode cX3_put 15 = .ok (.ireturn, 1) := by decide +kernel
theorem dX3_put_16 : decode cX3_put 16 = .ok (.aload_n 0, 1) := by decide +kernel
theorem dX3_put_17 : decode cX3_put 17 = .ok (.getfield 9, 3) := by decide +kernel
theorem dX3_put_20 : decode cX3_put 20 = .ok (.bipush 56, 2) := by decide +kernel
theorem dX3_put_22 : decode cX3_put 22 = .ok (.iconst 0, 1) := by decide +kernel
theorem dX3_put_23 : decode cX3_put 23 = .ok (.iastore, 1) := by decide +kernel
theorem dX3_put_24 : decode cX3_put 24 = .ok (.bipush 60, 2) := by decide +kernel
theorem dX3_put_26 : decode cX3_put 26 = .ok (.iload_n 2, 1) := by decide +kernel
theorem dX3_put_27 : decode cX3_put 27 = .ok (.imul, 1) := by decide +kernel
theorem dX3_put_28 : decode cX3_put 28 = .ok (.istore_n 3, 1) := by decide +kernel
theorem dX3_put_29 : decode cX3_put 29 = .ok (.iload_n 3, 1) := by decide +kernel
theorem dX3_put_30 : decode cX3_put 30 = .ok (.bipush 60, 2) := by decide +kernel
theorem dX3_put_32 : decode cX3_put 32 = .ok (.iload_n 2, 1) := by decide +kernel
theorem dX3_put_33 : decode cX3_put 33 = .ok (.imul, 1) := by decide +kernel
theorem dX3_put_34 : decode cX3_put 34 = .ok (.aload_n 0, 1) := by decide +kernel
theorem dX3_put_35 : decode cX3_put 35 = .ok (.getfield 9, 3) := by decide +kernel
theorem dX3_put_38 : decode cX3_put 38 = .ok (.iload_n 2, 1) := by decide +kernel
theorem dX3_put_39 : decode cX3_put 39 = .ok (.iaload, 1) := by decide +kernel
theorem dX3_put_40 : decode cX3_put 40 = .ok (.iadd, 1) := by decide +kernel
theorem dX3_put_41 : decode cX3_put 41 = .ok (.if_icmp .ge 99, 3) := by decide +kernel
theorem dX3_put_44 : decode cX3_put 44 = .ok (.aload_n 0, 1) := by decide +kernel
theorem dX3_put_45 : decode cX3_put 45 = .ok (.bipush 57, 2) := by decide +kernel
theorem dX3_put_47 : decode cX3_put 47 = .ok (.aload_n 0, 1) := by decide +kernel
theorem dX3_put_48 : decode cX3_put 48 = .ok (.getfield 13, 3) := by decide +kernel
theorem dX3_put_51 : decode cX3_put 51 = .ok (.iload_n 3, 1) := by decide +kernel
theorem dX3_put_52 : decode cX3_put 52 = .ok (.laload, 1) := by decide +kernel
theorem dX3_put_53 : decode cX3_put 53 = .ok (.invokevirtual 97, 3) := by decide +kernel
theorem dX3_put_56 : decode cX3_put 56 = .ok (.istore 4, 2) := by decide +kernel
theorem dX3_put_58 : decode cX3_put 58 = .ok (.iconst 0, 1) := by decide +kernel
theorem dX3_put_59 : decode cX3_put 59 = .ok (.istore 5, 2) := by decide +kernel
theorem dX3_put_61 : decode cX3_put 61 = .ok (.iload 5, 2) := by decide +kernel
theorem dX3_put_63 : decode cX3_put 63 = .ok (.bipush 16, 2) := by decide +kernel
theorem dX3_put_65 : decode cX3_put 65 = .ok (.if_icmp .ge 47, 3) := by decide +kernel
theorem dX3_put_68 : decode cX3_put 68 = .ok (.iconst 0, 1) := by decide +kernel
theorem dX3_put_69 : decode cX3_put 69 = .ok (.istore 6, 2) := by decide +kernel
theorem dX3_put_71 : decode cX3_put 71 = .ok (.iload 6, 2) := by decide +kernel
theorem dX3_put_73 : decode cX3_put 73 = .ok (.aload_n 0, 1) := by decide +kernel
theorem dX3_put_74 : decode cX3_put 74 = .ok (.iload_n 3, 1) := by decide +kernel
theorem dX3_put_75 : decode cX3_put 75 = .ok (.iload 5, 2) := by decide +kernel
theorem dX3_put_77 : decode cX3_put 77 = .ok (.invokevirtual 111, 3) := by decide +kernel
theorem dX3_put_80 : decode cX3_put 80 = .ok (.if_icmp .ge 26, 3) := by decide +kernel
theorem dX3_put_83 : decode cX3_put 83 = .ok (.iload 4, 2) := by decide +kernel
theorem dX3_put_85 : decode cX3_put 85 = .ok (.ifCond .eq 21, 3) := by decide +kernel
theorem dX3_put_88 : decode cX3_put 88 = .ok (.aload_n 0, 1) := by decide +kernel
theorem dX3_put_89 : decode cX3_put 89 = .ok (.bipush 57, 2) := by decide +kernel
theorem dX3_put_91 : decode cX3_put 91 = .ok (.bipush 57, 2) := by decide +kernel
theorem dX3_put_93 : decode cX3_put 93 = .ok (.iload 5, 2) := by decide +kernel
theorem dX3_put_95 : decode cX3_put 95 = .ok (.invokevirtual 107, 3) := by decide +kernel
theorem dX3_put_98 : decode cX3_put 98 = .ok (.istore 4, 2) := by decide +kernel
theorem dX3_put_100 : decode cX3_put 100 = .ok (.iinc 6 1, 3) := by decide +kernel
theorem dX3_put_103 : decode cX3_put 103 = .ok (.goto (-32), 3) := by decide +kernel
theorem dX3_put_106 : decode cX3_put 106 = .ok (.iinc 5 1, 3) := by decide +kernel
theorem dX3_put_109 : decode cX3_put 109 = .ok (.goto (-48), 3) := by decide +kernel
theorem dX3_put_112 : decode cX3_put 112 = .ok (.iload 4, 2) := by decide +kernel
theorem dX3_put_114 : decode cX3_put 114 = .ok (.ifCond .eq 17, 3) := by decide +kernel
theorem dX3_put_117 : decode cX3_put 117 = .ok (.aload_n 0, 1) := by decide +kernel
theorem dX3_put_118 : decode cX3_put 118 = .ok (.bipush 56, 2) := by decide +kernel
theorem dX3_put_120 : decode cX3_put 120 = .ok (.bipush 56, 2) := by decide +kernel
theorem dX3_put_122 : decode cX3_put 122 = .ok (.bipush 57, 2) := by decide +kernel
theorem dX3_put_124 : decode cX3_put 124 = .ok (.lconst 1, 1) := by decide +kernel
theorem dX3_put_125 : decode cX3_put 125 = .ok (.invokevirtual 101, 3) := by decide +kernel
theorem dX3_put_128 : decode cX3_put 128 = .ok (.ifCond .ne 6, 3) := by decide +kernel
theorem dX3_put_131 : decode cX3_put 131 = .ok (.bipush (-2), 2) := by decide +kernel
theorem dX3_put_133 : decode cX3_put 133 = .ok (.ireturn, 1) := by decide +kernel
theorem dX3_put_134 : decode cX3_put 134 = .ok (.iinc 3 1, 3) := by decide +kernel
theorem dX3_put_137 : decode cX3_put 137 = .ok (.goto (-108), 3) := by decide +kernel
theorem dX3_put_140 : decode cX3_put 140 = .ok (.aload_n 0, 1) := by decide +kernel
theorem dX3_put_141 : decode cX3_put 141 = .ok (.bipush 56, 2) := by decide +kernel
theorem dX3_put_143 : decode cX3_put 143 = .ok (.iload_n 1, 1) := by decide +kernel
theorem dX3_put_144 : decode cX3_put 144 = .ok (.invokevirtual 115, 3) := by decide +kernel
theorem dX3_put_147 : decode cX3_put 147 = .ok (.aload_n 0, 1) := by decide +kernel
theorem dX3_put_148 : decode cX3_put 148 = .ok (.getfield 9, 3) := by decide +kernel
theorem dX3_put_151 : decode cX3_put 151 = .ok (.iload_n 1, 1) := by decide +kernel
theorem dX3_put_152 : decode cX3_put 152 = .ok (.iaload, 1) := by decide +kernel
theorem dX3_put_153 : decode cX3_put 153 = .ok (.ireturn, 1) := by decide +kernel
theorem dX3_size_0 : decode cX3_size 0 = .ok (.iload_n 1, 1) := by decide +kernel
theorem dX3_size_1 : decode cX3_size 1 = .ok (.invokestatic 94, 3) := by decide +kernel
theorem dX3_size_4 : decode cX3_size 4 = .ok (.ifCond .eq 12, 3) := by decide +kernel
theorem dX3_size_7 : decode cX3_size 7 = .ok (.aload_n 0, 1) := by decide +kernel
theorem dX3_size_8 : decode cX3_size 8 = .ok (.getfield 9, 3) := by decide +kernel
theorem dX3_size_11 : decode cX3_size 11 = .ok (.iload_n 1, 1) := by decide +kernel
theorem dX3_size_12 : decode cX3_size 12 = .ok (.iaload, 1) := by decide +kernel
theorem dX3_size_13 : decode cX3_size 13 = .ok (.goto 4, 3) := by decide +kernel
theorem dX3_size_16 : decode cX3_size 16 = .ok (.iconst (-1), 1) := by decide +kernel
theorem dX3_size_17 : decode cX3_size 17 = .ok (.ireturn, 1) := by decide +kernel
theorem dX3_term_0 : decode cX3_term 0 = .ok (.iload_n 1, 1) := by decide +kernel
theorem dX3_term_1 : decode cX3_term 1 = .ok (.invokestatic 94, 3) := by decide +kernel
theorem dX3_term_4 : decode cX3_term 4 = .ok (.ifCond .eq 28, 3) := by decide +kernel
theorem dX3_term_7 : decode cX3_term 7 = .ok (.iload_n 2, 1) := by decide +kernel
theorem dX3_term_8 : decode cX3_term 8 = .ok (.ifCond .lt 24, 3) := by decide +kernel
theorem dX3_term_11 : decode cX3_term 11 = .ok (.iload_n 2, 1) := by decide +kernel
theorem dX3_term_12 : decode cX3_term 12 = .ok (.aload_n 0, 1) := by decide +kernel
theorem dX3_term_13 : decode cX3_term 13 = .ok (.getfield 9, 3) := by decide +kernel
theorem dX3_term_16 : decode cX3_term 16 = .ok (.iload_n 1, 1) := by decide +kernel
theorem dX3_term_17 : decode cX3_term 17 = .ok (.iaload, 1) := by decide +kernel
theorem dX3_term_18 : decode cX3_term 18 = .ok (.if_icmp .ge 14, 3) := by decide +kernel
theorem dX3_term_21 : decode cX3_term 21 = .ok (.iload_n 3, 1) := by decide +kernel
theorem dX3_term_22 : decode cX3_term 22 = .ok (.iconst (-1), 1) := by decide +kernel
theorem dX3_term_23 : decode cX3_term 23 = .ok (.if_icmp .lt 9, 3) := by decide +kernel
theorem dX3_term_26 : decode cX3_term 26 = .ok (.iload_n 3, 1) := by decide +kernel
theorem dX3_term_27 : decode cX3_term 27 = .ok (.bipush 15, 2) := by decide +kernel
theorem dX3_term_29 : decode cX3_term 29 = .ok (.if_icmp .le 5, 3) := by decide +kernel
theorem dX3_term_32 : decode cX3_term 32 = .ok (.iconst 0, 1) := by decide +kernel
theorem dX3_term_33 : decode cX3_term 33 = .ok (.ireturn, 1) := by decide +kernel
theorem dX3_term_34 : decode cX3_term 34 = .ok (.iload_n 3, 1) := by decide +kernel
theorem dX3_term_35 : decode cX3_term 35 = .ok (.iconst (-1), 1) := by decide +kernel
theorem dX3_term_36 : decode cX3_term 36 = .ok (.if_icmp .ne 18, 3) := by decide +kernel
theorem dX3_term_39 : decode cX3_term 39 = .ok (.aload_n 0, 1) := by decide +kernel
theorem dX3_term_40 : decode cX3_term 40 = .ok (.getfield 13, 3) := by decide +kernel
theorem dX3_term_43 : decode cX3_term 43 = .ok (.bipush 60, 2) := by decide +kernel
theorem dX3_term_45 : decode cX3_term 45 = .ok (.iload_n 1, 1) := by decide +kernel
theorem dX3_term_46 : decode cX3_term 46 = .ok (.imul, 1) := by decide +kernel
theorem dX3_term_47 : decode cX3_term 47 = .ok (.iload_n 2, 1) := by decide +kernel
theorem dX3_term_48 : decode cX3_term 48 = .ok (.iadd, 1) := by decide +kernel
theorem dX3_term_49 : decode cX3_term 49 = .ok (.laload, 1) := by decide +kernel
theorem dX3_term_50 : decode cX3_term 50 = .ok (.l2i, 1) := by decide +kernel
theorem dX3_term_51 : decode cX3_term 51 = .ok (.goto 14, 3) := by decide +kernel
theorem dX3_term_54 : decode cX3_term 54 = .ok (.aload_n 0, 1) := by decide +kernel
theorem dX3_term_55 : decode cX3_term 55 = .ok (.bipush 60, 2) := by decide +kernel
theorem dX3_term_57 : decode cX3_term 57 = .ok (.iload_n 1, 1) := by decide +kernel
theorem dX3_term_58 : decode cX3_term 58 = .ok (.imul, 1) := by decide +kernel
theorem dX3_term_59 : decode cX3_term 59 = .ok (.iload_n 2, 1) := by decide +kernel
theorem dX3_term_60 : decode cX3_term 60 = .ok (.iadd, 1) := by decide +kernel
theorem dX3_term_61 : decode cX3_term 61 = .ok (.iload_n 3, 1) := by decide +kernel
theorem dX3_term_62 : decode cX3_term 62 = .ok (.invokevirtual 111, 3) := by decide +kernel
theorem dX3_term_65 : decode cX3_term 65 = .ok (.ireturn, 1) := by decide +kernel
theorem dX3_isSame_0 : decode cX3_isSame 0 = .ok (.aload_n 0, 1) := by decide +kernel
theorem dX3_isSame_1 : decode cX3_isSame 1 = .ok (.getfield 9, 3) := by decide +kernel
theorem dX3_isSame_4 : decode cX3_isSame 4 = .ok (.iload_n 1, 1) := by decide +kernel
theorem dX3_isSame_5 : decode cX3_isSame 5 = .ok (.iaload, 1) := by decide +kernel
theorem dX3_isSame_6 : decode cX3_isSame 6 = .ok (.aload_n 0, 1) := by decide +kernel
theorem dX3_isSame_7 : decode cX3_isSame 7 = .ok (.getfield 9, 3) := by decide +kernel
theorem dX3_isSame_10 : decode cX3_isSame 10 = .ok (.iload_n 2, 1) := by decide +kernel
theorem dX3_isSame_11 : decode cX3_isSame 11 = .ok (.iaload, 1) := by decide +kernel
theorem dX3_isSame_12 : decode cX3_isSame 12 = .ok (.if_icmp .ne 7, 3) := by decide +kernel
theorem dX3_isSame_15 : decode cX3_isSame 15 = .ok (.iconst 1, 1) := by decide +kernel
theorem dX3_isSame_16 : decode cX3_isSame 16 = .ok (.goto 4, 3) := by decide +kernel
theorem dX3_isSame_19 : decode cX3_isSame 19 = .ok (.iconst 0, 1) := by decide +kernel
theorem dX3_isSame_20 : decode cX3_isSame 20 = .ok (.istore_n 3, 1) := by decide +kernel
theorem dX3_isSame_21 : decode cX3_isSame 21 = .ok (.iconst 0, 1) := by decide +kernel
theorem dX3_isSame_22 : decode cX3_isSame 22 = .ok (.istore 4, 2) := by decide +kernel
theorem dX3_isSame_24 : decode cX3_isSame 24 = .ok (.iload 4, 2) := by decide +kernel
theorem dX3_isSame_26 : decode cX3_isSame 26 = .ok (.aload_n 0, 1) := by decide +kernel
theorem dX3_isSame_27 : decode cX3_isSame 27 = .ok (.getfield 9, 3) := by decide +kernel
theorem dX3_isSame_30 : decode cX3_isSame 30 = .ok (.iload_n 1, 1) := by decide +kernel
theorem dX3_isSame_31 : decode cX3_isSame 31 = .ok (.iaload, 1) := by decide +kernel
theorem dX3_isSame_32 : decode cX3_isSame 32 = .ok (.if_icmp .ge 91, 3) := by decide +kernel
theorem dX3_isSame_35 : decode cX3_isSame 35 = .ok (.iload_n 3, 1) := by decide +kernel
theorem dX3_isSame_36 : decode cX3_isSame 36 = .ok (.ifCond .eq 87, 3) := by decide +kernel
theorem dX3_isSame_39 : decode cX3_isSame 39 = .ok (.bipush 60, 2) := by decide +kernel
theorem dX3_isSame_41 : decode cX3_isSame 41 = .ok (.iload_n 1, 1) := by decide +kernel
theorem dX3_isSame_42 : decode cX3_isSame 42 = .ok (.imul, 1) := by decide +kernel
theorem dX3_isSame_43 : decode cX3_isSame 43 = .ok (.iload 4, 2) := by decide +kernel
theorem dX3_isSame_45 : decode cX3_isSame 45 = .ok (.iadd, 1) := by decide +kernel
theorem dX3_isSame_46 : decode cX3_isSame 46 = .ok (.istore 5, 2) := by decide +kernel
theorem dX3_isSame_48 : decode cX3_isSame 48 = .ok (.bipush 60, 2) := by decide +kernel
theorem dX3_isSame_50 : decode cX3_isSame 50 = .ok (.iload_n 2, 1) := by decide +kernel
theorem dX3_isSame_51 : decode cX3_isSame 51 = .ok (.imul, 1) := by decide +kernel
theorem dX3_isSame_52 : decode cX3_isSame 52 = .ok (.iload 4, 2) := by decide +kernel
theorem dX3_isSame_54 : decode cX3_isSame 54 = .ok (.iadd, 1) := by decide +kernel
theorem dX3_isSame_55 : decode cX3_isSame 55 = .ok (.istore 6, 2) := by decide +kernel
theorem dX3_isSame_57 : decode cX3_isSame 57 = .ok (.aload_n 0, 1) := by decide +kernel
theorem dX3_isSame_58 : decode cX3_isSame 58 = .ok (.getfield 13, 3) := by decide +kernel
theorem dX3_isSame_61 : decode cX3_isSame 61 = .ok (.iload 5, 2) := by decide +kernel
theorem dX3_isSame_63 : decode cX3_isSame 63 = .ok (.laload, 1) := by decide +kernel
theorem dX3_isSame_64 : decode cX3_isSame 64 = .ok (.aload_n 0, 1) := by decide +kernel
theorem dX3_isSame_65 : decode cX3_isSame 65 = .ok (.getfield 13, 3) := by decide +kernel
theorem dX3_isSame_68 : decode cX3_isSame 68 = .ok (.iload 6, 2) := by decide +kernel
theorem dX3_isSame_70 : decode cX3_isSame 70 = .ok (.laload, 1) := by decide +kernel
theorem dX3_isSame_71 : decode cX3_isSame 71 = .ok (.lcmp, 1) := by decide +kernel
theorem dX3_isSame_72 : decode cX3_isSame 72 = .ok (.ifCond .ne 43, 3) := by decide +kernel
theorem dX3_isSame_75 : decode cX3_isSame 75 = .ok (.aload_n 0, 1) := by decide +kernel
theorem dX3_isSame_76 : decode cX3_isSame 76 = .ok (.getfield 17, 3) := by decide +kernel
theorem dX3_isSame_79 : decode cX3_isSame 79 = .ok (.iload 5, 2) := by decide +kernel
theorem dX3_isSame_81 : decode cX3_isSame 81 = .ok (.laload, 1) := by decide +kernel
theorem dX3_isSame_82 : decode cX3_isSame 82 = .ok (.aload_n 0, 1) := by decide +kernel
theorem dX3_isSame_83 : decode cX3_isSame 83 = .ok (.getfield 17, 3) := by decide +kernel
theorem dX3_isSame_86 : decode cX3_isSame 86 = .ok (.iload 6, 2) := by decide +kernel
theorem dX3_isSame_88 : decode cX3_isSame 88 = .ok (.laload, 1) := by decide +kernel
theorem dX3_isSame_89 : decode cX3_isSame 89 = .ok (.lcmp, 1) := by decide +kernel
theorem dX3_isSame_90 : decode cX3_isSame 90 = .ok (.ifCond .ne 25, 3) := by decide +kernel
theorem dX3_isSame_93 : decode cX3_isSame 93 = .ok (.aload_n 0, 1) := by decide +kernel
theorem dX3_isSame_94 : decode cX3_isSame 94 = .ok (.getfield 20, 3) := by decide +kernel
theorem dX3_isSame_97 : decode cX3_isSame 97 = .ok (.iload 5, 2) := by decide +kernel
theorem dX3_isSame_99 : decode cX3_isSame 99 = .ok (.laload, 1) := by decide +kernel
theorem dX3_isSame_100 : decode cX3_isSame 100 = .ok (.aload_n 0, 1) := by decide +kernel
theorem dX3_isSame_101 : decode cX3_isSame 101 = .ok (.getfield 20, 3) := by decide +kernel
theorem dX3_isSame_104 : decode cX3_isSame 104 = .ok (.iload 6, 2) := by decide +kernel
theorem dX3_isSame_106 : decode cX3_isSame 106 = .ok (.laload, 1) := by decide +kernel
theorem dX3_isSame_107 : decode cX3_isSame 107 = .ok (.lcmp, 1) := by decide +kernel
theorem dX3_isSame_108 : decode cX3_isSame 108 = .ok (.ifCond .ne 7, 3) := by decide +kernel
theorem dX3_isSame_111 : decode cX3_isSame 111 = .ok (.iconst 1, 1) := by decide +kernel
theorem dX3_isSame_112 : decode cX3_isSame 112 = .ok (.goto 4, 3) := by decide +kernel
theorem dX3_isSame_115 : decode cX3_isSame 115 = .ok (.iconst 0, 1) := by decide +kernel
theorem dX3_isSame_116 : decode cX3_isSame 116 = .ok (.istore_n 3, 1) := by decide +kernel
theorem dX3_isSame_117 : decode cX3_isSame 117 = .ok (.iinc 4 1, 3) := by decide +kernel
theorem dX3_isSame_120 : decode cX3_isSame 120 = .ok (.goto (-96), 3) := by decide +kernel
theorem dX3_isSame_123 : decode cX3_isSame 123 = .ok (.iload_n 3, 1) := by decide +kernel
theorem dX3_isSame_124 : decode cX3_isSame 124 = .ok (.ireturn, 1) := by decide +kernel
theorem dX3_same_0 : decode cX3_same 0 = .ok (.iload_n 1, 1) := by decide +kernel
theorem dX3_same_1 : decode cX3_same 1 = .ok (.invokestatic 94, 3) := by decide +kernel
theorem dX3_same_4 : decode cX3_same 4 = .ok (.ifCond .eq 10, 3) := by decide +kernel
theorem dX3_same_7 : decode cX3_same 7 = .ok (.iload_n 2, 1) := by decide +kernel
theorem dX3_same_8 : decode cX3_same 8 = .ok (.invokestatic 94, 3) := by decide +kernel
theorem dX3_same_11 : decode cX3_same 11 = .ok (.ifCond .ne 7, 3) := by decide +kernel
theorem dX3_same_14 : decode cX3_same 14 = .ok (.iconst (-1), 1) := by decide +kernel
theorem dX3_same_15 : decode cX3_same 15 = .ok (.goto 17, 3) := by decide +kernel
theorem dX3_same_18 : decode cX3_same 18 = .ok (.aload_n 0, 1) := by decide +kernel
theorem dX3_same_19 : decode cX3_same 19 = .ok (.iload_n 1, 1) := by decide +kernel
theorem dX3_same_20 : decode cX3_same 20 = .ok (.iload_n 2, 1) := by decide +kernel
theorem dX3_same_21 : decode cX3_same 21 = .ok (.invokevirtual 118, 3) := by decide +kernel
theorem dX3_same_24 : decode cX3_same 24 = .ok (.ifCond .eq 7, 3) := by decide +kernel
theorem dX3_same_27 : decode cX3_same 27 = .ok (.iconst 1, 1) := by decide +kernel
theorem dX3_same_28 : decode cX3_same 28 = .ok (.goto 4, 3) := by decide +kernel
theorem dX3_same_31 : decode cX3_same 31 = .ok (.iconst 0, 1) := by decide +kernel
theorem dX3_same_32 : decode cX3_same 32 = .ok (.ireturn, 1) := by decide +kernel
theorem dX3_value_0 : decode cX3_value 0 = .ok (.iload_n 1, 1) := by decide +kernel
theorem dX3_value_1 : decode cX3_value 1 = .ok (.invokestatic 94, 3) := by decide +kernel
theorem dX3_value_4 : decode cX3_value 4 = .ok (.ifCond .ne 5, 3) := by decide +kernel
theorem dX3_value_7 : decode cX3_value 7 = .ok (.lconst 0, 1) := by decide +kernel
theorem dX3_value_8 : decode cX3_value 8 = .ok (.lreturn, 1) := by decide +kernel
theorem dX3_value_9 : decode cX3_value 9 = .ok (.lconst 0, 1) := by decide +kernel
theorem dX3_value_10 : decode cX3_value 10 = .ok (.lstore_n 3, 1) := by decide +kernel
theorem dX3_value_11 : decode cX3_value 11 = .ok (.bipush 60, 2) := by decide +kernel
theorem dX3_value_13 : decode cX3_value 13 = .ok (.iload_n 1, 1) := by decide +kernel
theorem dX3_value_14 : decode cX3_value 14 = .ok (.imul, 1) := by decide +kernel
theorem dX3_value_15 : decode cX3_value 15 = .ok (.istore 5, 2) := by decide +kernel
theorem dX3_value_17 : decode cX3_value 17 = .ok (.iload 5, 2) := by decide +kernel
theorem dX3_value_19 : decode cX3_value 19 = .ok (.bipush 60, 2) := by decide +kernel
theorem dX3_value_21 : decode cX3_value 21 = .ok (.iload_n 1, 1) := by decide +kernel
theorem dX3_value_22 : decode cX3_value 22 = .ok (.imul, 1) := by decide +kernel
theorem dX3_value_23 : decode cX3_value 23 = .ok (.aload_n 0, 1) := by decide +kernel
theorem dX3_value_24 : decode cX3_value 24 = .ok (.getfield 9, 3) := by decide +kernel
theorem dX3_value_27 : decode cX3_value 27 = .ok (.iload_n 1, 1) := by decide +kernel
theorem dX3_value_28 : decode cX3_value 28 = .ok (.iaload, 1) := by decide +kernel
theorem dX3_value_29 : decode cX3_value 29 = .ok (.iadd, 1) := by decide +kernel
theorem dX3_value_30 : decode cX3_value 30 = .ok (.if_icmp .ge 65, 3) := by decide +kernel
theorem dX3_value_33 : decode cX3_value 33 = .ok (.aload_n 0, 1) := by decide +kernel
theorem dX3_value_34 : decode cX3_value 34 = .ok (.getfield 13, 3) := by decide +kernel
theorem dX3_value_37 : decode cX3_value 37 = .ok (.iload 5, 2) := by decide +kernel
theorem dX3_value_39 : decode cX3_value 39 = .ok (.laload, 1) := by decide +kernel
theorem dX3_value_40 : decode cX3_value 40 = .ok (.lstore 6, 2) := by decide +kernel
theorem dX3_value_42 : decode cX3_value 42 = .ok (.aload_n 0, 1) := by decide +kernel
theorem dX3_value_43 : decode cX3_value 43 = .ok (.getfield 17, 3) := by decide +kernel
theorem dX3_value_46 : decode cX3_value 46 = .ok (.iload 5, 2) := by decide +kernel
theorem dX3_value_48 : decode cX3_value 48 = .ok (.laload, 1) := by decide +kernel
theorem dX3_value_49 : decode cX3_value 49 = .ok (.aload_n 0, 1) := by decide +kernel
theorem dX3_value_50 : decode cX3_value 50 = .ok (.getfield 20, 3) := by decide +kernel
theorem dX3_value_53 : decode cX3_value 53 = .ok (.iload 5, 2) := by decide +kernel
theorem dX3_value_55 : decode cX3_value 55 = .ok (.laload, 1) := by decide +kernel
theorem dX3_value_56 : decode cX3_value 56 = .ok (.invokestatic 59, 3) := by decide +kernel
theorem dX3_value_59 : decode cX3_value 59 = .ok (.istore 8, 2) := by decide +kernel
theorem dX3_value_61 : decode cX3_value 61 = .ok (.iconst 0, 1) := by decide +kernel
theorem dX3_value_62 : decode cX3_value 62 = .ok (.istore 9, 2) := by decide +kernel
theorem dX3_value_64 : decode cX3_value 64 = .ok (.iload 9, 2) := by decide +kernel
theorem dX3_value_66 : decode cX3_value 66 = .ok (.iload 8, 2) := by decide +kernel
theorem dX3_value_68 : decode cX3_value 68 = .ok (.if_icmp .ge 16, 3) := by decide +kernel
theorem dX3_value_71 : decode cX3_value 71 = .ok (.lload 6, 2) := by decide +kernel
theorem dX3_value_73 : decode cX3_value 73 = .ok (.iload_n 2, 1) := by decide +kernel
theorem dX3_value_74 : decode cX3_value 74 = .ok (.i2l, 1) := by decide +kernel
theorem dX3_value_75 : decode cX3_value 75 = .ok (.lmul, 1) := by decide +kernel
theorem dX3_value_76 : decode cX3_value 76 = .ok (.lstore 6, 2) := by decide +kernel
theorem dX3_value_78 : decode cX3_value 78 = .ok (.iinc 9 1, 3) := by decide +kernel
theorem dX3_value_81 : decode cX3_value 81 = .ok (.goto (-17), 3) := by decide +kernel
theorem dX3_value_84 : decode cX3_value 84 = .ok (.lload_n 3, 1) := by decide +kernel
theorem dX3_value_85 : decode cX3_value 85 = .ok (.lload 6, 2) := by decide +kernel
theorem dX3_value_87 : decode cX3_value 87 = .ok (.ladd, 1) := by decide +kernel
theorem dX3_value_88 : decode cX3_value 88 = .ok (.lstore_n 3, 1) := by decide +kernel
theorem dX3_value_89 : decode cX3_value 89 = .ok (.iinc 5 1, 3) := by decide +kernel
theorem dX3_value_92 : decode cX3_value 92 = .ok (.goto (-75), 3) := by decide +kernel
theorem dX3_value_95 : decode cX3_value 95 = .ok (.lload_n 3, 1) := by decide +kernel
theorem dX3_value_96 : decode cX3_value 96 = .ok (.lreturn, 1) := by decide +kernel
theorem dX3_hypothesis_0 : decode cX3_hypothesis 0 = .ok (.iload_n 1, 1) := by decide +kernel
theorem dX3_hypothesis_1 : decode cX3_hypothesis 1 = .ok (.invokestatic 94, 3) := by decide +kernel
theorem dX3_hypothesis_4 : decode cX3_hypothesis 4 = .ok (.ifCond .eq 12, 3) := by decide +kernel
theorem dX3_hypothesis_7 : decode cX3_hypothesis 7 = .ok (.aload_n 0, 1) := by decide +kernel
theorem dX3_hypothesis_8 : decode cX3_hypothesis 8 = .ok (.getfield 121, 3) := by decide +kernel
theorem dX3_hypothesis_11 : decode cX3_hypothesis 11 = .ok (.bipush 40, 2) := by decide +kernel
theorem dX3_hypothesis_13 : decode cX3_hypothesis 13 = .ok (.if_icmp .ne 5, 3) := by decide +kernel
theorem dX3_hypothesis_16 : decode cX3_hypothesis 16 = .ok (.iconst (-1), 1) := by decide +kernel
theorem dX3_hypothesis_17 : decode cX3_hypothesis 17 = .ok (.ireturn, 1) := by decide +kernel
theorem dX3_hypothesis_18 : decode cX3_hypothesis 18 = .ok (.aload_n 0, 1) := by decide +kernel
theorem dX3_hypothesis_19 : decode cX3_hypothesis 19 = .ok (.iload_n 1, 1) := by decide +kernel
theorem dX3_hypothesis_20 : decode cX3_hypothesis 20 = .ok (.bipush 16, 2) := by decide +kernel
theorem dX3_hypothesis_22 : decode cX3_hypothesis 22 = .ok (.aload_n 0, 1) := by decide +kernel
theorem dX3_hypothesis_23 : decode cX3_hypothesis 23 = .ok (.getfield 121, 3) := by decide +kernel
theorem dX3_hypothesis_26 : decode cX3_hypothesis 26 = .ok (.iadd, 1) := by decide +kernel
theorem dX3_hypothesis_27 : decode cX3_hypothesis 27 = .ok (.invokevirtual 115, 3) := by decide +kernel
theorem dX3_hypothesis_30 : decode cX3_hypothesis 30 = .ok (.aload_n 0, 1) := by decide +kernel
theorem dX3_hypothesis_31 : decode cX3_hypothesis 31 = .ok (.dup, 1) := by decide +kernel
theorem dX3_hypothesis_32 : decode cX3_hypothesis 32 = .ok (.getfield 121, 3) := by decide +kernel
theorem dX3_hypothesis_35 : decode cX3_hypothesis 35 = .ok (.iconst 1, 1) := by decide +kernel
theorem dX3_hypothesis_36 : decode cX3_hypothesis 36 = .ok (.iadd, 1) := by decide +kernel
theorem dX3_hypothesis_37 : decode cX3_hypothesis 37 = .ok (.putfield 121, 3) := by decide +kernel
theorem dX3_hypothesis_40 : decode cX3_hypothesis 40 = .ok (.aload_n 0, 1) := by decide +kernel
theorem dX3_hypothesis_41 : decode cX3_hypothesis 41 = .ok (.getfield 121, 3) := by decide +kernel
theorem dX3_hypothesis_44 : decode cX3_hypothesis 44 = .ok (.iconst 1, 1) := by decide +kernel
theorem dX3_hypothesis_45 : decode cX3_hypothesis 45 = .ok (.isub, 1) := by decide +kernel
theorem dX3_hypothesis_46 : decode cX3_hypothesis 46 = .ok (.ireturn, 1) := by decide +kernel
theorem dX3_keep_0 : decode cX3_keep 0 = .ok (.iload_n 1, 1) := by decide +kernel
theorem dX3_keep_1 : decode cX3_keep 1 = .ok (.ifCond .lt 11, 3) := by decide +kernel
theorem dX3_keep_4 : decode cX3_keep 4 = .ok (.iload_n 1, 1) := by decide +kernel
theorem dX3_keep_5 : decode cX3_keep 5 = .ok (.aload_n 0, 1) := by decide +kernel
theorem dX3_keep_6 : decode cX3_keep 6 = .ok (.getfield 121, 3) := by decide +kernel
theorem dX3_keep_9 : decode cX3_keep 9 = .ok (.if_icmp .le 5, 3) := by decide +kernel
theorem dX3_keep_12 : decode cX3_keep 12 = .ok (.iconst (-1), 1) := by decide +kernel
theorem dX3_keep_13 : decode cX3_keep 13 = .ok (.ireturn, 1) := by decide +kernel
theorem dX3_keep_14 : decode cX3_keep 14 = .ok (.aload_n 0, 1) := by decide +kernel
theorem dX3_keep_15 : decode cX3_keep 15 = .ok (.iload_n 1, 1) := by decide +kernel
theorem dX3_keep_16 : decode cX3_keep 16 = .ok (.putfield 121, 3) := by decide +kernel
theorem dX3_keep_19 : decode cX3_keep 19 = .ok (.iload_n 1, 1) := by decide +kernel
theorem dX3_keep_20 : decode cX3_keep 20 = .ok (.ireturn, 1) := by decide +kernel
theorem dX3_part_0 : decode cX3_part 0 = .ok (.iload_n 1, 1) := by decide +kernel
theorem dX3_part_1 : decode cX3_part 1 = .ok (.ifCond .lt 40, 3) := by decide +kernel
theorem dX3_part_4 : decode cX3_part 4 = .ok (.iload_n 1, 1) := by decide +kernel
theorem dX3_part_5 : decode cX3_part 5 = .ok (.ldc 124, 2) := by decide +kernel
theorem dX3_part_7 : decode cX3_part 7 = .ok (.if_icmp .gt 34, 3) := by decide +kernel
theorem dX3_part_10 : decode cX3_part 10 = .ok (.iload_n 2, 1) := by decide +kernel
theorem dX3_part_11 : decode cX3_part 11 = .ok (.iconst (-1), 1) := by decide +kernel
theorem dX3_part_12 : decode cX3_part 12 = .ok (.if_icmp .lt 29, 3) := by decide +kernel
theorem dX3_part_15 : decode cX3_part 15 = .ok (.iload_n 3, 1) := by decide +kernel
theorem dX3_part_16 : decode cX3_part 16 = .ok (.iconst (-1), 1) := by decide +kernel
theorem dX3_part_17 : decode cX3_part 17 = .ok (.if_icmp .lt 24, 3) := by decide +kernel
theorem dX3_part_20 : decode cX3_part 20 = .ok (.iload 4, 2) := by decide +kernel
theorem dX3_part_22 : decode cX3_part 22 = .ok (.iconst (-1), 1) := by decide +kernel
theorem dX3_part_23 : decode cX3_part 23 = .ok (.if_icmp .lt 18, 3) := by decide +kernel
theorem dX3_part_26 : decode cX3_part 26 = .ok (.iload 5, 2) := by decide +kernel
theorem dX3_part_28 : decode cX3_part 28 = .ok (.iconst (-1), 1) := by decide +kernel
theorem dX3_part_29 : decode cX3_part 29 = .ok (.if_icmp .lt 12, 3) := by decide +kernel
theorem dX3_part_32 : decode cX3_part 32 = .ok (.aload_n 0, 1) := by decide +kernel
theorem dX3_part_33 : decode cX3_part 33 = .ok (.getfield 125, 3) := by decide +kernel
theorem dX3_part_36 : decode cX3_part 36 = .ok (.bipush 20, 2) := by decide +kernel
theorem dX3_part_38 : decode cX3_part 38 = .ok (.if_icmp .ne 5, 3) := by decide +kernel
theorem dX3_part_41 : decode cX3_part 41 = .ok (.iconst (-1), 1) := by decide +kernel
theorem dX3_part_42 : decode cX3_part 42 = .ok (.ireturn, 1) := by decide +kernel
theorem dX3_part_43 : decode cX3_part 43 = .ok (.aload_n 0, 1) := by decide +kernel
theorem dX3_part_44 : decode cX3_part 44 = .ok (.getfield 23, 3) := by decide +kernel
theorem dX3_part_47 : decode cX3_part 47 = .ok (.aload_n 0, 1) := by decide +kernel
theorem dX3_part_48 : decode cX3_part 48 = .ok (.getfield 125, 3) := by decide +kernel
theorem dX3_part_51 : decode cX3_part 51 = .ok (.iload_n 1, 1) := by decide +kernel
theorem dX3_part_52 : decode cX3_part 52 = .ok (.iastore, 1) := by decide +kernel
theorem dX3_part_53 : decode cX3_part 53 = .ok (.aload_n 0, 1) := by decide +kernel
theorem dX3_part_54 : decode cX3_part 54 = .ok (.getfield 26, 3) := by decide +kernel
theorem dX3_part_57 : decode cX3_part 57 = .ok (.aload_n 0, 1) := by decide +kernel
theorem dX3_part_58 : decode cX3_part 58 = .ok (.getfield 125, 3) := by decide +kernel
theorem dX3_part_61 : decode cX3_part 61 = .ok (.iload_n 2, 1) := by decide +kernel
theorem dX3_part_62 : decode cX3_part 62 = .ok (.iastore, 1) := by decide +kernel
theorem dX3_part_63 : decode cX3_part 63 = .ok (.aload_n 0, 1) := by decide +kernel
theorem dX3_part_64 : decode cX3_part 64 = .ok (.getfield 29, 3) := by decide +kernel
theorem dX3_part_67 : decode cX3_part 67 = .ok (.aload_n 0, 1) := by decide +kernel
theorem dX3_part_68 : decode cX3_part 68 = .ok (.getfield 125, 3) := by decide +kernel
theorem dX3_part_71 : decode cX3_part 71 = .ok (.iload_n 3, 1) := by decide +kernel
theorem dX3_part_72 : decode cX3_part 72 = .ok (.iastore, 1) := by decide +kernel
theorem dX3_part_73 : decode cX3_part 73 = .ok (.aload_n 0, 1) := by decide +kernel
theorem dX3_part_74 : decode cX3_part 74 = .ok (.getfield 32, 3) := by decide +kernel
theorem dX3_part_77 : decode cX3_part 77 = .ok (.aload_n 0, 1) := by decide +kernel
theorem dX3_part_78 : decode cX3_part 78 = .ok (.getfield 125, 3) := by decide +kernel
theorem dX3_part_81 : decode cX3_part 81 = .ok (.iload 4, 2) := by decide +kernel
theorem dX3_part_83 : decode cX3_part 83 = .ok (.iastore, 1) := by decide +kernel
theorem dX3_part_84 : decode cX3_part 84 = .ok (.aload_n 0, 1) := by decide +kernel
theorem dX3_part_85 : decode cX3_part 85 = .ok (.getfield 35, 3) := by decide +kernel
theorem dX3_part_88 : decode cX3_part 88 = .ok (.aload_n 0, 1) := by decide +kernel
theorem dX3_part_89 : decode cX3_part 89 = .ok (.getfield 125, 3) := by decide +kernel
theorem dX3_part_92 : decode cX3_part 92 = .ok (.iload 5, 2) := by decide +kernel
theorem dX3_part_94 : decode cX3_part 94 = .ok (.iastore, 1) := by decide +kernel
theorem dX3_part_95 : decode cX3_part 95 = .ok (.aload_n 0, 1) := by decide +kernel
theorem dX3_part_96 : decode cX3_part 96 = .ok (.dup, 1) := by decide +kernel
theorem dX3_part_97 : decode cX3_part 97 = .ok (.getfield 125, 3) := by decide +kernel
theorem dX3_part_100 : decode cX3_part 100 = .ok (.iconst 1, 1) := by decide +kernel
theorem dX3_part_101 : decode cX3_part 101 = .ok (.iadd, 1) := by decide +kernel
theorem dX3_part_102 : decode cX3_part 102 = .ok (.putfield 125, 3) := by decide +kernel
theorem dX3_part_105 : decode cX3_part 105 = .ok (.aload_n 0, 1) := by decide +kernel
theorem dX3_part_106 : decode cX3_part 106 = .ok (.getfield 125, 3) := by decide +kernel
theorem dX3_part_109 : decode cX3_part 109 = .ok (.ireturn, 1) := by decide +kernel
theorem dX3_hypOf_0 : decode cX3_hypOf 0 = .ok (.iload_n 2, 1) := by decide +kernel
theorem dX3_hypOf_1 : decode cX3_hypOf 1 = .ok (.ifCond .ne 12, 3) := by decide +kernel
theorem dX3_hypOf_4 : decode cX3_hypOf 4 = .ok (.aload_n 0, 1) := by decide +kernel
theorem dX3_hypOf_5 : decode cX3_hypOf 5 = .ok (.getfield 26, 3) := by decide +kernel
theorem dX3_hypOf_8 : decode cX3_hypOf 8 = .ok (.iload_n 1, 1) := by decide +kernel
theorem dX3_hypOf_9 : decode cX3_hypOf 9 = .ok (.iaload, 1) := by decide +kernel
theorem dX3_hypOf_10 : decode cX3_hypOf 10 = .ok (.goto 37, 3) := by decide +kernel
theorem dX3_hypOf_13 : decode cX3_hypOf 13 = .ok (.iload_n 2, 1) := by decide +kernel
theorem dX3_hypOf_14 : decode cX3_hypOf 14 = .ok (.iconst 1, 1) := by decide +kernel
theorem dX3_hypOf_15 : decode cX3_hypOf 15 = .ok (.if_icmp .ne 12, 3) := by decide +kernel
theorem dX3_hypOf_18 : decode cX3_hypOf 18 = .ok (.aload_n 0, 1) := by decide +kernel
theorem dX3_hypOf_19 : decode cX3_hypOf 19 = .ok (.getfield 29, 3) := by decide +kernel
theorem dX3_hypOf_22 : decode cX3_hypOf 22 = .ok (.iload_n 1, 1) := by decide +kernel
theorem dX3_hypOf_23 : decode cX3_hypOf 23 = .ok (.iaload, 1) := by decide +kernel
theorem dX3_hypOf_24 : decode cX3_hypOf 24 = .ok (.goto 23, 3) := by decide +kernel
theorem dX3_hypOf_27 : decode cX3_hypOf 27 = .ok (.iload_n 2, 1) := by decide +kernel
theorem dX3_hypOf_28 : decode cX3_hypOf 28 = .ok (.iconst 2, 1) := by decide +kernel
theorem dX3_hypOf_29 : decode cX3_hypOf 29 = .ok (.if_icmp .ne 12, 3) := by decide +kernel
theorem dX3_hypOf_32 : decode cX3_hypOf 32 = .ok (.aload_n 0, 1) := by decide +kernel
theorem dX3_hypOf_33 : decode cX3_hypOf 33 = .ok (.getfield 32, 3) := by decide +kernel
theorem dX3_hypOf_36 : decode cX3_hypOf 36 = .ok (.iload_n 1, 1) := by decide +kernel
theorem dX3_hypOf_37 : decode cX3_hypOf 37 = .ok (.iaload, 1) := by decide +kernel
theorem dX3_hypOf_38 : decode cX3_hypOf 38 = .ok (.goto 9, 3) := by decide +kernel
theorem dX3_hypOf_41 : decode cX3_hypOf 41 = .ok (.aload_n 0, 1) := by decide +kernel
theorem dX3_hypOf_42 : decode cX3_hypOf 42 = .ok (.getfield 35, 3) := by decide +kernel
theorem dX3_hypOf_45 : decode cX3_hypOf 45 = .ok (.iload_n 1, 1) := by decide +kernel
theorem dX3_hypOf_46 : decode cX3_hypOf 46 = .ok (.iaload, 1) := by decide +kernel
theorem dX3_hypOf_47 : decode cX3_hypOf 47 = .ok (.ireturn, 1) := by decide +kernel
theorem dX3_show_0 : decode cX3_show 0 = .ok (.iload_n 1, 1) := by decide +kernel
theorem dX3_show_1 : decode cX3_show 1 = .ok (.invokestatic 94, 3) := by decide +kernel
theorem dX3_show_4 : decode cX3_show 4 = .ok (.ifCond .eq 14, 3) := by decide +kernel
theorem dX3_show_7 : decode cX3_show 7 = .ok (.iload_n 2, 1) := by decide +kernel
theorem dX3_show_8 : decode cX3_show 8 = .ok (.iconst 1, 1) := by decide +kernel
theorem dX3_show_9 : decode cX3_show 9 = .ok (.if_icmp .lt 9, 3) := by decide +kernel
theorem dX3_show_12 : decode cX3_show 12 = .ok (.iload_n 2, 1) := by decide +kernel
theorem dX3_show_13 : decode cX3_show 13 = .ok (.ldc 124, 2) := by decide +kernel
theorem dX3_show_15 : decode cX3_show 15 = .ok (.if_icmp .le 5, 3) := by decide +kernel
theorem dX3_show_18 : decode cX3_show 18 = .ok (.iconst (-1), 1) := by decide +kernel
theorem dX3_show_19 : decode cX3_show 19 = .ok (.ireturn, 1) := by decide +kernel
theorem dX3_show_20 : decode cX3_show 20 = .ok (.aload_n 0, 1) := by decide +kernel
theorem dX3_show_21 : decode cX3_show 21 = .ok (.getfield 125, 3) := by decide +kernel
theorem dX3_show_24 : decode cX3_show 24 = .ok (.istore_n 3, 1) := by decide +kernel
theorem dX3_show_25 : decode cX3_show 25 = .ok (.aload_n 0, 1) := by decide +kernel
theorem dX3_show_26 : decode cX3_show 26 = .ok (.iconst 0, 1) := by decide +kernel
theorem dX3_show_27 : decode cX3_show 27 = .ok (.putfield 125, 3) := by decide +kernel
theorem dX3_show_30 : decode cX3_show 30 = .ok (.iconst 0, 1) := by decide +kernel
theorem dX3_show_31 : decode cX3_show 31 = .ok (.istore 4, 2) := by decide +kernel
theorem dX3_show_33 : decode cX3_show 33 = .ok (.iload 4, 2) := by decide +kernel
theorem dX3_show_35 : decode cX3_show 35 = .ok (.iload_n 3, 1) := by decide +kernel
theorem dX3_show_36 : decode cX3_show 36 = .ok (.if_icmp .ge 41, 3) := by decide +kernel
theorem dX3_show_39 : decode cX3_show 39 = .ok (.iconst 0, 1) := by decide +kernel
theorem dX3_show_40 : decode cX3_show 40 = .ok (.istore 5, 2) := by decide +kernel
theorem dX3_show_42 : decode cX3_show 42 = .ok (.iload 5, 2) := by decide +kernel
theorem dX3_show_44 : decode cX3_show 44 = .ok (.iconst 4, 1) := by decide +kernel
theorem dX3_show_45 : decode cX3_show 45 = .ok (.if_icmp .ge 26, 3) := by decide +kernel
theorem dX3_show_48 : decode cX3_show 48 = .ok (.aload_n 0, 1) := by decide +kernel
theorem dX3_show_49 : decode cX3_show 49 = .ok (.iload 4, 2) := by decide +kernel
theorem dX3_show_51 : decode cX3_show 51 = .ok (.iload 5, 2) := by decide +kernel
theorem dX3_show_53 : decode cX3_show 53 = .ok (.invokevirtual 128, 3) := by decide +kernel
theorem dX3_show_56 : decode cX3_show 56 = .ok (.aload_n 0, 1) := by decide +kernel
theorem dX3_show_57 : decode cX3_show 57 = .ok (.getfield 121, 3) := by decide +kernel
theorem dX3_show_60 : decode cX3_show 60 = .ok (.if_icmp .lt 5, 3) := by decide +kernel
theorem dX3_show_63 : decode cX3_show 63 = .ok (.iconst 0, 1) := by decide +kernel
theorem dX3_show_64 : decode cX3_show 64 = .ok (.ireturn, 1) := by decide +kernel
theorem dX3_show_65 : decode cX3_show 65 = .ok (.iinc 5 1, 3) := by decide +kernel
theorem dX3_show_68 : decode cX3_show 68 = .ok (.goto (-26), 3) := by decide +kernel
theorem dX3_show_71 : decode cX3_show 71 = .ok (.iinc 4 1, 3) := by decide +kernel
theorem dX3_show_74 : decode cX3_show 74 = .ok (.goto (-41), 3) := by decide +kernel
theorem dX3_show_77 : decode cX3_show 77 = .ok (.aload_n 0, 1) := by decide +kernel
theorem dX3_show_78 : decode cX3_show 78 = .ok (.bipush 58, 2) := by decide +kernel
theorem dX3_show_80 : decode cX3_show 80 = .ok (.iload_n 2, 1) := by decide +kernel
theorem dX3_show_81 : decode cX3_show 81 = .ok (.i2l, 1) := by decide +kernel
theorem dX3_show_82 : decode cX3_show 82 = .ok (.invokevirtual 97, 3) := by decide +kernel
theorem dX3_show_85 : decode cX3_show 85 = .ok (.ifCond .eq 15, 3) := by decide +kernel
theorem dX3_show_88 : decode cX3_show 88 = .ok (.aload_n 0, 1) := by decide +kernel
theorem dX3_show_89 : decode cX3_show 89 = .ok (.bipush 58, 2) := by decide +kernel
theorem dX3_show_91 : decode cX3_show 91 = .ok (.bipush 58, 2) := by decide +kernel
theorem dX3_show_93 : decode cX3_show 93 = .ok (.iload_n 1, 1) := by decide +kernel
theorem dX3_show_94 : decode cX3_show 94 = .ok (.invokevirtual 107, 3) := by decide +kernel
theorem dX3_show_97 : decode cX3_show 97 = .ok (.ifCond .ne 6, 3) := by decide +kernel
theorem dX3_show_100 : decode cX3_show 100 = .ok (.bipush (-2), 2) := by decide +kernel
theorem dX3_show_102 : decode cX3_show 102 = .ok (.ireturn, 1) := by decide +kernel
theorem dX3_show_103 : decode cX3_show 103 = .ok (.aload_n 0, 1) := by decide +kernel
theorem dX3_show_104 : decode cX3_show 104 = .ok (.getfield 9, 3) := by decide +kernel
theorem dX3_show_107 : decode cX3_show 107 = .ok (.bipush 56, 2) := by decide +kernel
theorem dX3_show_109 : decode cX3_show 109 = .ok (.iconst 0, 1) := by decide +kernel
theorem dX3_show_110 : decode cX3_show 110 = .ok (.iastore, 1) := by decide +kernel
theorem dX3_show_111 : decode cX3_show 111 = .ok (.iconst 0, 1) := by decide +kernel
theorem dX3_show_112 : decode cX3_show 112 = .ok (.istore 4, 2) := by decide +kernel
theorem dX3_show_114 : decode cX3_show 114 = .ok (.iload 4, 2) := by decide +kernel
theorem dX3_show_116 : decode cX3_show 116 = .ok (.iload_n 3, 1) := by decide +kernel
theorem dX3_show_117 : decode cX3_show 117 = .ok (.if_icmp .ge 99, 3) := by decide +kernel
theorem dX3_show_120 : decode cX3_show 120 = .ok (.aload_n 0, 1) := by decide +kernel
theorem dX3_show_121 : decode cX3_show 121 = .ok (.bipush 57, 2) := by decide +kernel
theorem dX3_show_123 : decode cX3_show 123 = .ok (.aload_n 0, 1) := by decide +kernel
theorem dX3_show_124 : decode cX3_show 124 = .ok (.getfield 23, 3) := by decide +kernel
theorem dX3_show_127 : decode cX3_show 127 = .ok (.iload 4, 2) := by decide +kernel
theorem dX3_show_129 : decode cX3_show 129 = .ok (.iaload, 1) := by decide +kernel
theorem dX3_show_130 : decode cX3_show 130 = .ok (.i2l, 1) := by decide +kernel
theorem dX3_show_131 : decode cX3_show 131 = .ok (.invokevirtual 97, 3) := by decide +kernel
theorem dX3_show_134 : decode cX3_show 134 = .ok (.istore 5, 2) := by decide +kernel
theorem dX3_show_136 : decode cX3_show 136 = .ok (.iconst 0, 1) := by decide +kernel
theorem dX3_show_137 : decode cX3_show 137 = .ok (.istore 6, 2) := by decide +kernel
theorem dX3_show_139 : decode cX3_show 139 = .ok (.iload 6, 2) := by decide +kernel
theorem dX3_show_141 : decode cX3_show 141 = .ok (.iconst 4, 1) := by decide +kernel
theorem dX3_show_142 : decode cX3_show 142 = .ok (.if_icmp .ge 46, 3) := by decide +kernel
theorem dX3_show_145 : decode cX3_show 145 = .ok (.iload 5, 2) := by decide +kernel
theorem dX3_show_147 : decode cX3_show 147 = .ok (.ifCond .eq 41, 3) := by decide +kernel
theorem dX3_show_150 : decode cX3_show 150 = .ok (.aload_n 0, 1) := by decide +kernel
theorem dX3_show_151 : decode cX3_show 151 = .ok (.iload 4, 2) := by decide +kernel
theorem dX3_show_153 : decode cX3_show 153 = .ok (.iload 6, 2) := by decide +kernel
theorem dX3_show_155 : decode cX3_show 155 = .ok (.invokevirtual 128, 3) := by decide +kernel
theorem dX3_show_158 : decode cX3_show 158 = .ok (.ifCond .lt 24, 3) := by decide +kernel
theorem dX3_show_161 : decode cX3_show 161 = .ok (.aload_n 0, 1) := by decide +kernel
theorem dX3_show_162 : decode cX3_show 162 = .ok (.bipush 57, 2) := by decide +kernel
theorem dX3_show_164 : decode cX3_show 164 = .ok (.bipush 57, 2) := by decide +kernel
theorem dX3_show_166 : decode cX3_show 166 = .ok (.bipush 16, 2) := by decide +kernel
theorem dX3_show_168 : decode cX3_show 168 = .ok (.aload_n 0, 1) := by decide +kernel
theorem dX3_show_169 : decode cX3_show 169 = .ok (.iload 4, 2) := by decide +kernel
theorem dX3_show_171 : decode cX3_show 171 = .ok (.iload 6, 2) := by decide +kernel
theorem dX3_show_173 : decode cX3_show 173 = .ok (.invokevirtual 128, 3) := by decide +kernel
theorem dX3_show_176 : decode cX3_show 176 = .ok (.iadd, 1) := by decide +kernel
theorem dX3_show_177 : decode cX3_show 177 = .ok (.invokevirtual 107, 3) := by decide +kernel
theorem dX3_show_180 : decode cX3_show 180 = .ok (.istore 5, 2) := by decide +kernel
theorem dX3_show_182 : decode cX3_show 182 = .ok (.iinc 6 1, 3) := by decide +kernel
theorem dX3_show_185 : decode cX3_show 185 = .ok (.goto (-46), 3) := by decide +kernel
theorem dX3_show_188 : decode cX3_show 188 = .ok (.iload 5, 2) := by decide +kernel
theorem dX3_show_190 : decode cX3_show 190 = .ok (.ifCond .eq 17, 3) := by decide +kernel
theorem dX3_show_193 : decode cX3_show 193 = .ok (.aload_n 0, 1) := by decide +kernel
theorem dX3_show_194 : decode cX3_show 194 = .ok (.bipush 56, 2) := by decide +kernel
theorem dX3_show_196 : decode cX3_show 196 = .ok (.bipush 56, 2) := by decide +kernel
theorem dX3_show_198 : decode cX3_show 198 = .ok (.bipush 57, 2) := by decide +kernel
theorem dX3_show_200 : decode cX3_show 200 = .ok (.lconst 1, 1) := by decide +kernel
theorem dX3_show_201 : decode cX3_show 201 = .ok (.invokevirtual 101, 3) := by decide +kernel
theorem dX3_show_204 : decode cX3_show 204 = .ok (.ifCond .ne 6, 3) := by decide +kernel
theorem dX3_show_207 : decode cX3_show 207 = .ok (.bipush (-2), 2) := by decide +kernel
theorem dX3_show_209 : decode cX3_show 209 = .ok (.ireturn, 1) := by decide +kernel
theorem dX3_show_210 : decode cX3_show 210 = .ok (.iinc 4 1, 3) := by decide +kernel
theorem dX3_show_213 : decode cX3_show 213 = .ok (.goto (-99), 3) := by decide +kernel
theorem dX3_show_216 : decode cX3_show 216 = .ok (.aload_n 0, 1) := by decide +kernel
theorem dX3_show_217 : decode cX3_show 217 = .ok (.bipush 56, 2) := by decide +kernel
theorem dX3_show_219 : decode cX3_show 219 = .ok (.bipush 58, 2) := by decide +kernel
theorem dX3_show_221 : decode cX3_show 221 = .ok (.invokevirtual 118, 3) := by decide +kernel
theorem dX3_show_224 : decode cX3_show 224 = .ok (.ifCond .eq 7, 3) := by decide +kernel
theorem dX3_show_227 : decode cX3_show 227 = .ok (.iconst 1, 1) := by decide +kernel
theorem dX3_show_228 : decode cX3_show 228 = .ok (.goto 4, 3) := by decide +kernel
theorem dX3_show_231 : decode cX3_show 231 = .ok (.iconst 0, 1) := by decide +kernel
theorem dX3_show_232 : decode cX3_show 232 = .ok (.ireturn, 1) := by decide +kernel
theorem dX3_count_0 : decode cX3_count 0 = .ok (.iload_n 1, 1) := by decide +kernel
theorem dX3_count_1 : decode cX3_count 1 = .ok (.ifCond .ne 10, 3) := by decide +kernel
theorem dX3_count_4 : decode cX3_count 4 = .ok (.aload_n 0, 1) := by decide +kernel
theorem dX3_count_5 : decode cX3_count 5 = .ok (.getfield 121, 3) := by decide +kernel
theorem dX3_count_8 : decode cX3_count 8 = .ok (.goto 16, 3) := by decide +kernel
theorem dX3_count_11 : decode cX3_count 11 = .ok (.iload_n 1, 1) := by decide +kernel
theorem dX3_count_12 : decode cX3_count 12 = .ok (.iconst 1, 1) := by decide +kernel
theorem dX3_count_13 : decode cX3_count 13 = .ok (.if_icmp .ne 10, 3) := by decide +kernel
theorem dX3_count_16 : decode cX3_count 16 = .ok (.aload_n 0, 1) := by decide +kernel
theorem dX3_count_17 : decode cX3_count 17 = .ok (.getfield 125, 3) := by decide +kernel
theorem dX3_count_20 : decode cX3_count 20 = .ok (.goto 4, 3) := by decide +kernel
theorem dX3_count_23 : decode cX3_count 23 = .ok (.iconst (-1), 1) := by decide +kernel
theorem dX3_count_24 : decode cX3_count 24 = .ok (.ireturn, 1) := by decide +kernel
end
section
theorem dL_law_0 : decode cL_law 0 = .ok (.new 7, 3) := by decide +kernel
theorem dL_law_3 : decode cL_law 3 = .ok (.dup, 1) := by decide +kernel
theorem dL_law_4 : decode cL_law 4 = .ok (.invokespecial 9, 3) := by decide +kernel
theorem dL_law_7 : decode cL_law 7 = .ok (.astore_n 1, 1) := by decide +kernel
theorem dL_law_8 : decode cL_law 8 = .ok (.new 10, 3) := by decide +kernel
theorem dL_law_11 : decode cL_law 11 = .ok (.dup, 1) := by decide +kernel
theorem dL_law_12 : decode cL_law 12 = .ok (.invokespecial 12, 3) := by decide +kernel
theorem dL_law_15 : decode cL_law 15 = .ok (.astore_n 2, 1) := by decide +kernel
theorem dL_law_16 : decode cL_law 16 = .ok (.iconst 0, 1) := by decide +kernel
theorem dL_law_17 : decode cL_law 17 = .ok (.istore_n 3, 1) := by decide +kernel
theorem dL_law_18 : decode cL_law 18 = .ok (.iload_n 3, 1) := by decide +kernel
theorem dL_law_19 : decode cL_law 19 = .ok (.aload_n 0, 1) := by decide +kernel
theorem dL_law_20 : decode cL_law 20 = .ok (.arraylength, 1) := by decide +kernel
theorem dL_law_21 : decode cL_law 21 = .ok (.bipush 6, 2) := by decide +kernel
theorem dL_law_23 : decode cL_law 23 = .ok (.isub, 1) := by decide +kernel
theorem dL_law_24 : decode cL_law 24 = .ok (.if_icmp .gt 616, 3) := by decide +kernel
theorem dL_law_27 : decode cL_law 27 = .ok (.aload_n 0, 1) := by decide +kernel
theorem dL_law_28 : decode cL_law 28 = .ok (.iload_n 3, 1) := by decide +kernel
theorem dL_law_29 : decode cL_law 29 = .ok (.iaload, 1) := by decide +kernel
theorem dL_law_30 : decode cL_law 30 = .ok (.bipush 15, 2) := by decide +kernel
theorem dL_law_32 : decode cL_law 32 = .ok (.iand, 1) := by decide +kernel
theorem dL_law_33 : decode cL_law 33 = .ok (.tableswitch 601 0 14 #[75, 108, 141, 184, 227, 270, 303, 326, 369, 402, 436, 459, 482, 545, 578], 75) := by decide +kernel
theorem dL_law_108 : decode cL_law 108 = .ok (.aload_n 1, 1) := by decide +kernel
theorem dL_law_109 : decode cL_law 109 = .ok (.aload_n 0, 1) := by decide +kernel
theorem dL_law_110 : decode cL_law 110 = .ok (.iload_n 3, 1) := by decide +kernel
theorem dL_law_111 : decode cL_law 111 = .ok (.iconst 1, 1) := by decide +kernel
theorem dL_law_112 : decode cL_law 112 = .ok (.iadd, 1) := by decide +kernel
theorem dL_law_113 : decode cL_law 113 = .ok (.iaload, 1) := by decide +kernel
theorem dL_law_114 : decode cL_law 114 = .ok (.aload_n 0, 1) := by decide +kernel
theorem dL_law_115 : decode cL_law 115 = .ok (.iload_n 3, 1) := by decide +kernel
theorem dL_law_116 : decode cL_law 116 = .ok (.iconst 2, 1) := by decide +kernel
theorem dL_law_117 : decode cL_law 117 = .ok (.iadd, 1) := by decide +kernel
theorem dL_law_118 : decode cL_law 118 = .ok (.iaload, 1) := by decide +kernel
theorem dL_law_119 : decode cL_law 119 = .ok (.invokevirtual 13, 3) := by decide +kernel
theorem dL_law_122 : decode cL_law 122 = .ok (.aload_n 2, 1) := by decide +kernel
theorem dL_law_123 : decode cL_law 123 = .ok (.aload_n 0, 1) := by decide +kernel
theorem dL_law_124 : decode cL_law 124 = .ok (.iload_n 3, 1) := by decide +kernel
theorem dL_law_125 : decode cL_law 125 = .ok (.iconst 1, 1) := by decide +kernel
theorem dL_law_126 : decode cL_law 126 = .ok (.iadd, 1) := by decide +kernel
theorem dL_law_127 : decode cL_law 127 = .ok (.iaload, 1) := by decide +kernel
theorem dL_law_128 : decode cL_law 128 = .ok (.aload_n 0, 1) := by decide +kernel
theorem dL_law_129 : decode cL_law 129 = .ok (.iload_n 3, 1) := by decide +kernel
theorem dL_law_130 : decode cL_law 130 = .ok (.iconst 2, 1) := by decide +kernel
theorem dL_law_131 : decode cL_law 131 = .ok (.iadd, 1) := by decide +kernel
theorem dL_law_132 : decode cL_law 132 = .ok (.iaload, 1) := by decide +kernel
theorem dL_law_133 : decode cL_law 133 = .ok (.invokevirtual 17, 3) := by decide +kernel
theorem dL_law_136 : decode cL_law 136 = .ok (.if_icmp .eq 498, 3) := by decide +kernel
theorem dL_law_139 : decode cL_law 139 = .ok (.iconst 0, 1) := by decide +kernel
theorem dL_law_140 : decode cL_law 140 = .ok (.ireturn, 1) := by decide +kernel
theorem dL_law_141 : decode cL_law 141 = .ok (.aload_n 1, 1) := by decide +kernel
theorem dL_law_142 : decode cL_law 142 = .ok (.aload_n 0, 1) := by decide +kernel
theorem dL_law_143 : decode cL_law 143 = .ok (.iload_n 3, 1) := by decide +kernel
theorem dL_law_144 : decode cL_law 144 = .ok (.iconst 1, 1) := by decide +kernel
theorem dL_law_145 : decode cL_law 145 = .ok (.iadd, 1) := by decide +kernel
theorem dL_law_146 : decode cL_law 146 = .ok (.iaload, 1) := by decide +kernel
theorem dL_law_147 : decode cL_law 147 = .ok (.aload_n 0, 1) := by decide +kernel
theorem dL_law_148 : decode cL_law 148 = .ok (.iload_n 3, 1) := by decide +kernel
theorem dL_law_149 : decode cL_law 149 = .ok (.iconst 2, 1) := by decide +kernel
theorem dL_law_150 : decode cL_law 150 = .ok (.iadd, 1) := by decide +kernel
theorem dL_law_151 : decode cL_law 151 = .ok (.iaload, 1) := by decide +kernel
theorem dL_law_152 : decode cL_law 152 = .ok (.invokevirtual 18, 3) := by decide +kernel
theorem dL_law_155 : decode cL_law 155 = .ok (.aload_n 2, 1) := by decide +kernel
theorem dL_law_156 : decode cL_law 156 = .ok (.aload_n 0, 1) := by decide +kernel
theorem dL_law_157 : decode cL_law 157 = .ok (.iload_n 3, 1) := by decide +kernel
theorem dL_law_158 : decode cL_law 158 = .ok (.iconst 1, 1) := by decide +kernel
theorem dL_law_159 : decode cL_law 159 = .ok (.iadd, 1) := by decide +kernel
theorem dL_law_160 : decode cL_law 160 = .ok (.iaload, 1) := by decide +kernel
theorem dL_law_161 : decode cL_law 161 = .ok (.aload_n 0, 1) := by decide +kernel
theorem dL_law_162 : decode cL_law 162 = .ok (.iload_n 3, 1) := by decide +kernel
theorem dL_law_163 : decode cL_law 163 = .ok (.iconst 2, 1) := by decide +kernel
theorem dL_law_164 : decode cL_law 164 = .ok (.iadd, 1) := by decide +kernel
theorem dL_law_165 : decode cL_law 165 = .ok (.iaload, 1) := by decide +kernel
theorem dL_law_166 : decode cL_law 166 = .ok (.invokevirtual 21, 3) := by decide +kernel
theorem dL_law_169 : decode cL_law 169 = .ok (.if_icmp .eq 465, 3) := by decide +kernel
theorem dL_law_172 : decode cL_law 172 = .ok (.iconst 0, 1) := by decide +kernel
theorem dL_law_173 : decode cL_law 173 = .ok (.ireturn, 1) := by decide +kernel
theorem dL_law_174 : decode cL_law 174 = .ok (.aload_n 1, 1) := by decide +kernel
theorem dL_law_175 : decode cL_law 175 = .ok (.aload_n 0, 1) := by decide +kernel
theorem dL_law_176 : decode cL_law 176 = .ok (.iload_n 3, 1) := by decide +kernel
theorem dL_law_177 : decode cL_law 177 = .ok (.iconst 1, 1) := by decide +kernel
theorem dL_law_178 : decode cL_law 178 = .ok (.iadd, 1) := by decide +kernel
theorem dL_law_179 : decode cL_law 179 = .ok (.iaload, 1) := by decide +kernel
theorem dL_law_180 : decode cL_law 180 = .ok (.aload_n 0, 1) := by decide +kernel
theorem dL_law_181 : decode cL_law 181 = .ok (.iload_n 3, 1) := by decide +kernel
theorem dL_law_182 : decode cL_law 182 = .ok (.iconst 2, 1) := by decide +kernel
theorem dL_law_183 : decode cL_law 183 = .ok (.iadd, 1) := by decide +kernel
theorem dL_law_184 : decode cL_law 184 = .ok (.iaload, 1) := by decide +kernel
theorem dL_law_185 : decode cL_law 185 = .ok (.aload_n 0, 1) := by decide +kernel
theorem dL_law_186 : decode cL_law 186 = .ok (.iload_n 3, 1) := by decide +kernel
theorem dL_law_187 : decode cL_law 187 = .ok (.iconst 3, 1) := by decide +kernel
theorem dL_law_188 : decode cL_law 188 = .ok (.iadd, 1) := by decide +kernel
theorem dL_law_189 : decode cL_law 189 = .ok (.iaload, 1) := by decide +kernel
theorem dL_law_190 : decode cL_law 190 = .ok (.invokevirtual 22, 3) := by decide +kernel
theorem dL_law_193 : decode cL_law 193 = .ok (.aload_n 2, 1) := by decide +kernel
theorem dL_law_194 : decode cL_law 194 = .ok (.aload_n 0, 1) := by decide +kernel
theorem dL_law_195 : decode cL_law 195 = .ok (.iload_n 3, 1) := by decide +kernel
theorem dL_law_196 : decode cL_law 196 = .ok (.iconst 1, 1) := by decide +kernel
theorem dL_law_197 : decode cL_law 197 = .ok (.iadd, 1) := by decide +kernel
theorem dL_law_198 : decode cL_law 198 = .ok (.iaload, 1) := by decide +kernel
theorem dL_law_199 : decode cL_law 199 = .ok (.aload_n 0, 1) := by decide +kernel
theorem dL_law_200 : decode cL_law 200 = .ok (.iload_n 3, 1) := by decide +kernel
theorem dL_law_201 : decode cL_law 201 = .ok (.iconst 2, 1) := by decide +kernel
theorem dL_law_202 : decode cL_law 202 = .ok (.iadd, 1) := by decide +kernel
theorem dL_law_203 : decode cL_law 203 = .ok (.iaload, 1) := by decide +kernel
theorem dL_law_204 : decode cL_law 204 = .ok (.aload_n 0, 1) := by decide +kernel
theorem dL_law_205 : decode cL_law 205 = .ok (.iload_n 3, 1) := by decide +kernel
theorem dL_law_206 : decode cL_law 206 = .ok (.iconst 3, 1) := by decide +kernel
theorem dL_law_207 : decode cL_law 207 = .ok (.iadd, 1) := by decide +kernel
theorem dL_law_208 : decode cL_law 208 = .ok (.iaload, 1) := by decide +kernel
theorem dL_law_209 : decode cL_law 209 = .ok (.invokevirtual 26, 3) := by decide +kernel
theorem dL_law_212 : decode cL_law 212 = .ok (.if_icmp .eq 422, 3) := by decide +kernel
theorem dL_law_215 : decode cL_law 215 = .ok (.iconst 0, 1) := by decide +kernel
theorem dL_law_216 : decode cL_law 216 = .ok (.ireturn, 1) := by decide +kernel
theorem dL_law_217 : decode cL_law 217 = .ok (.aload_n 1, 1) := by decide +kernel
theorem dL_law_218 : decode cL_law 218 = .ok (.aload_n 0, 1) := by decide +kernel
theorem dL_law_219 : decode cL_law 219 = .ok (.iload_n 3, 1) := by decide +kernel
theorem dL_law_220 : decode cL_law 220 = .ok (.iconst 1, 1) := by decide +kernel
theorem dL_law_221 : decode cL_law 221 = .ok (.iadd, 1) := by decide +kernel
theorem dL_law_222 : decode cL_law 222 = .ok (.iaload, 1) := by decide +kernel
theorem dL_law_223 : decode cL_law 223 = .ok (.aload_n 0, 1) := by decide +kernel
theorem dL_law_224 : decode cL_law 224 = .ok (.iload_n 3, 1) := by decide +kernel
theorem dL_law_225 : decode cL_law 225 = .ok (.iconst 2, 1) := by decide +kernel
theorem dL_law_226 : decode cL_law 226 = .ok (.iadd, 1) := by decide +kernel
theorem dL_law_227 : decode cL_law 227 = .ok (.iaload, 1) := by decide +kernel
theorem dL_law_228 : decode cL_law 228 = .ok (.aload_n 0, 1) := by decide +kernel
theorem dL_law_229 : decode cL_law 229 = .ok (.iload_n 3, 1) := by decide +kernel
theorem dL_law_230 : decode cL_law 230 = .ok (.iconst 3, 1) := by decide +kernel
theorem dL_law_231 : decode cL_law 231 = .ok (.iadd, 1) := by decide +kernel
theorem dL_law_232 : decode cL_law 232 = .ok (.iaload, 1) := by decide +kernel
theorem dL_law_233 : decode cL_law 233 = .ok (.invokevirtual 27, 3) := by decide +kernel
theorem dL_law_236 : decode cL_law 236 = .ok (.aload_n 2, 1) := by decide +kernel
theorem dL_law_237 : decode cL_law 237 = .ok (.aload_n 0, 1) := by decide +kernel
theorem dL_law_238 : decode cL_law 238 = .ok (.iload_n 3, 1) := by decide +kernel
theorem dL_law_239 : decode cL_law 239 = .ok (.iconst 1, 1) := by decide +kernel
theorem dL_law_240 : decode cL_law 240 = .ok (.iadd, 1) := by decide +kernel
theorem dL_law_241 : decode cL_law 241 = .ok (.iaload, 1) := by decide +kernel
theorem dL_law_242 : decode cL_law 242 = .ok (.aload_n 0, 1) := by decide +kernel
theorem dL_law_243 : decode cL_law 243 = .ok (.iload_n 3, 1) := by decide +kernel
theorem dL_law_244 : decode cL_law 244 = .ok (.iconst 2, 1) := by decide +kernel
theorem dL_law_245 : decode cL_law 245 = .ok (.iadd, 1) := by decide +kernel
theorem dL_law_246 : decode cL_law 246 = .ok (.iaload, 1) := by decide +kernel
theorem dL_law_247 : decode cL_law 247 = .ok (.aload_n 0, 1) := by decide +kernel
theorem dL_law_248 : decode cL_law 248 = .ok (.iload_n 3, 1) := by decide +kernel
theorem dL_law_249 : decode cL_law 249 = .ok (.iconst 3, 1) := by decide +kernel
theorem dL_law_250 : decode cL_law 250 = .ok (.iadd, 1) := by decide +kernel
theorem dL_law_251 : decode cL_law 251 = .ok (.iaload, 1) := by decide +kernel
theorem dL_law_252 : decode cL_law 252 = .ok (.invokevirtual 30, 3) := by decide +kernel
theorem dL_law_255 : decode cL_law 255 = .ok (.if_icmp .eq 379, 3) := by decide +kernel
theorem dL_law_258 : decode cL_law 258 = .ok (.iconst 0, 1) := by decide +kernel
theorem dL_law_259 : decode cL_law 259 = .ok (.ireturn, 1) := by decide +kernel
theorem dL_law_260 : decode cL_law 260 = .ok (.aload_n 1, 1) := by decide +kernel
theorem dL_law_261 : decode cL_law 261 = .ok (.aload_n 0, 1) := by decide +kernel
theorem dL_law_262 : decode cL_law 262 = .ok (.iload_n 3, 1) := by decide +kernel
theorem dL_law_263 : decode cL_law 263 = .ok (.iconst 1, 1) := by decide +kernel
theorem dL_law_264 : decode cL_law 264 = .ok (.iadd, 1) := by decide +kernel
theorem dL_law_265 : decode cL_law 265 = .ok (.iaload, 1) := by decide +kernel
theorem dL_law_266 : decode cL_law 266 = .ok (.aload_n 0, 1) := by decide +kernel
theorem dL_law_267 : decode cL_law 267 = .ok (.iload_n 3, 1) := by decide +kernel
theorem dL_law_268 : decode cL_law 268 = .ok (.iconst 2, 1) := by decide +kernel
theorem dL_law_269 : decode cL_law 269 = .ok (.iadd, 1) := by decide +kernel
theorem dL_law_270 : decode cL_law 270 = .ok (.iaload, 1) := by decide +kernel
theorem dL_law_271 : decode cL_law 271 = .ok (.aload_n 0, 1) := by decide +kernel
theorem dL_law_272 : decode cL_law 272 = .ok (.iload_n 3, 1) := by decide +kernel
theorem dL_law_273 : decode cL_law 273 = .ok (.iconst 3, 1) := by decide +kernel
theorem dL_law_274 : decode cL_law 274 = .ok (.iadd, 1) := by decide +kernel
theorem dL_law_275 : decode cL_law 275 = .ok (.iaload, 1) := by decide +kernel
theorem dL_law_276 : decode cL_law 276 = .ok (.invokevirtual 31, 3) := by decide +kernel
theorem dL_law_279 : decode cL_law 279 = .ok (.aload_n 2, 1) := by decide +kernel
theorem dL_law_280 : decode cL_law 280 = .ok (.aload_n 0, 1) := by decide +kernel
theorem dL_law_281 : decode cL_law 281 = .ok (.iload_n 3, 1) := by decide +kernel
theorem dL_law_282 : decode cL_law 282 = .ok (.iconst 1, 1) := by decide +kernel
theorem dL_law_283 : decode cL_law 283 = .ok (.iadd, 1) := by decide +kernel
theorem dL_law_284 : decode cL_law 284 = .ok (.iaload, 1) := by decide +kernel
theorem dL_law_285 : decode cL_law 285 = .ok (.aload_n 0, 1) := by decide +kernel
theorem dL_law_286 : decode cL_law 286 = .ok (.iload_n 3, 1) := by decide +kernel
theorem dL_law_287 : decode cL_law 287 = .ok (.iconst 2, 1) := by decide +kernel
theorem dL_law_288 : decode cL_law 288 = .ok (.iadd, 1) := by decide +kernel
theorem dL_law_289 : decode cL_law 289 = .ok (.iaload, 1) := by decide +kernel
theorem dL_law_290 : decode cL_law 290 = .ok (.aload_n 0, 1) := by decide +kernel
theorem dL_law_291 : decode cL_law 291 = .ok (.iload_n 3, 1) := by decide +kernel
theorem dL_law_292 : decode cL_law 292 = .ok (.iconst 3, 1) := by decide +kernel
theorem dL_law_293 : decode cL_law 293 = .ok (.iadd, 1) := by decide +kernel
theorem dL_law_294 : decode cL_law 294 = .ok (.iaload, 1) := by decide +kernel
theorem dL_law_295 : decode cL_law 295 = .ok (.invokevirtual 34, 3) := by decide +kernel
theorem dL_law_298 : decode cL_law 298 = .ok (.if_icmp .eq 336, 3) := by decide +kernel
theorem dL_law_301 : decode cL_law 301 = .ok (.iconst 0, 1) := by decide +kernel
theorem dL_law_302 : decode cL_law 302 = .ok (.ireturn, 1) := by decide +kernel
theorem dL_law_303 : decode cL_law 303 = .ok (.aload_n 1, 1) := by decide +kernel
theorem dL_law_304 : decode cL_law 304 = .ok (.aload_n 0, 1) := by decide +kernel
theorem dL_law_305 : decode cL_law 305 = .ok (.iload_n 3, 1) := by decide +kernel
theorem dL_law_306 : decode cL_law 306 = .ok (.iconst 1, 1) := by decide +kernel
theorem dL_law_307 : decode cL_law 307 = .ok (.iadd, 1) := by decide +kernel
theorem dL_law_308 : decode cL_law 308 = .ok (.iaload, 1) := by decide +kernel
theorem dL_law_309 : decode cL_law 309 = .ok (.aload_n 0, 1) := by decide +kernel
theorem dL_law_310 : decode cL_law 310 = .ok (.iload_n 3, 1) := by decide +kernel
theorem dL_law_311 : decode cL_law 311 = .ok (.iconst 2, 1) := by decide +kernel
theorem dL_law_312 : decode cL_law 312 = .ok (.iadd, 1) := by decide +kernel
theorem dL_law_313 : decode cL_law 313 = .ok (.iaload, 1) := by decide +kernel
theorem dL_law_314 : decode cL_law 314 = .ok (.invokevirtual 35, 3) := by decide +kernel
theorem dL_law_317 : decode cL_law 317 = .ok (.aload_n 2, 1) := by decide +kernel
theorem dL_law_318 : decode cL_law 318 = .ok (.aload_n 0, 1) := by decide +kernel
theorem dL_law_319 : decode cL_law 319 = .ok (.iload_n 3, 1) := by decide +kernel
theorem dL_law_320 : decode cL_law 320 = .ok (.iconst 1, 1) := by decide +kernel
theorem dL_law_321 : decode cL_law 321 = .ok (.iadd, 1) := by decide +kernel
theorem dL_law_322 : decode cL_law 322 = .ok (.iaload, 1) := by decide +kernel
theorem dL_law_323 : decode cL_law 323 = .ok (.aload_n 0, 1) := by decide +kernel
theorem dL_law_324 : decode cL_law 324 = .ok (.iload_n 3, 1) := by decide +kernel
theorem dL_law_325 : decode cL_law 325 = .ok (.iconst 2, 1) := by decide +kernel
theorem dL_law_326 : decode cL_law 326 = .ok (.iadd, 1) := by decide +kernel
theorem dL_law_327 : decode cL_law 327 = .ok (.iaload, 1) := by decide +kernel
theorem dL_law_328 : decode cL_law 328 = .ok (.invokevirtual 38, 3) := by decide +kernel
theorem dL_law_331 : decode cL_law 331 = .ok (.if_icmp .eq 303, 3) := by decide +kernel
theorem dL_law_334 : decode cL_law 334 = .ok (.iconst 0, 1) := by decide +kernel
theorem dL_law_335 : decode cL_law 335 = .ok (.ireturn, 1) := by decide +kernel
theorem dL_law_336 : decode cL_law 336 = .ok (.aload_n 1, 1) := by decide +kernel
theorem dL_law_337 : decode cL_law 337 = .ok (.aload_n 0, 1) := by decide +kernel
theorem dL_law_338 : decode cL_law 338 = .ok (.iload_n 3, 1) := by decide +kernel
theorem dL_law_339 : decode cL_law 339 = .ok (.iconst 1, 1) := by decide +kernel
theorem dL_law_340 : decode cL_law 340 = .ok (.iadd, 1) := by decide +kernel
theorem dL_law_341 : decode cL_law 341 = .ok (.iaload, 1) := by decide +kernel
theorem dL_law_342 : decode cL_law 342 = .ok (.invokevirtual 39, 3) := by decide +kernel
theorem dL_law_345 : decode cL_law 345 = .ok (.aload_n 2, 1) := by decide +kernel
theorem dL_law_346 : decode cL_law 346 = .ok (.aload_n 0, 1) := by decide +kernel
theorem dL_law_347 : decode cL_law 347 = .ok (.iload_n 3, 1) := by decide +kernel
theorem dL_law_348 : decode cL_law 348 = .ok (.iconst 1, 1) := by decide +kernel
theorem dL_law_349 : decode cL_law 349 = .ok (.iadd, 1) := by decide +kernel
theorem dL_law_350 : decode cL_law 350 = .ok (.iaload, 1) := by decide +kernel
theorem dL_law_351 : decode cL_law 351 = .ok (.invokevirtual 43, 3) := by decide +kernel
theorem dL_law_354 : decode cL_law 354 = .ok (.if_icmp .eq 280, 3) := by decide +kernel
theorem dL_law_357 : decode cL_law 357 = .ok (.iconst 0, 1) := by decide +kernel
theorem dL_law_358 : decode cL_law 358 = .ok (.ireturn, 1) := by decide +kernel
theorem dL_law_359 : decode cL_law 359 = .ok (.aload_n 1, 1) := by decide +kernel
theorem dL_law_360 : decode cL_law 360 = .ok (.aload_n 0, 1) := by decide +kernel
theorem dL_law_361 : decode cL_law 361 = .ok (.iload_n 3, 1) := by decide +kernel
theorem dL_law_362 : decode cL_law 362 = .ok (.iconst 1, 1) := by decide +kernel
theorem dL_law_363 : decode cL_law 363 = .ok (.iadd, 1) := by decide +kernel
theorem dL_law_364 : decode cL_law 364 = .ok (.iaload, 1) := by decide +kernel
theorem dL_law_365 : decode cL_law 365 = .ok (.aload_n 0, 1) := by decide +kernel
theorem dL_law_366 : decode cL_law 366 = .ok (.iload_n 3, 1) := by decide +kernel
theorem dL_law_367 : decode cL_law 367 = .ok (.iconst 2, 1) := by decide +kernel
theorem dL_law_368 : decode cL_law 368 = .ok (.iadd, 1) := by decide +kernel
theorem dL_law_369 : decode cL_law 369 = .ok (.iaload, 1) := by decide +kernel
theorem dL_law_370 : decode cL_law 370 = .ok (.aload_n 0, 1) := by decide +kernel
theorem dL_law_371 : decode cL_law 371 = .ok (.iload_n 3, 1) := by decide +kernel
theorem dL_law_372 : decode cL_law 372 = .ok (.iconst 3, 1) := by decide +kernel
theorem dL_law_373 : decode cL_law 373 = .ok (.iadd, 1) := by decide +kernel
theorem dL_law_374 : decode cL_law 374 = .ok (.iaload, 1) := by decide +kernel
theorem dL_law_375 : decode cL_law 375 = .ok (.invokevirtual 44, 3) := by decide +kernel
theorem dL_law_378 : decode cL_law 378 = .ok (.aload_n 2, 1) := by decide +kernel
theorem dL_law_379 : decode cL_law 379 = .ok (.aload_n 0, 1) := by decide +kernel
theorem dL_law_380 : decode cL_law 380 = .ok (.iload_n 3, 1) := by decide +kernel
theorem dL_law_381 : decode cL_law 381 = .ok (.iconst 1, 1) := by decide +kernel
theorem dL_law_382 : decode cL_law 382 = .ok (.iadd, 1) := by decide +kernel
theorem dL_law_383 : decode cL_law 383 = .ok (.iaload, 1) := by decide +kernel
theorem dL_law_384 : decode cL_law 384 = .ok (.aload_n 0, 1) := by decide +kernel
theorem dL_law_385 : decode cL_law 385 = .ok (.iload_n 3, 1) := by decide +kernel
theorem dL_law_386 : decode cL_law 386 = .ok (.iconst 2, 1) := by decide +kernel
theorem dL_law_387 : decode cL_law 387 = .ok (.iadd, 1) := by decide +kernel
theorem dL_law_388 : decode cL_law 388 = .ok (.iaload, 1) := by decide +kernel
theorem dL_law_389 : decode cL_law 389 = .ok (.aload_n 0, 1) := by decide +kernel
theorem dL_law_390 : decode cL_law 390 = .ok (.iload_n 3, 1) := by decide +kernel
theorem dL_law_391 : decode cL_law 391 = .ok (.iconst 3, 1) := by decide +kernel
theorem dL_law_392 : decode cL_law 392 = .ok (.iadd, 1) := by decide +kernel
theorem dL_law_393 : decode cL_law 393 = .ok (.iaload, 1) := by decide +kernel
theorem dL_law_394 : decode cL_law 394 = .ok (.invokevirtual 47, 3) := by decide +kernel
theorem dL_law_397 : decode cL_law 397 = .ok (.if_icmp .eq 237, 3) := by decide +kernel
theorem dL_law_400 : decode cL_law 400 = .ok (.iconst 0, 1) := by decide +kernel
theorem dL_law_401 : decode cL_law 401 = .ok (.ireturn, 1) := by decide +kernel
theorem dL_law_402 : decode cL_law 402 = .ok (.aload_n 1, 1) := by decide +kernel
theorem dL_law_403 : decode cL_law 403 = .ok (.aload_n 0, 1) := by decide +kernel
theorem dL_law_404 : decode cL_law 404 = .ok (.iload_n 3, 1) := by decide +kernel
theorem dL_law_405 : decode cL_law 405 = .ok (.iconst 1, 1) := by decide +kernel
theorem dL_law_406 : decode cL_law 406 = .ok (.iadd, 1) := by decide +kernel
theorem dL_law_407 : decode cL_law 407 = .ok (.iaload, 1) := by decide +kernel
theorem dL_law_408 : decode cL_law 408 = .ok (.aload_n 0, 1) := by decide +kernel
theorem dL_law_409 : decode cL_law 409 = .ok (.iload_n 3, 1) := by decide +kernel
theorem dL_law_410 : decode cL_law 410 = .ok (.iconst 2, 1) := by decide +kernel
theorem dL_law_411 : decode cL_law 411 = .ok (.iadd, 1) := by decide +kernel
theorem dL_law_412 : decode cL_law 412 = .ok (.iaload, 1) := by decide +kernel
theorem dL_law_413 : decode cL_law 413 = .ok (.invokevirtual 48, 3) := by decide +kernel
theorem dL_law_416 : decode cL_law 416 = .ok (.aload_n 2, 1) := by decide +kernel
theorem dL_law_417 : decode cL_law 417 = .ok (.aload_n 0, 1) := by decide +kernel
theorem dL_law_418 : decode cL_law 418 = .ok (.iload_n 3, 1) := by decide +kernel
theorem dL_law_419 : decode cL_law 419 = .ok (.iconst 1, 1) := by decide +kernel
theorem dL_law_420 : decode cL_law 420 = .ok (.iadd, 1) := by decide +kernel
theorem dL_law_421 : decode cL_law 421 = .ok (.iaload, 1) := by decide +kernel
theorem dL_law_422 : decode cL_law 422 = .ok (.aload_n 0, 1) := by decide +kernel
theorem dL_law_423 : decode cL_law 423 = .ok (.iload_n 3, 1) := by decide +kernel
theorem dL_law_424 : decode cL_law 424 = .ok (.iconst 2, 1) := by decide +kernel
theorem dL_law_425 : decode cL_law 425 = .ok (.iadd, 1) := by decide +kernel
theorem dL_law_426 : decode cL_law 426 = .ok (.iaload, 1) := by decide +kernel
theorem dL_law_427 : decode cL_law 427 = .ok (.invokevirtual 51, 3) := by decide +kernel
theorem dL_law_430 : decode cL_law 430 = .ok (.if_icmp .eq 204, 3) := by decide +kernel
theorem dL_law_433 : decode cL_law 433 = .ok (.iconst 0, 1) := by decide +kernel
theorem dL_law_434 : decode cL_law 434 = .ok (.ireturn, 1) := by decide +kernel
theorem dL_law_435 : decode cL_law 435 = .ok (.aload_n 1, 1) := by decide +kernel
theorem dL_law_436 : decode cL_law 436 = .ok (.aload_n 0, 1) := by decide +kernel
theorem dL_law_437 : decode cL_law 437 = .ok (.iload_n 3, 1) := by decide +kernel
theorem dL_law_438 : decode cL_law 438 = .ok (.iconst 1, 1) := by decide +kernel
theorem dL_law_439 : decode cL_law 439 = .ok (.iadd, 1) := by decide +kernel
theorem dL_law_440 : decode cL_law 440 = .ok (.iaload, 1) := by decide +kernel
theorem dL_law_441 : decode cL_law 441 = .ok (.aload_n 0, 1) := by decide +kernel
theorem dL_law_442 : decode cL_law 442 = .ok (.iload_n 3, 1) := by decide +kernel
theorem dL_law_443 : decode cL_law 443 = .ok (.iconst 2, 1) := by decide +kernel
theorem dL_law_444 : decode cL_law 444 = .ok (.iadd, 1) := by decide +kernel
theorem dL_law_445 : decode cL_law 445 = .ok (.iaload, 1) := by decide +kernel
theorem dL_law_446 : decode cL_law 446 = .ok (.invokevirtual 52, 3) := by decide +kernel
theorem dL_law_449 : decode cL_law 449 = .ok (.aload_n 2, 1) := by decide +kernel
theorem dL_law_450 : decode cL_law 450 = .ok (.aload_n 0, 1) := by decide +kernel
theorem dL_law_451 : decode cL_law 451 = .ok (.iload_n 3, 1) := by decide +kernel
theorem dL_law_452 : decode cL_law 452 = .ok (.iconst 1, 1) := by decide +kernel
theorem dL_law_453 : decode cL_law 453 = .ok (.iadd, 1) := by decide +kernel
theorem dL_law_454 : decode cL_law 454 = .ok (.iaload, 1) := by decide +kernel
theorem dL_law_455 : decode cL_law 455 = .ok (.aload_n 0, 1) := by decide +kernel
theorem dL_law_456 : decode cL_law 456 = .ok (.iload_n 3, 1) := by decide +kernel
theorem dL_law_457 : decode cL_law 457 = .ok (.iconst 2, 1) := by decide +kernel
theorem dL_law_458 : decode cL_law 458 = .ok (.iadd, 1) := by decide +kernel
theorem dL_law_459 : decode cL_law 459 = .ok (.iaload, 1) := by decide +kernel
theorem dL_law_460 : decode cL_law 460 = .ok (.invokevirtual 56, 3) := by decide +kernel
theorem dL_law_463 : decode cL_law 463 = .ok (.lcmp, 1) := by decide +kernel
theorem dL_law_464 : decode cL_law 464 = .ok (.ifCond .eq 170, 3) := by decide +kernel
theorem dL_law_467 : decode cL_law 467 = .ok (.iconst 0, 1) := by decide +kernel
theorem dL_law_468 : decode cL_law 468 = .ok (.ireturn, 1) := by decide +kernel
theorem dL_law_469 : decode cL_law 469 = .ok (.aload_n 1, 1) := by decide +kernel
theorem dL_law_470 : decode cL_law 470 = .ok (.aload_n 0, 1) := by decide +kernel
theorem dL_law_471 : decode cL_law 471 = .ok (.iload_n 3, 1) := by decide +kernel
theorem dL_law_472 : decode cL_law 472 = .ok (.iconst 1, 1) := by decide +kernel
theorem dL_law_473 : decode cL_law 473 = .ok (.iadd, 1) := by decide +kernel
theorem dL_law_474 : decode cL_law 474 = .ok (.iaload, 1) := by decide +kernel
theorem dL_law_475 : decode cL_law 475 = .ok (.invokevirtual 57, 3) := by decide +kernel
theorem dL_law_478 : decode cL_law 478 = .ok (.aload_n 2, 1) := by decide +kernel
theorem dL_law_479 : decode cL_law 479 = .ok (.aload_n 0, 1) := by decide +kernel
theorem dL_law_480 : decode cL_law 480 = .ok (.iload_n 3, 1) := by decide +kernel
theorem dL_law_481 : decode cL_law 481 = .ok (.iconst 1, 1) := by decide +kernel
theorem dL_law_482 : decode cL_law 482 = .ok (.iadd, 1) := by decide +kernel
theorem dL_law_483 : decode cL_law 483 = .ok (.iaload, 1) := by decide +kernel
theorem dL_law_484 : decode cL_law 484 = .ok (.invokevirtual 60, 3) := by decide +kernel
theorem dL_law_487 : decode cL_law 487 = .ok (.if_icmp .eq 147, 3) := by decide +kernel
theorem dL_law_490 : decode cL_law 490 = .ok (.iconst 0, 1) := by decide +kernel
theorem dL_law_491 : decode cL_law 491 = .ok (.ireturn, 1) := by decide +kernel
theorem dL_law_492 : decode cL_law 492 = .ok (.aload_n 1, 1) := by decide +kernel
theorem dL_law_493 : decode cL_law 493 = .ok (.aload_n 0, 1) := by decide +kernel
theorem dL_law_494 : decode cL_law 494 = .ok (.iload_n 3, 1) := by decide +kernel
theorem dL_law_495 : decode cL_law 495 = .ok (.iconst 1, 1) := by decide +kernel
theorem dL_law_496 : decode cL_law 496 = .ok (.iadd, 1) := by decide +kernel
theorem dL_law_497 : decode cL_law 497 = .ok (.iaload, 1) := by decide +kernel
theorem dL_law_498 : decode cL_law 498 = .ok (.invokevirtual 61, 3) := by decide +kernel
theorem dL_law_501 : decode cL_law 501 = .ok (.aload_n 2, 1) := by decide +kernel
theorem dL_law_502 : decode cL_law 502 = .ok (.aload_n 0, 1) := by decide +kernel
theorem dL_law_503 : decode cL_law 503 = .ok (.iload_n 3, 1) := by decide +kernel
theorem dL_law_504 : decode cL_law 504 = .ok (.iconst 1, 1) := by decide +kernel
theorem dL_law_505 : decode cL_law 505 = .ok (.iadd, 1) := by decide +kernel
theorem dL_law_506 : decode cL_law 506 = .ok (.iaload, 1) := by decide +kernel
theorem dL_law_507 : decode cL_law 507 = .ok (.invokevirtual 64, 3) := by decide +kernel
theorem dL_law_510 : decode cL_law 510 = .ok (.if_icmp .eq 124, 3) := by decide +kernel
theorem dL_law_513 : decode cL_law 513 = .ok (.iconst 0, 1) := by decide +kernel
theorem dL_law_514 : decode cL_law 514 = .ok (.ireturn, 1) := by decide +kernel
theorem dL_law_515 : decode cL_law 515 = .ok (.aload_n 1, 1) := by decide +kernel
theorem dL_law_516 : decode cL_law 516 = .ok (.aload_n 0, 1) := by decide +kernel
theorem dL_law_517 : decode cL_law 517 = .ok (.iload_n 3, 1) := by decide +kernel
theorem dL_law_518 : decode cL_law 518 = .ok (.iconst 1, 1) := by decide +kernel
theorem dL_law_519 : decode cL_law 519 = .ok (.iadd, 1) := by decide +kernel
theorem dL_law_520 : decode cL_law 520 = .ok (.iaload, 1) := by decide +kernel
theorem dL_law_521 : decode cL_law 521 = .ok (.aload_n 0, 1) := by decide +kernel
theorem dL_law_522 : decode cL_law 522 = .ok (.iload_n 3, 1) := by decide +kernel
theorem dL_law_523 : decode cL_law 523 = .ok (.iconst 2, 1) := by decide +kernel
theorem dL_law_524 : decode cL_law 524 = .ok (.iadd, 1) := by decide +kernel
theorem dL_law_525 : decode cL_law 525 = .ok (.iaload, 1) := by decide +kernel
theorem dL_law_526 : decode cL_law 526 = .ok (.aload_n 0, 1) := by decide +kernel
theorem dL_law_527 : decode cL_law 527 = .ok (.iload_n 3, 1) := by decide +kernel
theorem dL_law_528 : decode cL_law 528 = .ok (.iconst 3, 1) := by decide +kernel
theorem dL_law_529 : decode cL_law 529 = .ok (.iadd, 1) := by decide +kernel
theorem dL_law_530 : decode cL_law 530 = .ok (.iaload, 1) := by decide +kernel
theorem dL_law_531 : decode cL_law 531 = .ok (.aload_n 0, 1) := by decide +kernel
theorem dL_law_532 : decode cL_law 532 = .ok (.iload_n 3, 1) := by decide +kernel
theorem dL_law_533 : decode cL_law 533 = .ok (.iconst 4, 1) := by decide +kernel
theorem dL_law_534 : decode cL_law 534 = .ok (.iadd, 1) := by decide +kernel
theorem dL_law_535 : decode cL_law 535 = .ok (.iaload, 1) := by decide +kernel
theorem dL_law_536 : decode cL_law 536 = .ok (.aload_n 0, 1) := by decide +kernel
theorem dL_law_537 : decode cL_law 537 = .ok (.iload_n 3, 1) := by decide +kernel
theorem dL_law_538 : decode cL_law 538 = .ok (.iconst 5, 1) := by decide +kernel
theorem dL_law_539 : decode cL_law 539 = .ok (.iadd, 1) := by decide +kernel
theorem dL_law_540 : decode cL_law 540 = .ok (.iaload, 1) := by decide +kernel
theorem dL_law_541 : decode cL_law 541 = .ok (.invokevirtual 65, 3) := by decide +kernel
theorem dL_law_544 : decode cL_law 544 = .ok (.aload_n 2, 1) := by decide +kernel
theorem dL_law_545 : decode cL_law 545 = .ok (.aload_n 0, 1) := by decide +kernel
theorem dL_law_546 : decode cL_law 546 = .ok (.iload_n 3, 1) := by decide +kernel
theorem dL_law_547 : decode cL_law 547 = .ok (.iconst 1, 1) := by decide +kernel
theorem dL_law_548 : decode cL_law 548 = .ok (.iadd, 1) := by decide +kernel
theorem dL_law_549 : decode cL_law 549 = .ok (.iaload, 1) := by decide +kernel
theorem dL_law_550 : decode cL_law 550 = .ok (.aload_n 0, 1) := by decide +kernel
theorem dL_law_551 : decode cL_law 551 = .ok (.iload_n 3, 1) := by decide +kernel
theorem dL_law_552 : decode cL_law 552 = .ok (.iconst 2, 1) := by decide +kernel
theorem dL_law_553 : decode cL_law 553 = .ok (.iadd, 1) := by decide +kernel
theorem dL_law_554 : decode cL_law 554 = .ok (.iaload, 1) := by decide +kernel
theorem dL_law_555 : decode cL_law 555 = .ok (.aload_n 0, 1) := by decide +kernel
theorem dL_law_556 : decode cL_law 556 = .ok (.iload_n 3, 1) := by decide +kernel
theorem dL_law_557 : decode cL_law 557 = .ok (.iconst 3, 1) := by decide +kernel
theorem dL_law_558 : decode cL_law 558 = .ok (.iadd, 1) := by decide +kernel
theorem dL_law_559 : decode cL_law 559 = .ok (.iaload, 1) := by decide +kernel
theorem dL_law_560 : decode cL_law 560 = .ok (.aload_n 0, 1) := by decide +kernel
theorem dL_law_561 : decode cL_law 561 = .ok (.iload_n 3, 1) := by decide +kernel
theorem dL_law_562 : decode cL_law 562 = .ok (.iconst 4, 1) := by decide +kernel
theorem dL_law_563 : decode cL_law 563 = .ok (.iadd, 1) := by decide +kernel
theorem dL_law_564 : decode cL_law 564 = .ok (.iaload, 1) := by decide +kernel
theorem dL_law_565 : decode cL_law 565 = .ok (.aload_n 0, 1) := by decide +kernel
theorem dL_law_566 : decode cL_law 566 = .ok (.iload_n 3, 1) := by decide +kernel
theorem dL_law_567 : decode cL_law 567 = .ok (.iconst 5, 1) := by decide +kernel
theorem dL_law_568 : decode cL_law 568 = .ok (.iadd, 1) := by decide +kernel
theorem dL_law_569 : decode cL_law 569 = .ok (.iaload, 1) := by decide +kernel
theorem dL_law_570 : decode cL_law 570 = .ok (.invokevirtual 69, 3) := by decide +kernel
theorem dL_law_573 : decode cL_law 573 = .ok (.if_icmp .eq 61, 3) := by decide +kernel
theorem dL_law_576 : decode cL_law 576 = .ok (.iconst 0, 1) := by decide +kernel
theorem dL_law_577 : decode cL_law 577 = .ok (.ireturn, 1) := by decide +kernel
theorem dL_law_578 : decode cL_law 578 = .ok (.aload_n 1, 1) := by decide +kernel
theorem dL_law_579 : decode cL_law 579 = .ok (.aload_n 0, 1) := by decide +kernel
theorem dL_law_580 : decode cL_law 580 = .ok (.iload_n 3, 1) := by decide +kernel
theorem dL_law_581 : decode cL_law 581 = .ok (.iconst 1, 1) := by decide +kernel
theorem dL_law_582 : decode cL_law 582 = .ok (.iadd, 1) := by decide +kernel
theorem dL_law_583 : decode cL_law 583 = .ok (.iaload, 1) := by decide +kernel
theorem dL_law_584 : decode cL_law 584 = .ok (.aload_n 0, 1) := by decide +kernel
theorem dL_law_585 : decode cL_law 585 = .ok (.iload_n 3, 1) := by decide +kernel
theorem dL_law_586 : decode cL_law 586 = .ok (.iconst 2, 1) := by decide +kernel
theorem dL_law_587 : decode cL_law 587 = .ok (.iadd, 1) := by decide +kernel
theorem dL_law_588 : decode cL_law 588 = .ok (.iaload, 1) := by decide +kernel
theorem dL_law_589 : decode cL_law 589 = .ok (.invokevirtual 70, 3) := by decide +kernel
theorem dL_law_592 : decode cL_law 592 = .ok (.aload_n 2, 1) := by decide +kernel
theorem dL_law_593 : decode cL_law 593 = .ok (.aload_n 0, 1) := by decide +kernel
theorem dL_law_594 : decode cL_law 594 = .ok (.iload_n 3, 1) := by decide +kernel
theorem dL_law_595 : decode cL_law 595 = .ok (.iconst 1, 1) := by decide +kernel
theorem dL_law_596 : decode cL_law 596 = .ok (.iadd, 1) := by decide +kernel
theorem dL_law_597 : decode cL_law 597 = .ok (.iaload, 1) := by decide +kernel
theorem dL_law_598 : decode cL_law 598 = .ok (.aload_n 0, 1) := by decide +kernel
theorem dL_law_599 : decode cL_law 599 = .ok (.iload_n 3, 1) := by decide +kernel
theorem dL_law_600 : decode cL_law 600 = .ok (.iconst 2, 1) := by decide +kernel
theorem dL_law_601 : decode cL_law 601 = .ok (.iadd, 1) := by decide +kernel
theorem dL_law_602 : decode cL_law 602 = .ok (.iaload, 1) := by decide +kernel
theorem dL_law_603 : decode cL_law 603 = .ok (.invokevirtual 73, 3) := by decide +kernel
theorem dL_law_606 : decode cL_law 606 = .ok (.if_icmp .eq 28, 3) := by decide +kernel
theorem dL_law_609 : decode cL_law 609 = .ok (.iconst 0, 1) := by decide +kernel
theorem dL_law_610 : decode cL_law 610 = .ok (.ireturn, 1) := by decide +kernel
theorem dL_law_611 : decode cL_law 611 = .ok (.aload_n 1, 1) := by decide +kernel
theorem dL_law_612 : decode cL_law 612 = .ok (.aload_n 0, 1) := by decide +kernel
theorem dL_law_613 : decode cL_law 613 = .ok (.iload_n 3, 1) := by decide +kernel
theorem dL_law_614 : decode cL_law 614 = .ok (.iconst 1, 1) := by decide +kernel
theorem dL_law_615 : decode cL_law 615 = .ok (.iadd, 1) := by decide +kernel
theorem dL_law_616 : decode cL_law 616 = .ok (.iaload, 1) := by decide +kernel
theorem dL_law_617 : decode cL_law 617 = .ok (.invokevirtual 74, 3) := by decide +kernel
theorem dL_law_620 : decode cL_law 620 = .ok (.aload_n 2, 1) := by decide +kernel
theorem dL_law_621 : decode cL_law 621 = .ok (.aload_n 0, 1) := by decide +kernel
theorem dL_law_622 : decode cL_law 622 = .ok (.iload_n 3, 1) := by decide +kernel
theorem dL_law_623 : decode cL_law 623 = .ok (.iconst 1, 1) := by decide +kernel
theorem dL_law_624 : decode cL_law 624 = .ok (.iadd, 1) := by decide +kernel
theorem dL_law_625 : decode cL_law 625 = .ok (.iaload, 1) := by decide +kernel
theorem dL_law_626 : decode cL_law 626 = .ok (.invokevirtual 77, 3) := by decide +kernel
theorem dL_law_629 : decode cL_law 629 = .ok (.if_icmp .eq 5, 3) := by decide +kernel
theorem dL_law_632 : decode cL_law 632 = .ok (.iconst 0, 1) := by decide +kernel
theorem dL_law_633 : decode cL_law 633 = .ok (.ireturn, 1) := by decide +kernel
theorem dL_law_634 : decode cL_law 634 = .ok (.iinc 3 6, 3) := by decide +kernel
theorem dL_law_637 : decode cL_law 637 = .ok (.goto (-619), 3) := by decide +kernel
theorem dL_law_640 : decode cL_law 640 = .ok (.iconst 1, 1) := by decide +kernel
theorem dL_law_641 : decode cL_law 641 = .ok (.ireturn, 1) := by decide +kernel
end
section
/-! ===== my kit: worlds as functions of addresses ===== -/
abbrev Gx : Type := va_G × ClassId × ClassId × ClassId
abbrev Wm : Type := Nat → Option va_E
def eI (G : Gx) (n : Nat) (f : Nat → Int32) : va_E := .inl (G.2.2.1, n, .inl f)
def eJ (G : Gx) (n : Nat) (f : Nat → Int64) : va_E := .inl (G.2.1, n, .inr (.inl f))
def eQ (G : Gx) (n : Nat) (f : Nat → Option Nat) : va_E := .inl (G.2.2.2, n, .inr (.inr (.inr (.inr f))))
def eO (ci : Nat) (fs : List Value) : va_E := .inr (ci, fs)
def tysG (G : Gx) : List (ClassId × FieldType) := [(G.2.1, .long), (G.2.2.1, .int), (G.2.2.2, .object "PolyDesk$Poly")]
def KG (G : Gx) (U : State) : Prop := va_K G.1 vwCl (tysG G) U ∧ (∀ w ∈ nestW, va_Nw w U) ∧ va_AO "PolyDesk$Poly" U
def FA (B : Nat) : Nat → Prop := fun q => B ≤ q
def HW (G : Gx) (B : Nat) (w : Wm) (n : Nat) (H : Heap) : Prop := H.size = n ∧ B ≤ n ∧ ∀ a e, w a = some e → B ≤ a ∧ va_at G.1 vwCl (a, e) H
def HS (G : Gx) (B : Nat) (w : Wm) (n : Nat) (s : State) (H : Heap) (locs : List Loc) : Prop := HW G B w n H ∧ va_S (FA B) s.heap H locs ∧ B ≤ s.heap.size
def isNest : Cond → Bool
  | .fieldLinkNest .. => true
  | .methodLinkNest .. => true
  | _ => false
theorem nestW_is : ∀ w ∈ nestW, isNest w = true := by decide +kernel
theorem isNest_on {w : Cond} (h : isNest w = true) : w.onTables = true := by
  cases w <;> first | rfl | (simp [isNest] at h)
theorem isNest_warm {w : Cond} (h : isNest w = true) {s U : State} (hW : s.WarmedH U.vm) (hZ : va_Nw w s) : va_Nw w U := by
  cases w <;> first | exact va_Nw.warmF hW hZ | exact va_Nw.warmM hW hZ | (simp [isNest] at h)
theorem KG.warm {G : Gx} {s U : State} (hW : s.WarmedH U.vm) (h : KG G s) : KG G U := ⟨va_K.moved hW.alike h.1, fun w hw => isNest_warm (nestW_is w hw) hW (h.2.1 w hw), va_AO.moved hW.alike h.2.2⟩
theorem KG.same {G : Gx} {u U : State} (hvm : u.vm = U.vm) (h : KG G u) : KG G U := ⟨va_K.moved (by rw [hvm]; exact Vm.Alike.refl U.vm) h.1, fun w hw => va_Nw.same (isNest_on (nestW_is w hw)) hvm (h.2.1 w hw), va_AO.moved (by rw [hvm]; exact Vm.Alike.refl U.vm) h.2.2⟩
def Pcx (G : Gx) (B : Nat) (w : Wm) (n : Nat) (av : List Value) : Array Value → State → Prop := va_Pc av (fun U => HW G B w n U.heap ∧ KG G U)
theorem Pcx.blind {G : Gx} {B : Nat} {w : Wm} {n : Nat} {av : List Value} : FrameBlind (Pcx G B w n av) := fun a U g mk h => ⟨h.1, h.2.1, KG.same (u := U) (U := U.calling g mk a) rfl h.2.2⟩
theorem HW.P1 {G : Gx} {B : Nat} {w : Wm} {n : Nat} {H : Heap} (h : HW G B w n H) {a : Nat} {e : va_E} (he : w a = some e) : va_P G.1 vwCl [(a, e)] H := by
  intro k q hk
  match k, hk with
  | 0, hk => cases hk; exact (h.2.2 a e he).2
  | k + 1, hk => simp at hk
theorem D1 {B : Nat} {a : Nat} {e : va_E} (h : B ≤ a) : va_D (FA B) [(a, e)] := by
  refine ⟨fun i j p q hi hj _ => ?_, fun k q hk => ?_⟩
  · match i, hi, j, hj with
    | 0, _, 0, _ => rfl
    | i + 1, hi, _, _ => simp at hi
    | 0, _, j + 1, hj => simp at hj
  · match k, hk with
    | 0, hk => cases hk; exact h
    | k + 1, hk => simp at hk
theorem HW.lt {G : Gx} {B : Nat} {w : Wm} {n : Nat} {H : Heap} (h : HW G B w n H) {a : Nat} {e : va_E} (he : w a = some e) : a < n := by
  have := (h.2.2 a e he).2.lt
  rw [← h.1]; exact this
/-- a world after one cell was written -/
theorem HW.set {G : Gx} {B : Nat} {w : Wm} {n : Nat} {H H1 : Heap} (h : HW G B w n H) {a : Nat} {e0 e : va_E} (he : w a = some e0) (z : H1.size = H.size) (h1 : va_at G.1 vwCl (a, e) H1) (oq : ∀ q : Nat, q ≠ a → H1[q]? = H[q]?) : HW G B (va_up w a (some e)) n H1 := by
  refine ⟨by rw [z]; exact h.1, h.2.1, fun b e' hb => ?_⟩
  by_cases hq : b = a
  · subst hq
    rw [va_up_self] at hb
    cases hb
    exact ⟨(h.2.2 b e0 he).1, h1⟩
  · rw [va_up_ne _ _ hq] at hb
    exact ⟨(h.2.2 b e' hb).1, (h.2.2 b e' hb).2.kept (oq b hq)⟩
/-- a world after one cell was made -/
theorem HW.push {G : Gx} {B : Nat} {w : Wm} {n : Nat} {H H1 : Heap} (h : HW G B w n H) {e : va_E} (z : H1.size = n + 1) (h1 : va_at G.1 vwCl (n, e) H1) (oq : ∀ q : Nat, q < n → H1[q]? = H[q]?) : HW G B (va_up w n (some e)) (n + 1) H1 := by
  refine ⟨z, Nat.le_succ_of_le h.2.1, fun b e' hb => ?_⟩
  by_cases hq : b = n
  · subst hq
    rw [va_up_self] at hb
    cases hb
    exact ⟨h.2.1, h1⟩
  · rw [va_up_ne _ _ hq] at hb
    exact ⟨(h.2.2 b e' hb).1, (h.2.2 b e' hb).2.kept (oq b (h.lt hb))⟩
theorem va_S.grow {A : Nat → Prop} {H0 H H1 : Heap} {locs : List Loc} (h : va_S A H0 H locs) (z : H.size ≤ H1.size) (oq : ∀ q : Nat, q < H.size → H1[q]? = H[q]?) : va_S A H0 H1 locs :=
  ⟨Nat.le_trans h.1 z, fun q h1 h2 => (oq q (Nat.lt_of_lt_of_le h1 h.1)).trans (h.2.1 q h1 h2), h.2.2⟩
def wsM (y : MethodName) (bytes : ByteArray) (maxL : Nat) (ret : Option FieldType) : List Cond := .code y bytes maxL ret :: BW
def Qi (G : Gx) (B : Nat) (post : Int32 → Wm → Nat → Prop) : Array Value → State → Outcome → State → Prop := va_Qi (fun r (u : Wm × Nat) => post r u.1 u.2) (fun u t => HW G B u.1 u.2 t.heap) (FA B)
def Ql (G : Gx) (B : Nat) (post : Int64 → Wm → Nat → Prop) : Array Value → State → Outcome → State → Prop := va_Ql (fun r (u : Wm × Nat) => post r u.1 u.2) (fun u t => HW G B u.1 u.2 t.heap) (FA B)
def Qv (G : Gx) (B : Nat) (post : Wm → Nat → Prop) : Array Value → State → Outcome → State → Prop := va_Qv (fun (u : Wm × Nat) => post u.1 u.2) (fun u t => HW G B u.1 u.2 t.heap) (FA B)
def Qr (G : Gx) (B : Nat) (post : Nat → Wm → Nat → Prop) : Array Value → State → Outcome → State → Prop := va_Qr (fun (_ : Wm × Nat) => True) (fun u a t => post a u.1 u.2 ∧ HW G B u.1 u.2 t.heap) (FA B)
def notMH (y : MethodName) : Prop := y.cls ≠ "java/lang/invoke/MethodHandle" ∧ y.cls ≠ "java/lang/invoke/VarHandle"
def arity (y : MethodName) (na : Nat) : Prop := (parseMethodDescriptor y.desc).map (fun d => d.parameters.length) = some na
/-- what a callee is, the caller aside -/
def CeV (C : String) (y : MethodName) (bytes : ByteArray) (maxL : Nat) (ret : Option FieldType) (na : Nat) : Prop := Cond.code y bytes maxL ret ∈ BW ∧ Cond.instanceMethod y ∈ BW ∧ Cond.selects C y y ∈ BW ∧ Cond.initialized y.cls ∈ BW ∧ notMH y ∧ arity y na
def CeS (y : MethodName) (bytes : ByteArray) (maxL : Nat) (ret : Option FieldType) (na : Nat) : Prop := Cond.code y bytes maxL ret ∈ BW ∧ Cond.static y ∈ BW ∧ Cond.initialized y.cls ∈ BW ∧ notMH y ∧ arity y na
def CeI (y : MethodName) (bytes : ByteArray) (maxL : Nat) (na : Nat) : Prop := Cond.code y bytes maxL none ∈ BW ∧ Cond.instanceMethod y ∈ BW ∧ y.name = "<init>" ∧ Cond.initialized y.cls ∈ BW ∧ notMH y ∧ arity y na
theorem pay_M {y : MethodName} {bytes : ByteArray} {maxL : Nat} {ret : Option FieldType} (hc : Cond.code y bytes maxL ret ∈ BW) {args : Array Value} {s : State} (hts : ∀ w ∈ BW, w.before args s = true) : ∀ w ∈ wsM y bytes maxL ret, ∀ (a' : Array Value) (U : State), s.WarmedH U.vm → w.before a' U = true :=
  pay_in hts (fun w hw => (List.mem_cons.mp hw).elim (fun e => by rw [e]; exact ⟨hc, BW_good _ hc⟩) (fun h => ⟨h, BW_good _ h⟩))
theorem arity.use {y : MethodName} {na : Nat} (h : arity y na) : ∀ sig, parseMethodDescriptor y.desc = some sig → na = sig.parameters.length := by
  intro sig hs
  unfold arity at h
  rw [hs] at h
  exact (Option.some.inj h).symm
section MK
variable {p : Program} {l : Launch} {e : Env} {R : Room} {s : State} {m : MethodId} {args : Array Value} {below : List Frame} {meth : Method} {c : Code} {H : Heap} {locs : List Loc} {cells slots : Nat} {Q : State → Prop}
variable {cc bytes : ByteArray} {nL maxL index na mc ms pc ci n B b N : Nat} {own C host : String} {y : MethodName} {ret : Option FieldType} {rm : Room} {G : Gx} {w : Wm} {As rest st : List Value} {fs : List Value} {ls : Array Slot} {Qc : Array Value → State → Outcome → State → Prop} {T : u_T}
theorem HS.P1 {a : Nat} {x : va_E} (h : HS G B w n s H locs) (he : w a = some x) : va_P G.1 vwCl [(a, x)] H := h.1.P1 he
theorem HS.A (_h : HS G B w n s H locs) : ∀ q, s.heap.size ≤ q → FA B q := fun _ hq => Nat.le_trans _h.2.2 hq
theorem HS.set {a k : Nat} {e0 x : va_E} {H1 : Heap} (h : HS G B w n s H locs) (he : w a = some e0) (z : H1.size = H.size) (h1 : va_at G.1 vwCl (a, x) H1) (oq : ∀ q : Nat, q ≠ a → H1[q]? = H[q]?) : HS G B (va_up w a (some x)) n s H1 (locs ++ [⟨a, k⟩]) :=
  ⟨h.1.set he z h1 oq, h.2.1.put z oq (h.1.2.2 a e0 he).1, h.2.2⟩
theorem HS.push {x : va_E} {H1 : Heap} (h : HS G B w n s H locs) (z : H1.size = n + 1) (h1 : va_at G.1 vwCl (n, x) H1) (oq : ∀ q : Nat, q < n → H1[q]? = H[q]?) : HS G B (va_up w n (some x)) (n + 1) s H1 locs :=
  ⟨h.1.push z h1 oq, h.2.1.grow (by rw [h.1.1, z]; exact Nat.le_succ n) (fun q hq => oq q (by rw [← h.1.1]; exact hq)), h.2.2⟩
/-- calls -/
theorem run_V (S : CallFix p m c cc nL s args BW own) (hK : KG G s) (hH : HS G B w n s H locs) (hM : Met l y (wsM y bytes maxL ret) rm (Pcx G B w n (.ref b :: As)) Qc mc ms (FA B)) (ce : CeV C y bytes maxL ret na) (lk : Cond.methodLink own index y ∈ BW) (hob : w b = some (eO ci fs)) (hci : vwCl[ci]? = some (C, T, N)) (hn : As.length = na) (hl : ls.size = nL) (hst : st = As.reverse ++ .ref b :: rest) (hW8 : (rest.map fun v => v.category).sum ≤ 8) (hdg : decode cc pc = .ok (.invokevirtual index, 3))
    (hR : rm.cells = mc ∧ rm.slots = ms ∧ rm.frames + 1 ≤ R.frames ∧ 8 + (maxL + 11) + rm.locals ≤ R.locals) (hf : cells + mc ≤ R.cells ∧ slots + ms ≤ R.slots) :
    va_Run p l e R s m args below meth c H locs cells slots mc ms (F0 m pc ls st) rest (Qc (Value.ref b :: As).toArray) (FA B) := by
  subst hst
  obtain ⟨hc, hi, hs, hini, hd, ha⟩ := ce
  have hts := S.2.2.2.2
  exact va_runV S hM ⟨⟨hR.1, hR.2.1, hR.2.2.1, hR.2.2.2, pay_M hc hts, List.mem_cons_self, hts _ hc, hts _ hini, hd, ha.use, hts _ lk⟩, hts _ hi, hts _ hs⟩ ⟨Pcx.blind, va_recv hK.1 (hH.P1 hob) hci (q0 := 0) rfl, fun U hU hW => ⟨rfl, by rw [hU]; exact hH.1, hK.warm hW⟩⟩ rfl hn hl rfl (lv_room hW8) hdg hf
theorem run_VN (S : CallFix p m c cc nL s args BW own) (hK : KG G s) (hH : HS G B w n s H locs) (hM : Met l y (wsM y bytes maxL ret) rm (Pcx G B w n (.ref b :: As)) Qc mc ms (FA B)) (ce : CeV C y bytes maxL ret na) (lk : Cond.methodLinkNest own index y host ∈ nestW) (hob : w b = some (eO ci fs)) (hci : vwCl[ci]? = some (C, T, N)) (hn : As.length = na) (hl : ls.size = nL) (hst : st = As.reverse ++ .ref b :: rest) (hW8 : (rest.map fun v => v.category).sum ≤ 8) (hdg : decode cc pc = .ok (.invokevirtual index, 3))
    (hR : rm.cells = mc ∧ rm.slots = ms ∧ rm.frames + 1 ≤ R.frames ∧ 8 + (maxL + 11) + rm.locals ≤ R.locals) (hf : cells + mc ≤ R.cells ∧ slots + ms ≤ R.slots) :
    va_Run p l e R s m args below meth c H locs cells slots mc ms (F0 m pc ls st) rest (Qc (Value.ref b :: As).toArray) (FA B) := by
  subst hst
  obtain ⟨hc, hi, hs, hini, hd, ha⟩ := ce
  have hts := S.2.2.2.2
  exact va_runVN S hM ⟨⟨⟨hR.1, hR.2.1, hR.2.2.1, hR.2.2.2, pay_M hc hts, List.mem_cons_self⟩, hts _ hc, hts _ hini, hd, ha.use, va_Nw.use rfl (hK.2.1 _ lk)⟩, hts _ hi, hts _ hs⟩ ⟨Pcx.blind, va_recv hK.1 (hH.P1 hob) hci (q0 := 0) rfl, fun U hU hW => ⟨rfl, by rw [hU]; exact hH.1, hK.warm hW⟩⟩ rfl hn hl rfl (lv_room hW8) hdg hf
theorem run_S (S : CallFix p m c cc nL s args BW own) (hK : KG G s) (hH : HS G B w n s H locs) (hM : Met l y (wsM y bytes maxL ret) rm (Pcx G B w n As) Qc mc ms (FA B)) (ce : CeS y bytes maxL ret na) (lk : Cond.methodLink own index y ∈ BW) (hn : As.length = na) (hl : ls.size = nL) (hst : st = As.reverse ++ rest) (hW8 : (rest.map fun v => v.category).sum ≤ 8) (hdg : decode cc pc = .ok (.invokestatic index, 3))
    (hR : rm.cells = mc ∧ rm.slots = ms ∧ rm.frames + 1 ≤ R.frames ∧ 8 + (maxL + 11) + rm.locals ≤ R.locals) (hf : cells + mc ≤ R.cells ∧ slots + ms ≤ R.slots) :
    va_Run p l e R s m args below meth c H locs cells slots mc ms (F0 m pc ls st) rest (Qc As.toArray) (FA B) := by
  subst hst
  obtain ⟨hc, hs, hini, hd, ha⟩ := ce
  have hts := S.2.2.2.2
  exact va_runS S hM ⟨⟨hR.1, hR.2.1, hR.2.2.1, hR.2.2.2, pay_M hc hts, List.mem_cons_self, hts _ hc, hts _ hini, hd, ha.use, hts _ lk⟩, hts _ hs⟩ ⟨Pcx.blind, fun U hU hW => ⟨rfl, by rw [hU]; exact hH.1, hK.warm hW⟩⟩ rfl hn hl rfl (lv_room hW8) hdg hf
theorem run_SN (S : CallFix p m c cc nL s args BW own) (hK : KG G s) (hH : HS G B w n s H locs) (hM : Met l y (wsM y bytes maxL ret) rm (Pcx G B w n As) Qc mc ms (FA B)) (ce : CeS y bytes maxL ret na) (lk : Cond.methodLinkNest own index y host ∈ nestW) (hn : As.length = na) (hl : ls.size = nL) (hst : st = As.reverse ++ rest) (hW8 : (rest.map fun v => v.category).sum ≤ 8) (hdg : decode cc pc = .ok (.invokestatic index, 3))
    (hR : rm.cells = mc ∧ rm.slots = ms ∧ rm.frames + 1 ≤ R.frames ∧ 8 + (maxL + 11) + rm.locals ≤ R.locals) (hf : cells + mc ≤ R.cells ∧ slots + ms ≤ R.slots) :
    va_Run p l e R s m args below meth c H locs cells slots mc ms (F0 m pc ls st) rest (Qc As.toArray) (FA B) := by
  subst hst
  obtain ⟨hc, hs, hini, hd, ha⟩ := ce
  have hts := S.2.2.2.2
  exact va_runSN S hM ⟨⟨⟨hR.1, hR.2.1, hR.2.2.1, hR.2.2.2, pay_M hc hts, List.mem_cons_self⟩, hts _ hc, hts _ hini, hd, ha.use, va_Nw.use rfl (hK.2.1 _ lk)⟩, hts _ hs, trivial⟩ ⟨Pcx.blind, fun U hU hW => ⟨rfl, by rw [hU]; exact hH.1, hK.warm hW⟩⟩ rfl hn hl rfl (lv_room hW8) hdg hf
theorem run_I (S : CallFix p m c cc nL s args BW own) (hK : KG G s) (hH : HS G B w n s H locs) (hM : Met l y (wsM y bytes maxL none) rm (Pcx G B w n (.ref b :: As)) Qc mc ms (FA B)) (ce : CeI y bytes maxL na) (lk : Cond.methodLink own index y ∈ BW) (hn : As.length = na) (hl : ls.size = nL) (hst : st = As.reverse ++ .ref b :: rest) (hW8 : (rest.map fun v => v.category).sum ≤ 8) (hdg : decode cc pc = .ok (.invokespecial index, 3))
    (hR : rm.cells = mc ∧ rm.slots = ms ∧ rm.frames + 1 ≤ R.frames ∧ 8 + (maxL + 11) + rm.locals ≤ R.locals) (hf : cells + mc ≤ R.cells ∧ slots + ms ≤ R.slots) :
    va_Run p l e R s m args below meth c H locs cells slots mc ms (F0 m pc ls st) rest (Qc (Value.ref b :: As).toArray) (FA B) := by
  subst hst
  obtain ⟨hc, hi, hnm, hini, hd, ha⟩ := ce
  have hts := S.2.2.2.2
  exact va_runI S hM ⟨⟨hR.1, hR.2.1, hR.2.2.1, hR.2.2.2, pay_M hc hts, List.mem_cons_self, hts _ hc, hts _ hini, hd, ha.use, hts _ lk⟩, hnm, hts _ hi⟩ ⟨Pcx.blind, fun U hU hW => ⟨rfl, by rw [hU]; exact hH.1, hK.warm hW⟩⟩ rfl hn hl rfl (lv_room hW8) hdg hf
theorem run_IN (S : CallFix p m c cc nL s args BW own) (hK : KG G s) (hH : HS G B w n s H locs) (hM : Met l y (wsM y bytes maxL none) rm (Pcx G B w n (.ref b :: As)) Qc mc ms (FA B)) (ce : CeI y bytes maxL na) (lk : Cond.methodLinkNest own index y host ∈ nestW) (hn : As.length = na) (hl : ls.size = nL) (hst : st = As.reverse ++ .ref b :: rest) (hW8 : (rest.map fun v => v.category).sum ≤ 8) (hdg : decode cc pc = .ok (.invokespecial index, 3))
    (hR : rm.cells = mc ∧ rm.slots = ms ∧ rm.frames + 1 ≤ R.frames ∧ 8 + (maxL + 11) + rm.locals ≤ R.locals) (hf : cells + mc ≤ R.cells ∧ slots + ms ≤ R.slots) :
    va_Run p l e R s m args below meth c H locs cells slots mc ms (F0 m pc ls st) rest (Qc (Value.ref b :: As).toArray) (FA B) := by
  subst hst
  obtain ⟨hc, hi, hnm, hini, hd, ha⟩ := ce
  have hts := S.2.2.2.2
  exact va_runIN S hM ⟨⟨⟨hR.1, hR.2.1, hR.2.2.1, hR.2.2.2, pay_M hc hts, List.mem_cons_self⟩, hts _ hc, hts _ hini, hd, ha.use, va_Nw.use rfl (hK.2.1 _ lk)⟩, hnm, hts _ hi⟩ ⟨Pcx.blind, fun U hU hW => ⟨rfl, by rw [hU]; exact hH.1, hK.warm hW⟩⟩ rfl hn hl rfl (lv_room hW8) hdg hf
variable {a : Array Value}
theorem ck_i {post : Int32 → Wm → Nat → Prop} (hr : va_Run p l e R s m args below meth c H locs cells slots mc ms (F0 m pc ls st) rest (Qi G B post a) (FA B)) (hH : HS G B w n s H locs) (kk : ∀ (r : Int32) (w' : Wm) (n' : Nat) (H1 : Heap) (locs1 : List Loc), post r w' n' → HS G B w' n' s H1 locs1 → W p l e R s m args below meth c H1 locs1 (cells + mc) (slots + ms) Q (F0 m (pc + 3) ls (.int r :: rest))) : W p l e R s m args below meth c H locs cells slots Q (F0 m pc ls st) :=
  va_calli hr hH.2.1 (fun _ _ h => h) (fun _ h => h) (fun r u t H1 locs1 ht _ hp hB _ _ hS => kk r u.1 u.2 H1 locs1 hp ⟨by rw [← ht]; exact hB, hS, hH.2.2⟩)
theorem ck_l {post : Int64 → Wm → Nat → Prop} (hr : va_Run p l e R s m args below meth c H locs cells slots mc ms (F0 m pc ls st) rest (Ql G B post a) (FA B)) (hH : HS G B w n s H locs) (kk : ∀ (r : Int64) (w' : Wm) (n' : Nat) (H1 : Heap) (locs1 : List Loc), post r w' n' → HS G B w' n' s H1 locs1 → W p l e R s m args below meth c H1 locs1 (cells + mc) (slots + ms) Q (F0 m (pc + 3) ls (.long r :: rest))) : W p l e R s m args below meth c H locs cells slots Q (F0 m pc ls st) :=
  va_calll hr hH.2.1 (fun _ _ h => h) (fun _ h => h) (fun r u t H1 locs1 ht _ hp hB _ _ hS => kk r u.1 u.2 H1 locs1 hp ⟨by rw [← ht]; exact hB, hS, hH.2.2⟩)
theorem ck_v {post : Wm → Nat → Prop} (hr : va_Run p l e R s m args below meth c H locs cells slots mc ms (F0 m pc ls st) rest (Qv G B post a) (FA B)) (hH : HS G B w n s H locs) (kk : ∀ (w' : Wm) (n' : Nat) (H1 : Heap) (locs1 : List Loc), post w' n' → HS G B w' n' s H1 locs1 → W p l e R s m args below meth c H1 locs1 (cells + mc) (slots + ms) Q (F0 m (pc + 3) ls rest)) : W p l e R s m args below meth c H locs cells slots Q (F0 m pc ls st) :=
  va_callv hr hH.2.1 (fun _ _ h => h) (fun _ h => h) (fun u t H1 locs1 ht _ hp hB _ _ hS => kk u.1 u.2 H1 locs1 hp ⟨by rw [← ht]; exact hB, hS, hH.2.2⟩)
theorem ck_r {post : Nat → Wm → Nat → Prop} (hr : va_Run p l e R s m args below meth c H locs cells slots mc ms (F0 m pc ls st) rest (Qr G B post a) (FA B)) (hH : HS G B w n s H locs) (kk : ∀ (r : Nat) (w' : Wm) (n' : Nat) (H1 : Heap) (locs1 : List Loc), post r w' n' → HS G B w' n' s H1 locs1 → W p l e R s m args below meth c H1 locs1 (cells + mc) (slots + ms) Q (F0 m (pc + 3) ls (.ref r :: rest))) : W p l e R s m args below meth c H locs cells slots Q (F0 m pc ls st) :=
  va_callr hr hH.2.1 (fun _ _ h => h) (fun _ h => h) (fun u ra t H1 locs1 ht _ _ hB _ _ hS => kk ra u.1 u.2 H1 locs1 hB.1 ⟨by rw [← ht]; exact hB.2, hS, hH.2.2⟩)
/-- calls that change nothing -/
theorem ck_ip {post : Int32 → Prop} (hr : va_Run p l e R s m args below meth c H locs cells slots mc ms (F0 m pc ls st) rest (Qi G B (fun r w' n' => w' = w ∧ n' = n ∧ post r) a) (FA B)) (hH : HS G B w n s H locs) (kk : ∀ (r : Int32) (H1 : Heap) (locs1 : List Loc), post r → HS G B w n s H1 locs1 → W p l e R s m args below meth c H1 locs1 (cells + mc) (slots + ms) Q (F0 m (pc + 3) ls (.int r :: rest))) : W p l e R s m args below meth c H locs cells slots Q (F0 m pc ls st) :=
  ck_i hr hH (fun r w' n' H1 locs1 hp h1 => kk r H1 locs1 hp.2.2 (by rw [← hp.1, ← hp.2.1]; exact h1))
theorem ck_lp {post : Int64 → Prop} (hr : va_Run p l e R s m args below meth c H locs cells slots mc ms (F0 m pc ls st) rest (Ql G B (fun r w' n' => w' = w ∧ n' = n ∧ post r) a) (FA B)) (hH : HS G B w n s H locs) (kk : ∀ (r : Int64) (H1 : Heap) (locs1 : List Loc), post r → HS G B w n s H1 locs1 → W p l e R s m args below meth c H1 locs1 (cells + mc) (slots + ms) Q (F0 m (pc + 3) ls (.long r :: rest))) : W p l e R s m args below meth c H locs cells slots Q (F0 m pc ls st) :=
  ck_l hr hH (fun r w' n' H1 locs1 hp h1 => kk r H1 locs1 hp.2.2 (by rw [← hp.1, ← hp.2.1]; exact h1))
/-- ends -/
theorem rt_i {post : Int32 → Wm → Nat → Prop} {v : Int32} (S : CallFix p m c cc nL s args BW own) (hr : meth.sig.returnType = some .int) (hlk : meth.locks = false) (hH : HS G B w n s H locs) (hdg : decode cc pc = .ok (.ireturn, 1)) (hp : post v w n) : W p l e R s m args below meth c H locs cells slots (MQ below (Qi G B post) args s cells slots (FA B)) (F0 m pc ls [.int v]) :=
  W.iret S.1 S.2.1 hr (fun t ht _ => ⟨⟨v, (w, n), rfl, hp, by show HW G B w n t.heap; rw [ht]; exact hH.1⟩, hH.2.1.F ht⟩) hH.2.1.2.2 hdg hlk
theorem rt_z {post : Int32 → Wm → Nat → Prop} {v : Int32} (S : CallFix p m c cc nL s args BW own) (hr : meth.sig.returnType = some .boolean) (hlk : meth.locks = false) (hH : HS G B w n s H locs) (hdg : decode cc pc = .ok (.ireturn, 1)) (hv : v = 0 ∨ v = 1) (hp : post v w n) : W p l e R s m args below meth c H locs cells slots (MQ below (Qi G B post) args s cells slots (FA B)) (F0 m pc ls [.int v]) :=
  W.zret S.1 S.2.1 hr (by rcases hv with rfl | rfl <;> rfl) (fun t ht _ => ⟨⟨v, (w, n), rfl, hp, by show HW G B w n t.heap; rw [ht]; exact hH.1⟩, hH.2.1.F ht⟩) hH.2.1.2.2 hdg hlk
theorem rt_l {post : Int64 → Wm → Nat → Prop} {v : Int64} (S : CallFix p m c cc nL s args BW own) (hr : meth.sig.returnType = some .long) (hlk : meth.locks = false) (hH : HS G B w n s H locs) (hdg : decode cc pc = .ok (.lreturn, 1)) (hp : post v w n) : W p l e R s m args below meth c H locs cells slots (MQ below (Ql G B post) args s cells slots (FA B)) (F0 m pc ls [.long v]) :=
  W.lret S.1 S.2.1 hr (fun t ht _ => ⟨⟨v, (w, n), rfl, hp, by show HW G B w n t.heap; rw [ht]; exact hH.1⟩, hH.2.1.F ht⟩) hH.2.1.2.2 hdg hlk
theorem rt_v {post : Wm → Nat → Prop} (S : CallFix p m c cc nL s args BW own) (hr : meth.sig.returnType = none) (hlk : meth.locks = false) (hH : HS G B w n s H locs) (hdg : decode cc pc = .ok (.return_, 1)) (hp : post w n) : W p l e R s m args below meth c H locs cells slots (MQ below (Qv G B post) args s cells slots (FA B)) (F0 m pc ls []) :=
  W.vret S.1 S.2.1 hr (fun t ht _ => ⟨⟨(w, n), rfl, hp, by show HW G B w n t.heap; rw [ht]; exact hH.1⟩, hH.2.1.F ht⟩) hH.2.1.2.2 hdg hlk
theorem rt_r {post : Nat → Wm → Nat → Prop} {v : Nat} {nm : String} (S : CallFix p m c cc nL s args BW own) (hr : meth.sig.returnType = some (.object nm)) (hlk : meth.locks = false) (hH : HS G B w n s H locs) (hdg : decode cc pc = .ok (.areturn, 1)) (hp : post v w n) : W p l e R s m args below meth c H locs cells slots (MQ below (Qr G B post) args s cells slots (FA B)) (F0 m pc ls [.ref v]) :=
  W.aret S.1 S.2.1 hr (Or.inl ⟨_, rfl⟩) (Or.inr ⟨_, rfl⟩) (fun t ht _ => ⟨⟨(w, n), v, rfl, trivial, hp, by show HW G B w n t.heap; rw [ht]; exact hH.1⟩, hH.2.1.F ht⟩) hH.2.1.2.2 hdg hlk
end MK
/-- a method's start -/
theorem en {l : Launch} {y : MethodName} {bytes : ByteArray} {maxL : Nat} {ret : Option FieldType} {rm : Room} {G : Gx} {B : Nat} {w : Wm} {n : Nat} {av : List Value} {Qc : Array Value → State → Outcome → State → Prop} {mc ms : Nat} (hy : plainName y.cls = true) (hav : (lg_sl av).length ≤ maxL)
    (body : ∀ (p : Program) (e : Env) (s : State) (m : MethodId) (args : Array Value) (below : List Frame) (meth : Method) (c : Code), CallFix p m c bytes maxL s args BW y.cls → meth.sig.returnType = ret → meth.locks = false → meth.name = y.name → KG G s → ∀ H : Heap, HS G B w n s H [] → ∀ ls : Array Slot, lv_has ls maxL (lv_args 0 av) → W p l e rm s m args below meth c H [] 0 0 (MQ below Qc args s mc ms (FA B)) (F0 m 0 ls [])) :
    Met l y (wsM y bytes maxL ret) rm (Pcx G B w n av) Qc mc ms (FA B) := by
  refine Met.ofW (cc := bytes) (maxL := maxL) (ret := ret) hy rfl ?_
  intro p e s m args below meth c s₁ Bd hml hv
  obtain ⟨rfl, hW, hK⟩ := hv
  have hts := atoms_spec (ws := wsM y bytes maxL ret) Bd.pre
  have hl := lv_entry av (n := maxL) hav
  rw [lg_entry_eq]
  exact body p e s m _ below meth c ⟨Bd.exec, Bd.bytes, hml, findClass_of_methodNamed Bd.named, fun w hw => hts w (List.mem_cons_of_mem _ hw)⟩ Bd.returns Bd.notSynchronized (name_of_methodNamed Bd.named Bd.method).1 hK s.heap ⟨hW, va_S.rf, by rw [hW.1]; exact hW.2.1⟩ _ hl
end
section
/-! ===== rows of an instruction over my worlds ===== -/
section RU
variable {p : Program} {l : Launch} {e : Env} {R : Room} {s : State} {m : MethodId} {args : Array Value} {below : List Frame} {meth : Method} {c : Code} {H : Heap} {locs : List Loc} {cells slots : Nat} {Q : State → Prop}
variable {cc : ByteArray} {nL index pc ci n B N : Nat} {own C host : String} {G : Gx} {w : Wm} {rest : List Value} {fs : List Value} {ls : Array Slot} {T : u_T}
theorem fget {a : Nat} (S : CallFix p m c cc nL s args BW own) (hK : KG G s) (hH : HS G B w n s H locs) (he : w a = some (eO ci fs)) (hci : vwCl[ci]? = some (C, T, N)) (hin : ∀ x ∈ u_ws C T N, x ∈ BW) (k : Nat) (hk : k < N) (lk : Cond.fieldLink own index (T k).1 (T k).2.1 (T k).2.2.1 ∈ BW) {v : Value} (hv : fs[k]? = some v) (hdg : decode cc pc = .ok (.getfield index, 3))
    (kk : W p l e R s m args below meth c H locs cells slots Q (F0 m (pc + 3) ls (v :: rest))) : W p l e R s m args below meth c H locs cells slots Q (F0 m pc ls (.ref a :: rest)) :=
  va_get S.1 S.2.1 S.2.2.2.2 hin S.2.2.2.1 hK.1 (hH.P1 he) 0 rfl hci k hk (S.2.2.2.2 _ lk) (fun _ h => h) hv hdg kk
theorem fgetN {a : Nat} (S : CallFix p m c cc nL s args BW own) (hK : KG G s) (hH : HS G B w n s H locs) (he : w a = some (eO ci fs)) (hci : vwCl[ci]? = some (C, T, N)) (hin : ∀ x ∈ u_ws C T N, x ∈ BW) (k : Nat) (hk : k < N) (lk : Cond.fieldLinkNest own index (T k).1 (T k).2.1 (T k).2.2.1 host ∈ nestW) {v : Value} (hv : fs[k]? = some v) (hdg : decode cc pc = .ok (.getfield index, 3))
    (kk : W p l e R s m args below meth c H locs cells slots Q (F0 m (pc + 3) ls (v :: rest))) : W p l e R s m args below meth c H locs cells slots Q (F0 m pc ls (.ref a :: rest)) :=
  va_getN S.1 S.2.1 S.2.2.2.2 hin S.2.2.2.1 hK.1 (hH.P1 he) 0 rfl hci k hk (va_Nw.use rfl (hK.2.1 _ lk)) (fun _ h => h) hv hdg kk
theorem fput {a : Nat} (S : CallFix p m c cc nL s args BW own) (hK : KG G s) (hH : HS G B w n s H locs) (he : w a = some (eO ci fs)) (hci : vwCl[ci]? = some (C, T, N)) (hin : ∀ x ∈ u_ws C T N, x ∈ BW) (ty0 : Nat → FieldType) (hty : ∀ k, k < N → parseFieldDescriptor (T k).2.2.1 = some (ty0 k)) (hnm : ∀ a, a < N → ∀ b, b < N → a ≠ b → (T a).2.1 ≠ (T b).2.1) (k : Nat) (hk : k < N) (lk : Cond.fieldLink own index (T k).1 (T k).2.1 (T k).2.2.1 ∈ BW) (hfin : (T k).2.2.2 = false) {v : Value} (hn : narrow (ty0 k) v = v) (hfit : fits (ty0 k) v = true) (hl : k < fs.length) {fs' : List Value} (hfs : fs.set k v = fs') (hdg : decode cc pc = .ok (.putfield index, 3))
    (kk : ∀ (w1 : Wm) (H1 : Heap) (locs1 : List Loc), w1 a = some (eO ci fs') → (∀ b, b ≠ a → w1 b = w b) → HS G B w1 n s H1 locs1 → W p l e R s m args below meth c H1 locs1 cells slots Q (F0 m (pc + 3) ls rest)) : W p l e R s m args below meth c H locs cells slots Q (F0 m pc ls (v :: .ref a :: rest)) := by
  subst hfs
  have hts := S.2.2.2.2
  have hap := va_apart (own := own) hts hin ty0 hty hnm hK.1 hci
  obtain ⟨r, h1, cell, q1, q2, q3, q4⟩ := (hH.1.2.2 a _ he).2
  have hr : r = (C, T, N) := Option.some.inj (h1.symm.trans hci)
  subst hr
  obtain ⟨hS, hfc, kC, hkC, hkind⟩ := hK.1.1 ci _ hci
  obtain ⟨cf, kf, fi, f, hi, hsl⟩ := hS k hk
  have hlay := hts _ (hin _ (u_in_lay hk))
  unfold u_lay at hlay
  rw [if_neg (by rw [hfin]; decide)] at hlay
  have hst := (u_facts hfc hkC (u_lays hts hin hk) hi).1
  have h6 := u_store hfc hkC hkind hlay hi (hty k hk) hn hfit
  refine W.putK S.1 S.2.1 (f := f) ⟨S.2.2.2.1, hts _ lk, ⟨_, _, _, hi⟩, hst⟩ (by rw [q2]; exact h6) q1 q3 (by rw [hsl]; exact k2_hasslot (q4 k hk)) rfl rfl hdg fun H' e1 e2 e3 => ?_
  rw [hsl] at e1 ⊢
  exact kk _ H' _ (va_up_self _ _ _) (fun b hb => va_up_ne _ _ hb) (hH.set he e2 ⟨_, hci, t_OB.to (V := updV (vp_V fs) k v) ⟨_, e1, q2, q3, t_set q4 hap hk v⟩ (fun j _ => vp_updV_set hl v j)⟩ e3)
theorem fputN {a : Nat} (S : CallFix p m c cc nL s args BW own) (hK : KG G s) (hH : HS G B w n s H locs) (he : w a = some (eO ci fs)) (hci : vwCl[ci]? = some (C, T, N)) (hin : ∀ x ∈ u_ws C T N, x ∈ BW) (ty0 : Nat → FieldType) (hty : ∀ k, k < N → parseFieldDescriptor (T k).2.2.1 = some (ty0 k)) (hnm : ∀ a, a < N → ∀ b, b < N → a ≠ b → (T a).2.1 ≠ (T b).2.1) (k : Nat) (hk : k < N) (lk : Cond.fieldLinkNest own index (T k).1 (T k).2.1 (T k).2.2.1 host ∈ nestW) (hfin : (T k).2.2.2 = false) {v : Value} (hn : narrow (ty0 k) v = v) (hfit : fits (ty0 k) v = true) (hl : k < fs.length) {fs' : List Value} (hfs : fs.set k v = fs') (hdg : decode cc pc = .ok (.putfield index, 3))
    (kk : ∀ (w1 : Wm) (H1 : Heap) (locs1 : List Loc), w1 a = some (eO ci fs') → (∀ b, b ≠ a → w1 b = w b) → HS G B w1 n s H1 locs1 → W p l e R s m args below meth c H1 locs1 cells slots Q (F0 m (pc + 3) ls rest)) : W p l e R s m args below meth c H locs cells slots Q (F0 m pc ls (v :: .ref a :: rest)) := by
  subst hfs
  have hts := S.2.2.2.2
  have hap := va_apart (own := own) hts hin ty0 hty hnm hK.1 hci
  obtain ⟨r, h1, cell, q1, q2, q3, q4⟩ := (hH.1.2.2 a _ he).2
  have hr : r = (C, T, N) := Option.some.inj (h1.symm.trans hci)
  subst hr
  obtain ⟨hS, hfc, kC, hkC, hkind⟩ := hK.1.1 ci _ hci
  obtain ⟨cf, kf, fi, f, hi, hsl⟩ := hS k hk
  have hlay := hts _ (hin _ (u_in_lay hk))
  unfold u_lay at hlay
  rw [if_neg (by rw [hfin]; decide)] at hlay
  have hst := (u_facts hfc hkC (u_lays hts hin hk) hi).1
  have h6 := u_store hfc hkC hkind hlay hi (hty k hk) hn hfit
  refine va_WputK S.1 S.2.1 (f := f) S.2.2.2.1 (va_Nw.use rfl (hK.2.1 _ lk)) hi hst (by rw [q2]; exact h6) q1 q3 (by rw [hsl]; exact k2_hasslot (q4 k hk)) rfl rfl hdg fun H' e1 e2 e3 => ?_
  rw [hsl] at e1 ⊢
  exact kk _ H' _ (va_up_self _ _ _) (fun b hb => va_up_ne _ _ hb) (hH.set he e2 ⟨_, hci, t_OB.to (V := updV (vp_V fs) k v) ⟨_, e1, q2, q3, t_set q4 hap hk v⟩ (fun j _ => vp_updV_set hl v j)⟩ e3)
theorem fputF {a : Nat} (S : CallFix p m c cc nL s args BW own) (hK : KG G s) (hH : HS G B w n s H locs) (he : w a = some (eO ci fs)) (hci : vwCl[ci]? = some (C, T, N)) (hin : ∀ x ∈ u_ws C T N, x ∈ BW) (ty0 : Nat → FieldType) (hty : ∀ k, k < N → parseFieldDescriptor (T k).2.2.1 = some (ty0 k)) (hnm : ∀ a, a < N → ∀ b, b < N → a ≠ b → (T a).2.1 ≠ (T b).2.1) (k : Nat) (hk : k < N) (lk : Cond.fieldLink own index (T k).1 (T k).2.1 (T k).2.2.1 ∈ BW) (hfin : (T k).2.2.2 = true) (hin2 : meth.name = "<init>") (hdecl : (T k).1 = own) {v : Value} (hn : narrow (ty0 k) v = v) (hfit : fits (ty0 k) v = true) (hl : k < fs.length) {fs' : List Value} (hfs : fs.set k v = fs') (hdg : decode cc pc = .ok (.putfield index, 3))
    (kk : ∀ (w1 : Wm) (H1 : Heap) (locs1 : List Loc), w1 a = some (eO ci fs') → (∀ b, b ≠ a → w1 b = w b) → HS G B w1 n s H1 locs1 → W p l e R s m args below meth c H1 locs1 cells slots Q (F0 m (pc + 3) ls rest)) : W p l e R s m args below meth c H locs cells slots Q (F0 m pc ls (v :: .ref a :: rest)) := by
  subst hfs
  have hts := S.2.2.2.2
  have hown := S.2.2.2.1
  have hap := va_apart (own := own) hts hin ty0 hty hnm hK.1 hci
  obtain ⟨r, h1, cell, q1, q2, q3, q4⟩ := (hH.1.2.2 a _ he).2
  have hr : r = (C, T, N) := Option.some.inj (h1.symm.trans hci)
  subst hr
  obtain ⟨hS, hfc, kC, hkC, hkind⟩ := hK.1.1 ci _ hci
  obtain ⟨cf, kf, fi, f, hi, hsl⟩ := hS k hk
  have hlay := hts _ (hin _ (u_in_lay hk))
  unfold u_lay at hlay
  rw [if_pos hfin] at hlay
  have hst := (u_facts hfc hkC (u_lays hts hin hk) hi).1
  have hcf : m.cls = cf := by
    obtain ⟨_, _, c', _, _, _, -, -, hf', -, -, -, hown2, -⟩ := Cond.laysFinal_spec hlay
    have e1 : c' = cf := by have := hi.symm.trans hf'; simp at this; exact this.1.symm
    rw [hdecl] at hown2
    rw [← e1]; exact Option.some.inj (hown.symm.trans hown2)
  have h6 := u_fits hfc hkC hkind (Or.inr hlay) hi (hty k hk) hn hfit
  refine W.putFinK S.1 S.2.1 hown (hts _ lk) hi hst hcf hin2 (by rw [q2]; exact h6) q1 q3 (by rw [hsl]; exact k2_hasslot (q4 k hk)) rfl rfl hdg fun H' e1 e2 e3 => ?_
  rw [hsl] at e1 ⊢
  exact kk _ H' _ (va_up_self _ _ _) (fun b hb => va_up_ne _ _ hb) (hH.set he e2 ⟨_, hci, t_OB.to (V := updV (vp_V fs) k v) ⟨_, e1, q2, q3, t_set q4 hap hk v⟩ (fun j _ => vp_updV_set hl v j)⟩ e3)
/-- arrays: the place is nI k -/
theorem ald_i {a k : Nat} {f : Nat → Int32} (S : CallFix p m c cc nL s args BW own) (hK : KG G s) (hH : HS G B w n s H locs) (he : w a = some (eI G N f)) (hk : k < N) (hN : N < 2 ^ 31) (hdg : decode cc pc = .ok (.iaload, 1))
    (kk : W p l e R s m args below meth c H locs cells slots Q (F0 m (pc + 1) ls (.int (f k) :: rest))) : W p l e R s m args below meth c H locs cells slots Q (F0 m pc ls (.int (nI k) :: .ref a :: rest)) :=
  va_iald S.1 S.2.1 hK.1 (hH.P1 he) 0 1 rfl rfl (vp_in_nI hk hN) hdg (by rw [nI_clamp (Nat.lt_trans hk hN)]; exact kk)
theorem ald_l {a k : Nat} {f : Nat → Int64} (S : CallFix p m c cc nL s args BW own) (hK : KG G s) (hH : HS G B w n s H locs) (he : w a = some (eJ G N f)) (hk : k < N) (hN : N < 2 ^ 31) (hdg : decode cc pc = .ok (.laload, 1))
    (kk : W p l e R s m args below meth c H locs cells slots Q (F0 m (pc + 1) ls (.long (f k) :: rest))) : W p l e R s m args below meth c H locs cells slots Q (F0 m pc ls (.int (nI k) :: .ref a :: rest)) :=
  va_lald S.1 S.2.1 hK.1 (hH.P1 he) 0 0 rfl rfl (vp_in_nI hk hN) hdg (by rw [nI_clamp (Nat.lt_trans hk hN)]; exact kk)
theorem ald_a {a k v : Nat} {f : Nat → Option Nat} (S : CallFix p m c cc nL s args BW own) (hK : KG G s) (hH : HS G B w n s H locs) (he : w a = some (eQ G N f)) (hk : k < N) (hN : N < 2 ^ 31) (hv : f k = some v) (hdg : decode cc pc = .ok (.aaload, 1))
    (kk : W p l e R s m args below meth c H locs cells slots Q (F0 m (pc + 1) ls (.ref v :: rest))) : W p l e R s m args below meth c H locs cells slots Q (F0 m pc ls (.int (nI k) :: .ref a :: rest)) :=
  va_aldq S.1 S.2.1 hK.1 (hH.P1 he) 0 2 rfl rfl (vp_in_nI hk hN) hdg (by rw [nI_clamp (Nat.lt_trans hk hN), hv]; exact kk)
theorem ast_i {a k : Nat} {f : Nat → Int32} {x : Int32} (S : CallFix p m c cc nL s args BW own) (hK : KG G s) (hH : HS G B w n s H locs) (he : w a = some (eI G N f)) (hk : k < N) (hN : N < 2 ^ 31) (hdg : decode cc pc = .ok (.iastore, 1))
    (kk : ∀ (w1 : Wm) (H1 : Heap) (locs1 : List Loc), w1 a = some (eI G N (upd f k x)) → (∀ b, b ≠ a → w1 b = w b) → HS G B w1 n s H1 locs1 → W p l e R s m args below meth c H1 locs1 cells slots Q (F0 m (pc + 1) ls rest)) : W p l e R s m args below meth c H locs cells slots Q (F0 m pc ls (.int x :: .int (nI k) :: .ref a :: rest)) := by
  have hin := vp_in_nI hk hN
  refine W.iast S.1 S.2.1 (hH.1.2.2 a _ he).2 ((hK.1.2 1 _ rfl).1 N (fun j => .int (f j))) (fun q => by cases q) (by show ¬ (nI k < 0 ∨ (arrV _ _ _).slots.size ≤ _); rw [arrV_size]; exact hin) rfl rfl hdg fun H1 e z oq => ?_
  refine kk _ H1 _ (va_up_self _ _ _) (fun b hb => va_up_ne _ _ hb) (hH.set he z ?_ oq)
  show H1[a]? = some (vp_cell _ _)
  rw [e]
  rw [vp_cell_i, vp_cell_i, arrV_store, nI_clamp (Nat.lt_trans hk hN)]
  congr 2
  funext q
  by_cases hq : q = k
  · subst hq
    simp [updV, upd]
  · simp [updV, upd, hq]
theorem ast_l {a k : Nat} {f : Nat → Int64} {x : Int64} (S : CallFix p m c cc nL s args BW own) (hK : KG G s) (hH : HS G B w n s H locs) (he : w a = some (eJ G N f)) (hk : k < N) (hN : N < 2 ^ 31) (hdg : decode cc pc = .ok (.lastore, 1))
    (kk : ∀ (w1 : Wm) (H1 : Heap) (locs1 : List Loc), w1 a = some (eJ G N (vp_updL f k x)) → (∀ b, b ≠ a → w1 b = w b) → HS G B w1 n s H1 locs1 → W p l e R s m args below meth c H1 locs1 cells slots Q (F0 m (pc + 1) ls rest)) : W p l e R s m args below meth c H locs cells slots Q (F0 m pc ls (.long x :: .int (nI k) :: .ref a :: rest)) := by
  have hin := vp_in_nI hk hN
  refine W.last S.1 S.2.1 (hH.1.2.2 a _ he).2 ((hK.1.2 0 _ rfl).1 N (fun j => .long (f j))) (fun q => by cases q) (by show ¬ (nI k < 0 ∨ (arrV _ _ _).slots.size ≤ _); rw [arrV_size]; exact hin) rfl rfl hdg fun H1 e z oq => ?_
  refine kk _ H1 _ (va_up_self _ _ _) (fun b hb => va_up_ne _ _ hb) (hH.set he z ?_ oq)
  show H1[a]? = some (vp_cell _ _)
  rw [e]
  rw [vp_cell_l, vp_cell_l, arrV_store, nI_clamp (Nat.lt_trans hk hN)]
  congr 2
  funext q
  by_cases hq : q = k
  · subst hq
    simp [updV, vp_updL]
  · simp [updV, vp_updL, hq]
theorem ast_a {a k v : Nat} {f : Nat → Option Nat} {vs : List Value} (S : CallFix p m c cc nL s args BW own) (hK : KG G s) (hH : HS G B w n s H locs) (he : w a = some (eQ G N f)) (hv : w v = some (eO 1 vs)) (hk : k < N) (hN : N < 2 ^ 31) (hdg : decode cc pc = .ok (.aastore, 1))
    (kk : ∀ (w1 : Wm) (H1 : Heap) (locs1 : List Loc), w1 a = some (eQ G N (va_up f k (some v))) → (∀ b, b ≠ a → w1 b = w b) → HS G B w1 n s H1 locs1 → W p l e R s m args below meth c H1 locs1 cells slots Q (F0 m (pc + 1) ls rest)) : W p l e R s m args below meth c H locs cells slots Q (F0 m pc ls (.ref v :: .int (nI k) :: .ref a :: rest)) := by
  have hc := nI_clamp (Nat.lt_trans hk hN)
  have h0 : ¬ nI k < 0 := nI_pos (Nat.lt_trans hk hN)
  obtain ⟨r', hr', cellV, g1, g2, g3, -⟩ := (hH.1.2.2 v _ hv).2
  have hcls := (hK.1.1 1 _ rfl).2
  obtain ⟨kA, comp, k1, k2, k3, -⟩ := (hK.1.2 2 _ rfl).2
  have hcomp : comp = G.1.1 1 := Option.some.inj (k3.symm.trans hcls.1)
  subst hcomp
  obtain ⟨kC, hkC, -⟩ := hcls.2
  refine W.aast S.1 S.2.1 (hH.1.2.2 a _ he).2 (fun q h => by cases h) (fun h => by cases h) k1 k2 rfl hkC ⟨h0, by show _ < (arrV _ _ _).slots.size; rw [arrV_size, hc]; exact hk⟩ g1 (fun q h => by rw [g3] at h; cases h) (by rw [g2]; exact hkC) (by rw [g2]; exact va_assign hcls) rfl rfl hdg fun H1 e z oq => ?_
  refine kk _ H1 _ (va_up_self _ _ _) (fun b hb => va_up_ne _ _ hb) (hH.set he z ?_ oq)
  show H1[a]? = some (vp_cell _ _)
  rw [e]
  rw [vp_cell_q, vp_cell_q, arrV_store, hc]
  congr 2
  funext q
  by_cases hq : q = k
  · subst hq
    simp [updV, va_up, va_rf]
  · simp [updV, va_up, hq]
theorem aln_i {a : Nat} {f : Nat → Int32} (S : CallFix p m c cc nL s args BW own) (hK : KG G s) (hH : HS G B w n s H locs) (he : w a = some (eI G N f)) (hdg : decode cc pc = .ok (.arraylength, 1))
    (kk : W p l e R s m args below meth c H locs cells slots Q (F0 m (pc + 1) ls (.int (nI N) :: rest))) : W p l e R s m args below meth c H locs cells slots Q (F0 m pc ls (.ref a :: rest)) :=
  va_alen S.1 S.2.1 hK.1 (hH.P1 he) 0 1 rfl rfl rfl hdg kk
theorem aln_l {a : Nat} {f : Nat → Int64} (S : CallFix p m c cc nL s args BW own) (hK : KG G s) (hH : HS G B w n s H locs) (he : w a = some (eJ G N f)) (hdg : decode cc pc = .ok (.arraylength, 1))
    (kk : W p l e R s m args below meth c H locs cells slots Q (F0 m (pc + 1) ls (.int (nI N) :: rest))) : W p l e R s m args below meth c H locs cells slots Q (F0 m pc ls (.ref a :: rest)) :=
  va_alen S.1 S.2.1 hK.1 (hH.P1 he) 0 0 rfl rfl rfl hdg kk
theorem nwa_i (S : CallFix p m c cc nL s args BW own) (hK : KG G s) (hH : HS G B w n s H locs) (harr : Cond.arrayClass .int ∈ BW) (hN : N < 2 ^ 24) (hcells : cells + 1 ≤ R.cells) (hslots : slots + N ≤ R.slots) (hdg : decode cc pc = .ok (.newarray .int, 2))
    (kk : ∀ (w1 : Wm) (H1 : Heap), w1 n = some (eI G N (fun _ => 0)) → (∀ b, b ≠ n → w1 b = w b) → HS G B w1 (n + 1) s H1 locs → W p l e R s m args below meth c H1 locs (cells + 1) (slots + N) Q (F0 m (pc + 2) ls (.ref n :: rest))) : W p l e R s m args below meth c H locs cells slots Q (F0 m pc ls (.int (nI N) :: rest)) := by
  have h31 : N < 2 ^ 31 := Nat.lt_trans hN (by decide)
  refine va_newaK (atype := .int) S.1 S.2.1 (S.2.2.2.2 _ harr) rfl hdg rfl (nI_pos h31) (nI_clamp h31) (by show N * 4 ≤ _; omega) hcells hslots hH.1.1 fun H1 cA e1 z1 o1 hAr hNm => ?_
  have hcA : cA = G.2.2.1 := Option.some.inj (hNm.symm.trans (hK.1.2 1 _ rfl).2)
  subst hcA
  exact kk _ H1 (va_up_self _ _ _) (fun b hb => va_up_ne _ _ hb) (hH.push z1 (by show H1[n]? = some (vp_cell _ _); rw [vp_cell_i]; exact e1) o1)
theorem nwa_l (S : CallFix p m c cc nL s args BW own) (hK : KG G s) (hH : HS G B w n s H locs) (harr : Cond.arrayClass .long ∈ BW) (hN : N < 2 ^ 24) (hcells : cells + 1 ≤ R.cells) (hslots : slots + N ≤ R.slots) (hdg : decode cc pc = .ok (.newarray .long, 2))
    (kk : ∀ (w1 : Wm) (H1 : Heap), w1 n = some (eJ G N (fun _ => 0)) → (∀ b, b ≠ n → w1 b = w b) → HS G B w1 (n + 1) s H1 locs → W p l e R s m args below meth c H1 locs (cells + 1) (slots + N) Q (F0 m (pc + 2) ls (.ref n :: rest))) : W p l e R s m args below meth c H locs cells slots Q (F0 m pc ls (.int (nI N) :: rest)) := by
  have h31 : N < 2 ^ 31 := Nat.lt_trans hN (by decide)
  refine va_newaK (atype := .long) S.1 S.2.1 (S.2.2.2.2 _ harr) rfl hdg rfl (nI_pos h31) (nI_clamp h31) (by show N * 8 ≤ _; omega) hcells hslots hH.1.1 fun H1 cA e1 z1 o1 hAr hNm => ?_
  have hcA : cA = G.2.1 := Option.some.inj (hNm.symm.trans (hK.1.2 0 _ rfl).2)
  subst hcA
  exact kk _ H1 (va_up_self _ _ _) (fun b hb => va_up_ne _ _ hb) (hH.push z1 (by show H1[n]? = some (vp_cell _ _); rw [vp_cell_l]; exact e1) o1)
theorem nwa_q (S : CallFix p m c cc nL s args BW own) (hK : KG G s) (hH : HS G B w n s H locs) (lk : Cond.classLink own index "PolyDesk$Poly" ∈ BW) (hN : N < 2 ^ 24) (hcells : cells + 1 ≤ R.cells) (hslots : slots + N ≤ R.slots) (hdg : decode cc pc = .ok (.anewarray index, 3))
    (kk : ∀ (w1 : Wm) (H1 : Heap), w1 n = some (eQ G N (fun _ => none)) → (∀ b, b ≠ n → w1 b = w b) → HS G B w1 (n + 1) s H1 locs → W p l e R s m args below meth c H1 locs (cells + 1) (slots + N) Q (F0 m (pc + 3) ls (.ref n :: rest))) : W p l e R s m args below meth c H locs cells slots Q (F0 m pc ls (.int (nI N) :: rest)) := by
  have h31 : N < 2 ^ 31 := Nat.lt_trans hN (by decide)
  have hc := nI_clamp h31
  refine W.anew S.1 S.2.1 S.2.2.2.1 (S.2.2.2.2 _ lk) (va_AO.use hK.2.2) rfl hdg rfl (nI_pos h31) (by rw [hc]; omega) hcells (by rw [hc]; exact hslots) fun cA kA comp f1 f2 f3 f4 => ?_
  rw [hc]
  generalize hH1 : H.push ({ cls := cA, slots := Array.replicate N .null, vm := .none } : Cell) = H1
  have z1 : H1.size = n + 1 := by rw [← hH1, Array.size_push, hH.1.1]
  have e1 : H1[n]? = some (arrV cA N (fun _ => .null)) := by rw [← hH1, ← hH.1.1, Array.getElem?_push_size, ← arrV_new]
  have o1 : ∀ q : Nat, q < n → H1[q]? = H[q]? := fun q hq => by rw [← hH1, Array.getElem?_push, if_neg (by rw [hH.1.1]; exact Nat.ne_of_lt hq)]
  obtain ⟨-, -, -, -, -, k4⟩ := (hK.1.2 2 _ rfl).2
  have hcA : cA = G.2.2.2 := Option.some.inj (f1.symm.trans k4)
  subst hcA
  have hz : H.size = n := hH.1.1
  rw [hz]
  exact kk _ H1 (va_up_self _ _ _) (fun b hb => va_up_ne _ _ hb) (hH.push z1 (by show H1[n]? = some (vp_cell _ _); rw [vp_cell_q]; exact e1) o1)
theorem nwo (S : CallFix p m c cc nL s args BW own) (hK : KG G s) (hH : HS G B w n s H locs) (hci : vwCl[ci]? = some (C, T, N)) (hin : ∀ x ∈ u_ws C T N, x ∈ BW) (ty : Nat → FieldType) (hty : ∀ k, k < N → parseFieldDescriptor (T k).2.2.1 = some (ty k)) (lk : Cond.classLink own index C ∈ BW) (hinst : Cond.instantiable C N ∈ BW) (hini : Cond.initialized C ∈ BW) (hfs : ∀ j, j < N → defaultValue (ty j) = vp_V fs j) (hcells : cells + 1 ≤ R.cells) (hslots : slots + N ≤ R.slots) (hdg : decode cc pc = .ok (.new index, 3))
    (kk : ∀ (w1 : Wm) (H1 : Heap), w1 n = some (eO ci fs) → (∀ b, b ≠ n → w1 b = w b) → HS G B w1 (n + 1) s H1 locs → W p l e R s m args below meth c H1 locs (cells + 1) (slots + N) Q (F0 m (pc + 3) ls (.ref n :: rest))) : W p l e R s m args below meth c H locs cells slots Q (F0 m pc ls rest) := by
  have hts := S.2.2.2.2
  have hKn := hK.1.1 ci _ hci
  refine W.newcK S.1 S.2.1 S.2.2.2.1 (hts _ lk) (hts _ hinst) (hts _ hini) rfl hdg hcells hslots hKn.2.1 hH.1.1 fun H1 kC hkC e1 z1 o1 => ?_
  exact kk _ H1 (va_up_self _ _ _) (fun b hb => va_up_ne _ _ hb) (hH.push z1 ⟨_, hci, (u_born ty hts hin hKn hkC e1 hty).to hfs⟩ o1)
/-- a loop: the measure k falls -/
theorem wlp {P : Nat → Array Slot → Heap → List Loc → Prop} (step : ∀ (k : Nat) (ls : Array Slot) (H : Heap) (locs : List Loc), P k ls H locs → (∀ (k' : Nat) (ls' : Array Slot) (H' : Heap) (locs' : List Loc), k' < k → P k' ls' H' locs' → W p l e R s m args below meth c H' locs' cells slots Q (F0 m pc ls' [])) → W p l e R s m args below meth c H locs cells slots Q (F0 m pc ls [])) {k0 : Nat} (h0 : P k0 ls H locs) : W p l e R s m args below meth c H locs cells slots Q (F0 m pc ls []) := by
  induction k0 using Nat.strongRecOn generalizing ls H locs with
  | _ k ih => exact step k ls H locs h0 (fun k' ls' H' locs' hk hP => ih k' hk hP)
/-- a place that is come to by several ways -/
theorem wcut {σ : Type} {P : σ → Array Slot → Heap → List Loc → Prop} {st' : σ → List Value} {g : JFrame} (pc' : Nat) (k : ∀ (x : σ) (ls : Array Slot) (H : Heap) (locs : List Loc), P x ls H locs → W p l e R s m args below meth c H locs cells slots Q (F0 m pc' ls (st' x))) (h : (∀ (x : σ) (ls : Array Slot) (H : Heap) (locs : List Loc), P x ls H locs → W p l e R s m args below meth c H locs cells slots Q (F0 m pc' ls (st' x))) → W p l e R s m args below meth c H locs cells slots Q g) : W p l e R s m args below meth c H locs cells slots Q g := h k
/-- branches on counted numbers -/
theorem bn_ge {a b : Nat} {off : Int} {tgt : Nat} (S : CallFix p m c cc nL s args BW own) (hdg : decode cc pc = .ok (.if_icmp .ge off, 3)) (ht : (pc : Int) + off = (tgt : Int)) (hb : a < 2 ^ 31 ∧ b < 2 ^ 31) (k1 : b ≤ a → W p l e R s m args below meth c H locs cells slots Q (F0 m tgt ls rest)) (k2 : a < b → W p l e R s m args below meth c H locs cells slots Q (F0 m (pc + 3) ls rest)) : W p l e R s m args below meth c H locs cells slots Q (F0 m pc ls (.int (nI b) :: .int (nI a) :: rest)) :=
  lv_icmp_ge S.1 S.2.1 hdg ht (fun h => k1 ((nI_leI hb.2 hb.1).mp h)) (fun h => k2 (Nat.lt_of_not_le (fun q => h ((nI_leI hb.2 hb.1).mpr q))))
theorem bn_lt {a b : Nat} {off : Int} {tgt : Nat} (S : CallFix p m c cc nL s args BW own) (hdg : decode cc pc = .ok (.if_icmp .lt off, 3)) (ht : (pc : Int) + off = (tgt : Int)) (hb : a < 2 ^ 31 ∧ b < 2 ^ 31) (k1 : a < b → W p l e R s m args below meth c H locs cells slots Q (F0 m tgt ls rest)) (k2 : b ≤ a → W p l e R s m args below meth c H locs cells slots Q (F0 m (pc + 3) ls rest)) : W p l e R s m args below meth c H locs cells slots Q (F0 m pc ls (.int (nI b) :: .int (nI a) :: rest)) :=
  lv_icmp_lt S.1 S.2.1 hdg ht (fun h => k1 ((nI_ltI hb.1 hb.2).mp h)) (fun h => k2 (Nat.le_of_not_lt (fun q => h ((nI_ltI hb.1 hb.2).mpr q))))
theorem bn_gt {a b : Nat} {off : Int} {tgt : Nat} (S : CallFix p m c cc nL s args BW own) (hdg : decode cc pc = .ok (.if_icmp .gt off, 3)) (ht : (pc : Int) + off = (tgt : Int)) (hb : a < 2 ^ 31 ∧ b < 2 ^ 31) (k1 : b < a → W p l e R s m args below meth c H locs cells slots Q (F0 m tgt ls rest)) (k2 : a ≤ b → W p l e R s m args below meth c H locs cells slots Q (F0 m (pc + 3) ls rest)) : W p l e R s m args below meth c H locs cells slots Q (F0 m pc ls (.int (nI b) :: .int (nI a) :: rest)) :=
  lv_icmp_gt S.1 S.2.1 hdg ht (fun h => k1 ((nI_ltI hb.2 hb.1).mp h)) (fun h => k2 (Nat.le_of_not_lt (fun q => h ((nI_ltI hb.2 hb.1).mpr q))))
theorem bn_le {a b : Nat} {off : Int} {tgt : Nat} (S : CallFix p m c cc nL s args BW own) (hdg : decode cc pc = .ok (.if_icmp .le off, 3)) (ht : (pc : Int) + off = (tgt : Int)) (hb : a < 2 ^ 31 ∧ b < 2 ^ 31) (k1 : a ≤ b → W p l e R s m args below meth c H locs cells slots Q (F0 m tgt ls rest)) (k2 : b < a → W p l e R s m args below meth c H locs cells slots Q (F0 m (pc + 3) ls rest)) : W p l e R s m args below meth c H locs cells slots Q (F0 m pc ls (.int (nI b) :: .int (nI a) :: rest)) :=
  lv_icmp_le S.1 S.2.1 hdg ht (fun h => k1 ((nI_leI hb.1 hb.2).mp h)) (fun h => k2 (Nat.lt_of_not_le (fun q => h ((nI_leI hb.1 hb.2).mpr q))))
theorem bn_eq {a b : Nat} {off : Int} {tgt : Nat} (S : CallFix p m c cc nL s args BW own) (hdg : decode cc pc = .ok (.if_icmp .eq off, 3)) (ht : (pc : Int) + off = (tgt : Int)) (hb : a < 2 ^ 31 ∧ b < 2 ^ 31) (k1 : a = b → W p l e R s m args below meth c H locs cells slots Q (F0 m tgt ls rest)) (k2 : a ≠ b → W p l e R s m args below meth c H locs cells slots Q (F0 m (pc + 3) ls rest)) : W p l e R s m args below meth c H locs cells slots Q (F0 m pc ls (.int (nI b) :: .int (nI a) :: rest)) :=
  lv_icmp_eq S.1 S.2.1 hdg ht (fun h => k1 ((nI_eq hb.1 hb.2).mp h)) (fun h => k2 (fun q => h ((nI_eq hb.1 hb.2).mpr q)))
theorem bn_ne {a b : Nat} {off : Int} {tgt : Nat} (S : CallFix p m c cc nL s args BW own) (hdg : decode cc pc = .ok (.if_icmp .ne off, 3)) (ht : (pc : Int) + off = (tgt : Int)) (hb : a < 2 ^ 31 ∧ b < 2 ^ 31) (k1 : a ≠ b → W p l e R s m args below meth c H locs cells slots Q (F0 m tgt ls rest)) (k2 : a = b → W p l e R s m args below meth c H locs cells slots Q (F0 m (pc + 3) ls rest)) : W p l e R s m args below meth c H locs cells slots Q (F0 m pc ls (.int (nI b) :: .int (nI a) :: rest)) :=
  lv_icmp_ne S.1 S.2.1 hdg ht (fun h => k1 (fun q => h ((nI_eq hb.1 hb.2).mpr q))) (fun h => k2 ((nI_eq hb.1 hb.2).mp h))
/-- lcmp and the branch behind it -/
theorem bl_eq {x y : Int64} {off : Int} {tgt : Nat} (S : CallFix p m c cc nL s args BW own) (d1 : decode cc pc = .ok (.lcmp, 1)) (hdg : decode cc (pc + 1) = .ok (.ifCond .eq off, 3)) (ht : ((pc + 1 : Nat) : Int) + off = (tgt : Int)) (k1 : x = y → W p l e R s m args below meth c H locs cells slots Q (F0 m tgt ls rest)) (k2 : x ≠ y → W p l e R s m args below meth c H locs cells slots Q (F0 m (pc + 1 + 3) ls rest)) : W p l e R s m args below meth c H locs cells slots Q (F0 m pc ls (.long y :: .long x :: rest)) :=
  W.lcmp S.1 S.2.1 d1 (lv_if_eq S.1 S.2.1 hdg ht (fun h => k1 ((lg_cmp_eq x y).mp h)) (fun h => k2 (fun q => h ((lg_cmp_eq x y).mpr q))))
theorem bl_ne {x y : Int64} {off : Int} {tgt : Nat} (S : CallFix p m c cc nL s args BW own) (d1 : decode cc pc = .ok (.lcmp, 1)) (hdg : decode cc (pc + 1) = .ok (.ifCond .ne off, 3)) (ht : ((pc + 1 : Nat) : Int) + off = (tgt : Int)) (k1 : x ≠ y → W p l e R s m args below meth c H locs cells slots Q (F0 m tgt ls rest)) (k2 : x = y → W p l e R s m args below meth c H locs cells slots Q (F0 m (pc + 1 + 3) ls rest)) : W p l e R s m args below meth c H locs cells slots Q (F0 m pc ls (.long y :: .long x :: rest)) :=
  W.lcmp S.1 S.2.1 d1 (lv_if_ne S.1 S.2.1 hdg ht (fun h => k1 (fun q => h ((lg_cmp_eq x y).mpr q))) (fun h => k2 ((lg_cmp_eq x y).mp h)))
theorem bl_lt {x y : Int64} {off : Int} {tgt : Nat} (S : CallFix p m c cc nL s args BW own) (d1 : decode cc pc = .ok (.lcmp, 1)) (hdg : decode cc (pc + 1) = .ok (.ifCond .lt off, 3)) (ht : ((pc + 1 : Nat) : Int) + off = (tgt : Int)) (k1 : x < y → W p l e R s m args below meth c H locs cells slots Q (F0 m tgt ls rest)) (k2 : ¬ x < y → W p l e R s m args below meth c H locs cells slots Q (F0 m (pc + 1 + 3) ls rest)) : W p l e R s m args below meth c H locs cells slots Q (F0 m pc ls (.long y :: .long x :: rest)) :=
  W.lcmp S.1 S.2.1 d1 (lv_if_lt S.1 S.2.1 hdg ht (fun h => k1 ((lg_cmp_lt x y).mp h)) (fun h => k2 (fun q => h ((lg_cmp_lt x y).mpr q))))
theorem bl_ge {x y : Int64} {off : Int} {tgt : Nat} (S : CallFix p m c cc nL s args BW own) (d1 : decode cc pc = .ok (.lcmp, 1)) (hdg : decode cc (pc + 1) = .ok (.ifCond .ge off, 3)) (ht : ((pc + 1 : Nat) : Int) + off = (tgt : Int)) (k1 : y ≤ x → W p l e R s m args below meth c H locs cells slots Q (F0 m tgt ls rest)) (k2 : ¬ y ≤ x → W p l e R s m args below meth c H locs cells slots Q (F0 m (pc + 1 + 3) ls rest)) : W p l e R s m args below meth c H locs cells slots Q (F0 m pc ls (.long y :: .long x :: rest)) :=
  W.lcmp S.1 S.2.1 d1 (lv_if_ge S.1 S.2.1 hdg ht (fun h => k1 ((lg_cmp_ge x y).mp h)) (fun h => k2 (fun q => h ((lg_cmp_ge x y).mpr q))))
theorem bl_gt {x y : Int64} {off : Int} {tgt : Nat} (S : CallFix p m c cc nL s args BW own) (d1 : decode cc pc = .ok (.lcmp, 1)) (hdg : decode cc (pc + 1) = .ok (.ifCond .gt off, 3)) (ht : ((pc + 1 : Nat) : Int) + off = (tgt : Int)) (k1 : y < x → W p l e R s m args below meth c H locs cells slots Q (F0 m tgt ls rest)) (k2 : ¬ y < x → W p l e R s m args below meth c H locs cells slots Q (F0 m (pc + 1 + 3) ls rest)) : W p l e R s m args below meth c H locs cells slots Q (F0 m pc ls (.long y :: .long x :: rest)) :=
  W.lcmp S.1 S.2.1 d1 (lv_if_gt S.1 S.2.1 hdg ht (fun h => k1 ((lg_cmp_gt x y).mp h)) (fun h => k2 (fun q => h ((lg_cmp_gt x y).mpr q))))
theorem bl_le {x y : Int64} {off : Int} {tgt : Nat} (S : CallFix p m c cc nL s args BW own) (d1 : decode cc pc = .ok (.lcmp, 1)) (hdg : decode cc (pc + 1) = .ok (.ifCond .le off, 3)) (ht : ((pc + 1 : Nat) : Int) + off = (tgt : Int)) (k1 : x ≤ y → W p l e R s m args below meth c H locs cells slots Q (F0 m tgt ls rest)) (k2 : ¬ x ≤ y → W p l e R s m args below meth c H locs cells slots Q (F0 m (pc + 1 + 3) ls rest)) : W p l e R s m args below meth c H locs cells slots Q (F0 m pc ls (.long y :: .long x :: rest)) :=
  W.lcmp S.1 S.2.1 d1 (lv_if_le S.1 S.2.1 hdg ht (fun h => k1 ((lg_cmp_le x y).mp h)) (fun h => k2 (fun q => h ((lg_cmp_le x y).mpr q))))
/-- ints that are named by a fact -/
theorem tpi {x x' : Int32} (h : x = x') (k : W p l e R s m args below meth c H locs cells slots Q (F0 m pc ls (.int x' :: rest))) : W p l e R s m args below meth c H locs cells slots Q (F0 m pc ls (.int x :: rest)) := h ▸ k
theorem tpl {x x' : Int64} (h : x = x') (k : W p l e R s m args below meth c H locs cells slots Q (F0 m pc ls (.long x' :: rest))) : W p l e R s m args below meth c H locs cells slots Q (F0 m pc ls (.long x :: rest)) := h ▸ k
end RU
end
section
section FL
variable {p : Program} {l : Launch} {e : Env} {R : Room} {s : State} {m : MethodId} {args : Array Value} {below : List Frame} {meth : Method} {c : Code} {H : Heap} {locs : List Loc} {cells slots : Nat} {Q : State → Prop}
variable {cc : ByteArray} {nL pc n B : Nat} {G : Gx} {w : Wm} {rest : List Value} {ls : Array Slot} {a : Nat}
theorem pfX0_14 {v0 v1 v2 v3 v4 : Value} {x : Nat} (S : CallFix p m c cc nL s args BW RX0) (hK : KG G s) (hH : HS G B w n s H locs) (he : w a = some (eO 0 [v0, v1, v2, v3, v4])) (hdg : decode cc pc = .ok (.putfield 14, 3)) (kk : ∀ (w1 : Wm) (H1 : Heap) (locs1 : List Loc), w1 a = some (eO 0 [.ref x, v1, v2, v3, v4]) → (∀ b, b ≠ a → w1 b = w b) → HS G B w1 n s H1 locs1 → W p l e R s m args below meth c H1 locs1 cells slots Q (F0 m (pc + 3) ls rest)) : W p l e R s m args below meth c H locs cells slots Q (F0 m pc ls (.ref x :: .ref a :: rest)) :=
  fput S hK hH he rfl fwX0 tyX0 tyX0_ok nmX0 0 (by decide) mW57 rfl rfl rfl (by show 0 < 5; decide) rfl hdg kk
theorem pfX0_20 {v0 v1 v2 v3 v4 : Value} {x : Nat} (S : CallFix p m c cc nL s args BW RX0) (hK : KG G s) (hH : HS G B w n s H locs) (he : w a = some (eO 0 [v0, v1, v2, v3, v4])) (hdg : decode cc pc = .ok (.putfield 20, 3)) (kk : ∀ (w1 : Wm) (H1 : Heap) (locs1 : List Loc), w1 a = some (eO 0 [v0, .ref x, v2, v3, v4]) → (∀ b, b ≠ a → w1 b = w b) → HS G B w1 n s H1 locs1 → W p l e R s m args below meth c H1 locs1 cells slots Q (F0 m (pc + 3) ls rest)) : W p l e R s m args below meth c H locs cells slots Q (F0 m pc ls (.ref x :: .ref a :: rest)) :=
  fput S hK hH he rfl fwX0 tyX0 tyX0_ok nmX0 1 (by decide) mW59 rfl rfl rfl (by show 1 < 5; decide) rfl hdg kk
theorem pfX0_23 {v0 v1 v2 v3 v4 : Value} {x : Nat} (S : CallFix p m c cc nL s args BW RX0) (hK : KG G s) (hH : HS G B w n s H locs) (he : w a = some (eO 0 [v0, v1, v2, v3, v4])) (hdg : decode cc pc = .ok (.putfield 23, 3)) (kk : ∀ (w1 : Wm) (H1 : Heap) (locs1 : List Loc), w1 a = some (eO 0 [v0, v1, .ref x, v3, v4]) → (∀ b, b ≠ a → w1 b = w b) → HS G B w1 n s H1 locs1 → W p l e R s m args below meth c H1 locs1 cells slots Q (F0 m (pc + 3) ls rest)) : W p l e R s m args below meth c H locs cells slots Q (F0 m pc ls (.ref x :: .ref a :: rest)) :=
  fput S hK hH he rfl fwX0 tyX0 tyX0_ok nmX0 2 (by decide) mW61 rfl rfl rfl (by show 2 < 5; decide) rfl hdg kk
theorem pfX0_26 {v0 v1 v2 v3 v4 : Value} {x : Nat} (S : CallFix p m c cc nL s args BW RX0) (hK : KG G s) (hH : HS G B w n s H locs) (he : w a = some (eO 0 [v0, v1, v2, v3, v4])) (hin2 : meth.name = "<init>") (hdg : decode cc pc = .ok (.putfield 26, 3)) (kk : ∀ (w1 : Wm) (H1 : Heap) (locs1 : List Loc), w1 a = some (eO 0 [v0, v1, v2, .ref x, v4]) → (∀ b, b ≠ a → w1 b = w b) → HS G B w1 n s H1 locs1 → W p l e R s m args below meth c H1 locs1 cells slots Q (F0 m (pc + 3) ls rest)) : W p l e R s m args below meth c H locs cells slots Q (F0 m pc ls (.ref x :: .ref a :: rest)) :=
  fputF S hK hH he rfl fwX0 tyX0 tyX0_ok nmX0 3 (by decide) mW62 rfl hin2 rfl rfl rfl (by show 3 < 5; decide) rfl hdg kk
theorem pfX0_30 {v0 v1 v2 v3 v4 : Value} {x : Int32} (S : CallFix p m c cc nL s args BW RX0) (hK : KG G s) (hH : HS G B w n s H locs) (he : w a = some (eO 0 [v0, v1, v2, v3, v4])) (hdg : decode cc pc = .ok (.putfield 30, 3)) (kk : ∀ (w1 : Wm) (H1 : Heap) (locs1 : List Loc), w1 a = some (eO 0 [v0, v1, v2, v3, .int x]) → (∀ b, b ≠ a → w1 b = w b) → HS G B w1 n s H1 locs1 → W p l e R s m args below meth c H1 locs1 cells slots Q (F0 m (pc + 3) ls rest)) : W p l e R s m args below meth c H locs cells slots Q (F0 m pc ls (.int x :: .ref a :: rest)) :=
  fput S hK hH he rfl fwX0 tyX0 tyX0_ok nmX0 4 (by decide) mW63 rfl rfl rfl (by show 4 < 5; decide) rfl hdg kk
theorem gfX0_14 {v0 v1 v2 v3 v4 : Value} (S : CallFix p m c cc nL s args BW RX0) (hK : KG G s) (hH : HS G B w n s H locs) (he : w a = some (eO 0 [v0, v1, v2, v3, v4])) (hdg : decode cc pc = .ok (.getfield 14, 3)) (kk : W p l e R s m args below meth c H locs cells slots Q (F0 m (pc + 3) ls (v0 :: rest))) : W p l e R s m args below meth c H locs cells slots Q (F0 m pc ls (.ref a :: rest)) :=
  fget S hK hH he rfl fwX0 0 (by decide) mW57 rfl hdg kk
theorem gfX0_20 {v0 v1 v2 v3 v4 : Value} (S : CallFix p m c cc nL s args BW RX0) (hK : KG G s) (hH : HS G B w n s H locs) (he : w a = some (eO 0 [v0, v1, v2, v3, v4])) (hdg : decode cc pc = .ok (.getfield 20, 3)) (kk : W p l e R s m args below meth c H locs cells slots Q (F0 m (pc + 3) ls (v1 :: rest))) : W p l e R s m args below meth c H locs cells slots Q (F0 m pc ls (.ref a :: rest)) :=
  fget S hK hH he rfl fwX0 1 (by decide) mW59 rfl hdg kk
theorem gfX0_23 {v0 v1 v2 v3 v4 : Value} (S : CallFix p m c cc nL s args BW RX0) (hK : KG G s) (hH : HS G B w n s H locs) (he : w a = some (eO 0 [v0, v1, v2, v3, v4])) (hdg : decode cc pc = .ok (.getfield 23, 3)) (kk : W p l e R s m args below meth c H locs cells slots Q (F0 m (pc + 3) ls (v2 :: rest))) : W p l e R s m args below meth c H locs cells slots Q (F0 m pc ls (.ref a :: rest)) :=
  fget S hK hH he rfl fwX0 2 (by decide) mW61 rfl hdg kk
theorem gfX0_49 {v0 v1 v2 v3 v4 : Value} (S : CallFix p m c cc nL s args BW RX0) (hK : KG G s) (hH : HS G B w n s H locs) (he : w a = some (eO 1 [v0, v1, v2, v3, v4])) (hdg : decode cc pc = .ok (.getfield 49, 3)) (kk : W p l e R s m args below meth c H locs cells slots Q (F0 m (pc + 3) ls (v2 :: rest))) : W p l e R s m args below meth c H locs cells slots Q (F0 m pc ls (.ref a :: rest)) :=
  fgetN S hK hH he rfl fwX1 2 (by decide) mN32 rfl hdg kk
theorem gfX0_26 {v0 v1 v2 v3 v4 : Value} (S : CallFix p m c cc nL s args BW RX0) (hK : KG G s) (hH : HS G B w n s H locs) (he : w a = some (eO 0 [v0, v1, v2, v3, v4])) (hdg : decode cc pc = .ok (.getfield 26, 3)) (kk : W p l e R s m args below meth c H locs cells slots Q (F0 m (pc + 3) ls (v3 :: rest))) : W p l e R s m args below meth c H locs cells slots Q (F0 m pc ls (.ref a :: rest)) :=
  fget S hK hH he rfl fwX0 3 (by decide) mW62 rfl hdg kk
theorem gfX0_30 {v0 v1 v2 v3 v4 : Value} (S : CallFix p m c cc nL s args BW RX0) (hK : KG G s) (hH : HS G B w n s H locs) (he : w a = some (eO 0 [v0, v1, v2, v3, v4])) (hdg : decode cc pc = .ok (.getfield 30, 3)) (kk : W p l e R s m args below meth c H locs cells slots Q (F0 m (pc + 3) ls (v4 :: rest))) : W p l e R s m args below meth c H locs cells slots Q (F0 m pc ls (.ref a :: rest)) :=
  fget S hK hH he rfl fwX0 4 (by decide) mW63 rfl hdg kk
theorem gfX0_69 {v0 v1 v2 v3 v4 : Value} (S : CallFix p m c cc nL s args BW RX0) (hK : KG G s) (hH : HS G B w n s H locs) (he : w a = some (eO 1 [v0, v1, v2, v3, v4])) (hdg : decode cc pc = .ok (.getfield 69, 3)) (kk : W p l e R s m args below meth c H locs cells slots Q (F0 m (pc + 3) ls (v0 :: rest))) : W p l e R s m args below meth c H locs cells slots Q (F0 m pc ls (.ref a :: rest)) :=
  fgetN S hK hH he rfl fwX1 0 (by decide) mN27 rfl hdg kk
theorem gfX0_79 {v0 v1 v2 v3 v4 : Value} (S : CallFix p m c cc nL s args BW RX0) (hK : KG G s) (hH : HS G B w n s H locs) (he : w a = some (eO 1 [v0, v1, v2, v3, v4])) (hdg : decode cc pc = .ok (.getfield 79, 3)) (kk : W p l e R s m args below meth c H locs cells slots Q (F0 m (pc + 3) ls (v1 :: rest))) : W p l e R s m args below meth c H locs cells slots Q (F0 m pc ls (.ref a :: rest)) :=
  fgetN S hK hH he rfl fwX1 1 (by decide) mN29 rfl hdg kk
theorem pfX1_18 {v0 v1 v2 v3 v4 : Value} {x : Nat} (S : CallFix p m c cc nL s args BW RX1) (hK : KG G s) (hH : HS G B w n s H locs) (he : w a = some (eO 1 [v0, v1, v2, v3, v4])) (hin2 : meth.name = "<init>") (hdg : decode cc pc = .ok (.putfield 18, 3)) (kk : ∀ (w1 : Wm) (H1 : Heap) (locs1 : List Loc), w1 a = some (eO 1 [.ref x, v1, v2, v3, v4]) → (∀ b, b ≠ a → w1 b = w b) → HS G B w1 n s H1 locs1 → W p l e R s m args below meth c H1 locs1 cells slots Q (F0 m (pc + 3) ls rest)) : W p l e R s m args below meth c H locs cells slots Q (F0 m pc ls (.ref x :: .ref a :: rest)) :=
  fputF S hK hH he rfl fwX1 tyX1 tyX1_ok nmX1 0 (by decide) mW26 rfl hin2 rfl rfl rfl (by show 0 < 5; decide) rfl hdg kk
theorem pfX1_24 {v0 v1 v2 v3 v4 : Value} {x : Nat} (S : CallFix p m c cc nL s args BW RX1) (hK : KG G s) (hH : HS G B w n s H locs) (he : w a = some (eO 1 [v0, v1, v2, v3, v4])) (hin2 : meth.name = "<init>") (hdg : decode cc pc = .ok (.putfield 24, 3)) (kk : ∀ (w1 : Wm) (H1 : Heap) (locs1 : List Loc), w1 a = some (eO 1 [v0, .ref x, v2, v3, v4]) → (∀ b, b ≠ a → w1 b = w b) → HS G B w1 n s H1 locs1 → W p l e R s m args below meth c H1 locs1 cells slots Q (F0 m (pc + 3) ls rest)) : W p l e R s m args below meth c H locs cells slots Q (F0 m pc ls (.ref x :: .ref a :: rest)) :=
  fputF S hK hH he rfl fwX1 tyX1 tyX1_ok nmX1 1 (by decide) mW28 rfl hin2 rfl rfl rfl (by show 1 < 5; decide) rfl hdg kk
theorem pfX1_28 {v0 v1 v2 v3 v4 : Value} {x : Int32} (S : CallFix p m c cc nL s args BW RX1) (hK : KG G s) (hH : HS G B w n s H locs) (he : w a = some (eO 1 [v0, v1, v2, v3, v4])) (hdg : decode cc pc = .ok (.putfield 28, 3)) (kk : ∀ (w1 : Wm) (H1 : Heap) (locs1 : List Loc), w1 a = some (eO 1 [v0, v1, .int x, v3, v4]) → (∀ b, b ≠ a → w1 b = w b) → HS G B w1 n s H1 locs1 → W p l e R s m args below meth c H1 locs1 cells slots Q (F0 m (pc + 3) ls rest)) : W p l e R s m args below meth c H locs cells slots Q (F0 m pc ls (.int x :: .ref a :: rest)) :=
  fput S hK hH he rfl fwX1 tyX1 tyX1_ok nmX1 2 (by decide) mW30 rfl rfl rfl (by show 2 < 5; decide) rfl hdg kk
theorem pfX1_32 {v0 v1 v2 v3 v4 : Value} {x : Nat} (S : CallFix p m c cc nL s args BW RX1) (hK : KG G s) (hH : HS G B w n s H locs) (he : w a = some (eO 1 [v0, v1, v2, v3, v4])) (hin2 : meth.name = "<init>") (hdg : decode cc pc = .ok (.putfield 32, 3)) (kk : ∀ (w1 : Wm) (H1 : Heap) (locs1 : List Loc), w1 a = some (eO 1 [v0, v1, v2, .ref x, v4]) → (∀ b, b ≠ a → w1 b = w b) → HS G B w1 n s H1 locs1 → W p l e R s m args below meth c H1 locs1 cells slots Q (F0 m (pc + 3) ls rest)) : W p l e R s m args below meth c H locs cells slots Q (F0 m pc ls (.ref x :: .ref a :: rest)) :=
  fputF S hK hH he rfl fwX1 tyX1 tyX1_ok nmX1 3 (by decide) mW33 rfl hin2 rfl rfl rfl (by show 3 < 5; decide) rfl hdg kk
theorem pfX1_35 {v0 v1 v2 v3 v4 : Value} {x : Int32} (S : CallFix p m c cc nL s args BW RX1) (hK : KG G s) (hH : HS G B w n s H locs) (he : w a = some (eO 1 [v0, v1, v2, v3, v4])) (hx : x = 0 ∨ x = 1) (hdg : decode cc pc = .ok (.putfield 35, 3)) (kk : ∀ (w1 : Wm) (H1 : Heap) (locs1 : List Loc), w1 a = some (eO 1 [v0, v1, v2, v3, .int x]) → (∀ b, b ≠ a → w1 b = w b) → HS G B w1 n s H1 locs1 → W p l e R s m args below meth c H1 locs1 cells slots Q (F0 m (pc + 3) ls rest)) : W p l e R s m args below meth c H locs cells slots Q (F0 m pc ls (.int x :: .ref a :: rest)) :=
  fput S hK hH he rfl fwX1 tyX1 tyX1_ok nmX1 4 (by decide) mW34 rfl (by rcases hx with rfl | rfl <;> rfl) (by rcases hx with rfl | rfl <;> rfl) (by show 4 < 5; decide) rfl hdg kk
theorem gfX1_28 {v0 v1 v2 v3 v4 : Value} (S : CallFix p m c cc nL s args BW RX1) (hK : KG G s) (hH : HS G B w n s H locs) (he : w a = some (eO 1 [v0, v1, v2, v3, v4])) (hdg : decode cc pc = .ok (.getfield 28, 3)) (kk : W p l e R s m args below meth c H locs cells slots Q (F0 m (pc + 3) ls (v2 :: rest))) : W p l e R s m args below meth c H locs cells slots Q (F0 m pc ls (.ref a :: rest)) :=
  fget S hK hH he rfl fwX1 2 (by decide) mW30 rfl hdg kk
theorem gfX1_18 {v0 v1 v2 v3 v4 : Value} (S : CallFix p m c cc nL s args BW RX1) (hK : KG G s) (hH : HS G B w n s H locs) (he : w a = some (eO 1 [v0, v1, v2, v3, v4])) (hdg : decode cc pc = .ok (.getfield 18, 3)) (kk : W p l e R s m args below meth c H locs cells slots Q (F0 m (pc + 3) ls (v0 :: rest))) : W p l e R s m args below meth c H locs cells slots Q (F0 m pc ls (.ref a :: rest)) :=
  fget S hK hH he rfl fwX1 0 (by decide) mW26 rfl hdg kk
theorem gfX1_24 {v0 v1 v2 v3 v4 : Value} (S : CallFix p m c cc nL s args BW RX1) (hK : KG G s) (hH : HS G B w n s H locs) (he : w a = some (eO 1 [v0, v1, v2, v3, v4])) (hdg : decode cc pc = .ok (.getfield 24, 3)) (kk : W p l e R s m args below meth c H locs cells slots Q (F0 m (pc + 3) ls (v1 :: rest))) : W p l e R s m args below meth c H locs cells slots Q (F0 m pc ls (.ref a :: rest)) :=
  fget S hK hH he rfl fwX1 1 (by decide) mW28 rfl hdg kk
theorem gfX1_35 {v0 v1 v2 v3 v4 : Value} (S : CallFix p m c cc nL s args BW RX1) (hK : KG G s) (hH : HS G B w n s H locs) (he : w a = some (eO 1 [v0, v1, v2, v3, v4])) (hdg : decode cc pc = .ok (.getfield 35, 3)) (kk : W p l e R s m args below meth c H locs cells slots Q (F0 m (pc + 3) ls (v4 :: rest))) : W p l e R s m args below meth c H locs cells slots Q (F0 m pc ls (.ref a :: rest)) :=
  fget S hK hH he rfl fwX1 4 (by decide) mW34 rfl hdg kk
theorem gfX1_32 {v0 v1 v2 v3 v4 : Value} (S : CallFix p m c cc nL s args BW RX1) (hK : KG G s) (hH : HS G B w n s H locs) (he : w a = some (eO 1 [v0, v1, v2, v3, v4])) (hdg : decode cc pc = .ok (.getfield 32, 3)) (kk : W p l e R s m args below meth c H locs cells slots Q (F0 m (pc + 3) ls (v3 :: rest))) : W p l e R s m args below meth c H locs cells slots Q (F0 m pc ls (.ref a :: rest)) :=
  fget S hK hH he rfl fwX1 3 (by decide) mW33 rfl hdg kk
theorem pfX2_14 {v0 v1 v2 v3 v4 v5 v6 : Value} {x : Nat} (S : CallFix p m c cc nL s args BW RX2) (hK : KG G s) (hH : HS G B w n s H locs) (he : w a = some (eO 2 [v0, v1, v2, v3, v4, v5, v6])) (hin2 : meth.name = "<init>") (hdg : decode cc pc = .ok (.putfield 14, 3)) (kk : ∀ (w1 : Wm) (H1 : Heap) (locs1 : List Loc), w1 a = some (eO 2 [.ref x, v1, v2, v3, v4, v5, v6]) → (∀ b, b ≠ a → w1 b = w b) → HS G B w1 n s H1 locs1 → W p l e R s m args below meth c H1 locs1 cells slots Q (F0 m (pc + 3) ls rest)) : W p l e R s m args below meth c H locs cells slots Q (F0 m pc ls (.ref x :: .ref a :: rest)) :=
  fputF S hK hH he rfl fwX2 tyX2 tyX2_ok nmX2 0 (by decide) mW75 rfl hin2 rfl rfl rfl (by show 0 < 7; decide) rfl hdg kk
theorem gfX2_14 {v0 v1 v2 v3 v4 v5 v6 : Value} (S : CallFix p m c cc nL s args BW RX2) (hK : KG G s) (hH : HS G B w n s H locs) (he : w a = some (eO 2 [v0, v1, v2, v3, v4, v5, v6])) (hdg : decode cc pc = .ok (.getfield 14, 3)) (kk : W p l e R s m args below meth c H locs cells slots Q (F0 m (pc + 3) ls (v0 :: rest))) : W p l e R s m args below meth c H locs cells slots Q (F0 m pc ls (.ref a :: rest)) :=
  fget S hK hH he rfl fwX2 0 (by decide) mW75 rfl hdg kk
theorem pfX2_18 {v0 v1 v2 v3 v4 v5 v6 : Value} {x : Nat} (S : CallFix p m c cc nL s args BW RX2) (hK : KG G s) (hH : HS G B w n s H locs) (he : w a = some (eO 2 [v0, v1, v2, v3, v4, v5, v6])) (hin2 : meth.name = "<init>") (hdg : decode cc pc = .ok (.putfield 18, 3)) (kk : ∀ (w1 : Wm) (H1 : Heap) (locs1 : List Loc), w1 a = some (eO 2 [v0, .ref x, v2, v3, v4, v5, v6]) → (∀ b, b ≠ a → w1 b = w b) → HS G B w1 n s H1 locs1 → W p l e R s m args below meth c H1 locs1 cells slots Q (F0 m (pc + 3) ls rest)) : W p l e R s m args below meth c H locs cells slots Q (F0 m pc ls (.ref x :: .ref a :: rest)) :=
  fputF S hK hH he rfl fwX2 tyX2 tyX2_ok nmX2 1 (by decide) mW76 rfl hin2 rfl rfl rfl (by show 1 < 7; decide) rfl hdg kk
theorem gfX2_18 {v0 v1 v2 v3 v4 v5 v6 : Value} (S : CallFix p m c cc nL s args BW RX2) (hK : KG G s) (hH : HS G B w n s H locs) (he : w a = some (eO 2 [v0, v1, v2, v3, v4, v5, v6])) (hdg : decode cc pc = .ok (.getfield 18, 3)) (kk : W p l e R s m args below meth c H locs cells slots Q (F0 m (pc + 3) ls (v1 :: rest))) : W p l e R s m args below meth c H locs cells slots Q (F0 m pc ls (.ref a :: rest)) :=
  fget S hK hH he rfl fwX2 1 (by decide) mW76 rfl hdg kk
theorem pfX2_21 {v0 v1 v2 v3 v4 v5 v6 : Value} {x : Int32} (S : CallFix p m c cc nL s args BW RX2) (hK : KG G s) (hH : HS G B w n s H locs) (he : w a = some (eO 2 [v0, v1, v2, v3, v4, v5, v6])) (hdg : decode cc pc = .ok (.putfield 21, 3)) (kk : ∀ (w1 : Wm) (H1 : Heap) (locs1 : List Loc), w1 a = some (eO 2 [v0, v1, .int x, v3, v4, v5, v6]) → (∀ b, b ≠ a → w1 b = w b) → HS G B w1 n s H1 locs1 → W p l e R s m args below meth c H1 locs1 cells slots Q (F0 m (pc + 3) ls rest)) : W p l e R s m args below meth c H locs cells slots Q (F0 m pc ls (.int x :: .ref a :: rest)) :=
  fput S hK hH he rfl fwX2 tyX2 tyX2_ok nmX2 2 (by decide) mW77 rfl rfl rfl (by show 2 < 7; decide) rfl hdg kk
theorem pfX2_25 {v0 v1 v2 v3 v4 v5 v6 : Value} {x : Nat} (S : CallFix p m c cc nL s args BW RX2) (hK : KG G s) (hH : HS G B w n s H locs) (he : w a = some (eO 2 [v0, v1, v2, v3, v4, v5, v6])) (hin2 : meth.name = "<init>") (hdg : decode cc pc = .ok (.putfield 25, 3)) (kk : ∀ (w1 : Wm) (H1 : Heap) (locs1 : List Loc), w1 a = some (eO 2 [v0, v1, v2, .ref x, v4, v5, v6]) → (∀ b, b ≠ a → w1 b = w b) → HS G B w1 n s H1 locs1 → W p l e R s m args below meth c H1 locs1 cells slots Q (F0 m (pc + 3) ls rest)) : W p l e R s m args below meth c H locs cells slots Q (F0 m pc ls (.ref x :: .ref a :: rest)) :=
  fputF S hK hH he rfl fwX2 tyX2 tyX2_ok nmX2 3 (by decide) mW78 rfl hin2 rfl rfl rfl (by show 3 < 7; decide) rfl hdg kk
theorem pfX2_29 {v0 v1 v2 v3 v4 v5 v6 : Value} {x : Nat} (S : CallFix p m c cc nL s args BW RX2) (hK : KG G s) (hH : HS G B w n s H locs) (he : w a = some (eO 2 [v0, v1, v2, v3, v4, v5, v6])) (hin2 : meth.name = "<init>") (hdg : decode cc pc = .ok (.putfield 29, 3)) (kk : ∀ (w1 : Wm) (H1 : Heap) (locs1 : List Loc), w1 a = some (eO 2 [v0, v1, v2, v3, .ref x, v5, v6]) → (∀ b, b ≠ a → w1 b = w b) → HS G B w1 n s H1 locs1 → W p l e R s m args below meth c H1 locs1 cells slots Q (F0 m (pc + 3) ls rest)) : W p l e R s m args below meth c H locs cells slots Q (F0 m pc ls (.ref x :: .ref a :: rest)) :=
  fputF S hK hH he rfl fwX2 tyX2 tyX2_ok nmX2 4 (by decide) mW79 rfl hin2 rfl rfl rfl (by show 4 < 7; decide) rfl hdg kk
theorem pfX2_32 {v0 v1 v2 v3 v4 v5 v6 : Value} {x : Int32} (S : CallFix p m c cc nL s args BW RX2) (hK : KG G s) (hH : HS G B w n s H locs) (he : w a = some (eO 2 [v0, v1, v2, v3, v4, v5, v6])) (hdg : decode cc pc = .ok (.putfield 32, 3)) (kk : ∀ (w1 : Wm) (H1 : Heap) (locs1 : List Loc), w1 a = some (eO 2 [v0, v1, v2, v3, v4, .int x, v6]) → (∀ b, b ≠ a → w1 b = w b) → HS G B w1 n s H1 locs1 → W p l e R s m args below meth c H1 locs1 cells slots Q (F0 m (pc + 3) ls rest)) : W p l e R s m args below meth c H locs cells slots Q (F0 m pc ls (.int x :: .ref a :: rest)) :=
  fput S hK hH he rfl fwX2 tyX2 tyX2_ok nmX2 5 (by decide) mW80 rfl rfl rfl (by show 5 < 7; decide) rfl hdg kk
theorem pfX2_38 {v0 v1 v2 v3 v4 v5 v6 : Value} {x : Nat} (S : CallFix p m c cc nL s args BW RX2) (hK : KG G s) (hH : HS G B w n s H locs) (he : w a = some (eO 2 [v0, v1, v2, v3, v4, v5, v6])) (hin2 : meth.name = "<init>") (hdg : decode cc pc = .ok (.putfield 38, 3)) (kk : ∀ (w1 : Wm) (H1 : Heap) (locs1 : List Loc), w1 a = some (eO 2 [v0, v1, v2, v3, v4, v5, .ref x]) → (∀ b, b ≠ a → w1 b = w b) → HS G B w1 n s H1 locs1 → W p l e R s m args below meth c H1 locs1 cells slots Q (F0 m (pc + 3) ls rest)) : W p l e R s m args below meth c H locs cells slots Q (F0 m pc ls (.ref x :: .ref a :: rest)) :=
  fputF S hK hH he rfl fwX2 tyX2 tyX2_ok nmX2 6 (by decide) mW81 rfl hin2 rfl rfl rfl (by show 6 < 7; decide) rfl hdg kk
theorem gfX2_38 {v0 v1 v2 v3 v4 v5 v6 : Value} (S : CallFix p m c cc nL s args BW RX2) (hK : KG G s) (hH : HS G B w n s H locs) (he : w a = some (eO 2 [v0, v1, v2, v3, v4, v5, v6])) (hdg : decode cc pc = .ok (.getfield 38, 3)) (kk : W p l e R s m args below meth c H locs cells slots Q (F0 m (pc + 3) ls (v6 :: rest))) : W p l e R s m args below meth c H locs cells slots Q (F0 m pc ls (.ref a :: rest)) :=
  fget S hK hH he rfl fwX2 6 (by decide) mW81 rfl hdg kk
theorem gfX2_52 {v0 v1 v2 v3 v4 : Value} (S : CallFix p m c cc nL s args BW RX2) (hK : KG G s) (hH : HS G B w n s H locs) (he : w a = some (eO 0 [v0, v1, v2, v3, v4])) (hdg : decode cc pc = .ok (.getfield 52, 3)) (kk : W p l e R s m args below meth c H locs cells slots Q (F0 m (pc + 3) ls (v0 :: rest))) : W p l e R s m args below meth c H locs cells slots Q (F0 m pc ls (.ref a :: rest)) :=
  fgetN S hK hH he rfl fwX0 0 (by decide) mN58 rfl hdg kk
theorem gfX2_78 {v0 v1 v2 v3 v4 : Value} (S : CallFix p m c cc nL s args BW RX2) (hK : KG G s) (hH : HS G B w n s H locs) (he : w a = some (eO 1 [v0, v1, v2, v3, v4])) (hdg : decode cc pc = .ok (.getfield 78, 3)) (kk : W p l e R s m args below meth c H locs cells slots Q (F0 m (pc + 3) ls (v2 :: rest))) : W p l e R s m args below meth c H locs cells slots Q (F0 m pc ls (.ref a :: rest)) :=
  fgetN S hK hH he rfl fwX1 2 (by decide) mN31 rfl hdg kk
theorem gfX2_89 {v0 v1 v2 v3 v4 : Value} (S : CallFix p m c cc nL s args BW RX2) (hK : KG G s) (hH : HS G B w n s H locs) (he : w a = some (eO 0 [v0, v1, v2, v3, v4])) (hdg : decode cc pc = .ok (.getfield 89, 3)) (kk : W p l e R s m args below meth c H locs cells slots Q (F0 m (pc + 3) ls (v1 :: rest))) : W p l e R s m args below meth c H locs cells slots Q (F0 m pc ls (.ref a :: rest)) :=
  fgetN S hK hH he rfl fwX0 1 (by decide) mN60 rfl hdg kk
theorem gfX2_21 {v0 v1 v2 v3 v4 v5 v6 : Value} (S : CallFix p m c cc nL s args BW RX2) (hK : KG G s) (hH : HS G B w n s H locs) (he : w a = some (eO 2 [v0, v1, v2, v3, v4, v5, v6])) (hdg : decode cc pc = .ok (.getfield 21, 3)) (kk : W p l e R s m args below meth c H locs cells slots Q (F0 m (pc + 3) ls (v2 :: rest))) : W p l e R s m args below meth c H locs cells slots Q (F0 m pc ls (.ref a :: rest)) :=
  fget S hK hH he rfl fwX2 2 (by decide) mW77 rfl hdg kk
theorem gfX2_32 {v0 v1 v2 v3 v4 v5 v6 : Value} (S : CallFix p m c cc nL s args BW RX2) (hK : KG G s) (hH : HS G B w n s H locs) (he : w a = some (eO 2 [v0, v1, v2, v3, v4, v5, v6])) (hdg : decode cc pc = .ok (.getfield 32, 3)) (kk : W p l e R s m args below meth c H locs cells slots Q (F0 m (pc + 3) ls (v5 :: rest))) : W p l e R s m args below meth c H locs cells slots Q (F0 m pc ls (.ref a :: rest)) :=
  fget S hK hH he rfl fwX2 5 (by decide) mW80 rfl hdg kk
theorem gfX2_29 {v0 v1 v2 v3 v4 v5 v6 : Value} (S : CallFix p m c cc nL s args BW RX2) (hK : KG G s) (hH : HS G B w n s H locs) (he : w a = some (eO 2 [v0, v1, v2, v3, v4, v5, v6])) (hdg : decode cc pc = .ok (.getfield 29, 3)) (kk : W p l e R s m args below meth c H locs cells slots Q (F0 m (pc + 3) ls (v4 :: rest))) : W p l e R s m args below meth c H locs cells slots Q (F0 m pc ls (.ref a :: rest)) :=
  fget S hK hH he rfl fwX2 4 (by decide) mW79 rfl hdg kk
theorem gfX2_25 {v0 v1 v2 v3 v4 v5 v6 : Value} (S : CallFix p m c cc nL s args BW RX2) (hK : KG G s) (hH : HS G B w n s H locs) (he : w a = some (eO 2 [v0, v1, v2, v3, v4, v5, v6])) (hdg : decode cc pc = .ok (.getfield 25, 3)) (kk : W p l e R s m args below meth c H locs cells slots Q (F0 m (pc + 3) ls (v3 :: rest))) : W p l e R s m args below meth c H locs cells slots Q (F0 m pc ls (.ref a :: rest)) :=
  fget S hK hH he rfl fwX2 3 (by decide) mW78 rfl hdg kk
theorem pfX3_9 {v0 v1 v2 v3 v4 v5 v6 v7 v8 v9 v10 v11 v12 v13 v14 v15 : Value} {x : Nat} (S : CallFix p m c cc nL s args BW RX3) (hK : KG G s) (hH : HS G B w n s H locs) (he : w a = some (eO 3 [v0, v1, v2, v3, v4, v5, v6, v7, v8, v9, v10, v11, v12, v13, v14, v15])) (hin2 : meth.name = "<init>") (hdg : decode cc pc = .ok (.putfield 9, 3)) (kk : ∀ (w1 : Wm) (H1 : Heap) (locs1 : List Loc), w1 a = some (eO 3 [.ref x, v1, v2, v3, v4, v5, v6, v7, v8, v9, v10, v11, v12, v13, v14, v15]) → (∀ b, b ≠ a → w1 b = w b) → HS G B w1 n s H1 locs1 → W p l e R s m args below meth c H1 locs1 cells slots Q (F0 m (pc + 3) ls rest)) : W p l e R s m args below meth c H locs cells slots Q (F0 m pc ls (.ref x :: .ref a :: rest)) :=
  fputF S hK hH he rfl fwX3 tyX3 tyX3_ok nmX3 0 (by decide) mW297 rfl hin2 rfl rfl rfl (by show 0 < 16; decide) rfl hdg kk
theorem pfX3_13 {v0 v1 v2 v3 v4 v5 v6 v7 v8 v9 v10 v11 v12 v13 v14 v15 : Value} {x : Nat} (S : CallFix p m c cc nL s args BW RX3) (hK : KG G s) (hH : HS G B w n s H locs) (he : w a = some (eO 3 [v0, v1, v2, v3, v4, v5, v6, v7, v8, v9, v10, v11, v12, v13, v14, v15])) (hin2 : meth.name = "<init>") (hdg : decode cc pc = .ok (.putfield 13, 3)) (kk : ∀ (w1 : Wm) (H1 : Heap) (locs1 : List Loc), w1 a = some (eO 3 [v0, .ref x, v2, v3, v4, v5, v6, v7, v8, v9, v10, v11, v12, v13, v14, v15]) → (∀ b, b ≠ a → w1 b = w b) → HS G B w1 n s H1 locs1 → W p l e R s m args below meth c H1 locs1 cells slots Q (F0 m (pc + 3) ls rest)) : W p l e R s m args below meth c H locs cells slots Q (F0 m pc ls (.ref x :: .ref a :: rest)) :=
  fputF S hK hH he rfl fwX3 tyX3 tyX3_ok nmX3 1 (by decide) mW298 rfl hin2 rfl rfl rfl (by show 1 < 16; decide) rfl hdg kk
theorem pfX3_17 {v0 v1 v2 v3 v4 v5 v6 v7 v8 v9 v10 v11 v12 v13 v14 v15 : Value} {x : Nat} (S : CallFix p m c cc nL s args BW RX3) (hK : KG G s) (hH : HS G B w n s H locs) (he : w a = some (eO 3 [v0, v1, v2, v3, v4, v5, v6, v7, v8, v9, v10, v11, v12, v13, v14, v15])) (hin2 : meth.name = "<init>") (hdg : decode cc pc = .ok (.putfield 17, 3)) (kk : ∀ (w1 : Wm) (H1 : Heap) (locs1 : List Loc), w1 a = some (eO 3 [v0, v1, .ref x, v3, v4, v5, v6, v7, v8, v9, v10, v11, v12, v13, v14, v15]) → (∀ b, b ≠ a → w1 b = w b) → HS G B w1 n s H1 locs1 → W p l e R s m args below meth c H1 locs1 cells slots Q (F0 m (pc + 3) ls rest)) : W p l e R s m args below meth c H locs cells slots Q (F0 m pc ls (.ref x :: .ref a :: rest)) :=
  fputF S hK hH he rfl fwX3 tyX3 tyX3_ok nmX3 2 (by decide) mW299 rfl hin2 rfl rfl rfl (by show 2 < 16; decide) rfl hdg kk
theorem pfX3_20 {v0 v1 v2 v3 v4 v5 v6 v7 v8 v9 v10 v11 v12 v13 v14 v15 : Value} {x : Nat} (S : CallFix p m c cc nL s args BW RX3) (hK : KG G s) (hH : HS G B w n s H locs) (he : w a = some (eO 3 [v0, v1, v2, v3, v4, v5, v6, v7, v8, v9, v10, v11, v12, v13, v14, v15])) (hin2 : meth.name = "<init>") (hdg : decode cc pc = .ok (.putfield 20, 3)) (kk : ∀ (w1 : Wm) (H1 : Heap) (locs1 : List Loc), w1 a = some (eO 3 [v0, v1, v2, .ref x, v4, v5, v6, v7, v8, v9, v10, v11, v12, v13, v14, v15]) → (∀ b, b ≠ a → w1 b = w b) → HS G B w1 n s H1 locs1 → W p l e R s m args below meth c H1 locs1 cells slots Q (F0 m (pc + 3) ls rest)) : W p l e R s m args below meth c H locs cells slots Q (F0 m pc ls (.ref x :: .ref a :: rest)) :=
  fputF S hK hH he rfl fwX3 tyX3 tyX3_ok nmX3 3 (by decide) mW300 rfl hin2 rfl rfl rfl (by show 3 < 16; decide) rfl hdg kk
theorem pfX3_23 {v0 v1 v2 v3 v4 v5 v6 v7 v8 v9 v10 v11 v12 v13 v14 v15 : Value} {x : Nat} (S : CallFix p m c cc nL s args BW RX3) (hK : KG G s) (hH : HS G B w n s H locs) (he : w a = some (eO 3 [v0, v1, v2, v3, v4, v5, v6, v7, v8, v9, v10, v11, v12, v13, v14, v15])) (hin2 : meth.name = "<init>") (hdg : decode cc pc = .ok (.putfield 23, 3)) (kk : ∀ (w1 : Wm) (H1 : Heap) (locs1 : List Loc), w1 a = some (eO 3 [v0, v1, v2, v3, v4, v5, .ref x, v7, v8, v9, v10, v11, v12, v13, v14, v15]) → (∀ b, b ≠ a → w1 b = w b) → HS G B w1 n s H1 locs1 → W p l e R s m args below meth c H1 locs1 cells slots Q (F0 m (pc + 3) ls rest)) : W p l e R s m args below meth c H locs cells slots Q (F0 m pc ls (.ref x :: .ref a :: rest)) :=
  fputF S hK hH he rfl fwX3 tyX3 tyX3_ok nmX3 6 (by decide) mW303 rfl hin2 rfl rfl rfl (by show 6 < 16; decide) rfl hdg kk
theorem pfX3_26 {v0 v1 v2 v3 v4 v5 v6 v7 v8 v9 v10 v11 v12 v13 v14 v15 : Value} {x : Nat} (S : CallFix p m c cc nL s args BW RX3) (hK : KG G s) (hH : HS G B w n s H locs) (he : w a = some (eO 3 [v0, v1, v2, v3, v4, v5, v6, v7, v8, v9, v10, v11, v12, v13, v14, v15])) (hin2 : meth.name = "<init>") (hdg : decode cc pc = .ok (.putfield 26, 3)) (kk : ∀ (w1 : Wm) (H1 : Heap) (locs1 : List Loc), w1 a = some (eO 3 [v0, v1, v2, v3, v4, v5, v6, .ref x, v8, v9, v10, v11, v12, v13, v14, v15]) → (∀ b, b ≠ a → w1 b = w b) → HS G B w1 n s H1 locs1 → W p l e R s m args below meth c H1 locs1 cells slots Q (F0 m (pc + 3) ls rest)) : W p l e R s m args below meth c H locs cells slots Q (F0 m pc ls (.ref x :: .ref a :: rest)) :=
  fputF S hK hH he rfl fwX3 tyX3 tyX3_ok nmX3 7 (by decide) mW304 rfl hin2 rfl rfl rfl (by show 7 < 16; decide) rfl hdg kk
theorem pfX3_29 {v0 v1 v2 v3 v4 v5 v6 v7 v8 v9 v10 v11 v12 v13 v14 v15 : Value} {x : Nat} (S : CallFix p m c cc nL s args BW RX3) (hK : KG G s) (hH : HS G B w n s H locs) (he : w a = some (eO 3 [v0, v1, v2, v3, v4, v5, v6, v7, v8, v9, v10, v11, v12, v13, v14, v15])) (hin2 : meth.name = "<init>") (hdg : decode cc pc = .ok (.putfield 29, 3)) (kk : ∀ (w1 : Wm) (H1 : Heap) (locs1 : List Loc), w1 a = some (eO 3 [v0, v1, v2, v3, v4, v5, v6, v7, .ref x, v9, v10, v11, v12, v13, v14, v15]) → (∀ b, b ≠ a → w1 b = w b) → HS G B w1 n s H1 locs1 → W p l e R s m args below meth c H1 locs1 cells slots Q (F0 m (pc + 3) ls rest)) : W p l e R s m args below meth c H locs cells slots Q (F0 m pc ls (.ref x :: .ref a :: rest)) :=
  fputF S hK hH he rfl fwX3 tyX3 tyX3_ok nmX3 8 (by decide) mW305 rfl hin2 rfl rfl rfl (by show 8 < 16; decide) rfl hdg kk
theorem pfX3_32 {v0 v1 v2 v3 v4 v5 v6 v7 v8 v9 v10 v11 v12 v13 v14 v15 : Value} {x : Nat} (S : CallFix p m c cc nL s args BW RX3) (hK : KG G s) (hH : HS G B w n s H locs) (he : w a = some (eO 3 [v0, v1, v2, v3, v4, v5, v6, v7, v8, v9, v10, v11, v12, v13, v14, v15])) (hin2 : meth.name = "<init>") (hdg : decode cc pc = .ok (.putfield 32, 3)) (kk : ∀ (w1 : Wm) (H1 : Heap) (locs1 : List Loc), w1 a = some (eO 3 [v0, v1, v2, v3, v4, v5, v6, v7, v8, .ref x, v10, v11, v12, v13, v14, v15]) → (∀ b, b ≠ a → w1 b = w b) → HS G B w1 n s H1 locs1 → W p l e R s m args below meth c H1 locs1 cells slots Q (F0 m (pc + 3) ls rest)) : W p l e R s m args below meth c H locs cells slots Q (F0 m pc ls (.ref x :: .ref a :: rest)) :=
  fputF S hK hH he rfl fwX3 tyX3 tyX3_ok nmX3 9 (by decide) mW306 rfl hin2 rfl rfl rfl (by show 9 < 16; decide) rfl hdg kk
theorem pfX3_35 {v0 v1 v2 v3 v4 v5 v6 v7 v8 v9 v10 v11 v12 v13 v14 v15 : Value} {x : Nat} (S : CallFix p m c cc nL s args BW RX3) (hK : KG G s) (hH : HS G B w n s H locs) (he : w a = some (eO 3 [v0, v1, v2, v3, v4, v5, v6, v7, v8, v9, v10, v11, v12, v13, v14, v15])) (hin2 : meth.name = "<init>") (hdg : decode cc pc = .ok (.putfield 35, 3)) (kk : ∀ (w1 : Wm) (H1 : Heap) (locs1 : List Loc), w1 a = some (eO 3 [v0, v1, v2, v3, v4, v5, v6, v7, v8, v9, .ref x, v11, v12, v13, v14, v15]) → (∀ b, b ≠ a → w1 b = w b) → HS G B w1 n s H1 locs1 → W p l e R s m args below meth c H1 locs1 cells slots Q (F0 m (pc + 3) ls rest)) : W p l e R s m args below meth c H locs cells slots Q (F0 m pc ls (.ref x :: .ref a :: rest)) :=
  fputF S hK hH he rfl fwX3 tyX3 tyX3_ok nmX3 10 (by decide) mW307 rfl hin2 rfl rfl rfl (by show 10 < 16; decide) rfl hdg kk
theorem pfX3_38 {v0 v1 v2 v3 v4 v5 v6 v7 v8 v9 v10 v11 v12 v13 v14 v15 : Value} {x : Nat} (S : CallFix p m c cc nL s args BW RX3) (hK : KG G s) (hH : HS G B w n s H locs) (he : w a = some (eO 3 [v0, v1, v2, v3, v4, v5, v6, v7, v8, v9, v10, v11, v12, v13, v14, v15])) (hin2 : meth.name = "<init>") (hdg : decode cc pc = .ok (.putfield 38, 3)) (kk : ∀ (w1 : Wm) (H1 : Heap) (locs1 : List Loc), w1 a = some (eO 3 [v0, v1, v2, v3, v4, v5, v6, v7, v8, v9, v10, v11, v12, .ref x, v14, v15]) → (∀ b, b ≠ a → w1 b = w b) → HS G B w1 n s H1 locs1 → W p l e R s m args below meth c H1 locs1 cells slots Q (F0 m (pc + 3) ls rest)) : W p l e R s m args below meth c H locs cells slots Q (F0 m pc ls (.ref x :: .ref a :: rest)) :=
  fputF S hK hH he rfl fwX3 tyX3 tyX3_ok nmX3 13 (by decide) mW310 rfl hin2 rfl rfl rfl (by show 13 < 16; decide) rfl hdg kk
theorem pfX3_41 {v0 v1 v2 v3 v4 v5 v6 v7 v8 v9 v10 v11 v12 v13 v14 v15 : Value} {x : Nat} (S : CallFix p m c cc nL s args BW RX3) (hK : KG G s) (hH : HS G B w n s H locs) (he : w a = some (eO 3 [v0, v1, v2, v3, v4, v5, v6, v7, v8, v9, v10, v11, v12, v13, v14, v15])) (hin2 : meth.name = "<init>") (hdg : decode cc pc = .ok (.putfield 41, 3)) (kk : ∀ (w1 : Wm) (H1 : Heap) (locs1 : List Loc), w1 a = some (eO 3 [v0, v1, v2, v3, v4, v5, v6, v7, v8, v9, v10, v11, v12, v13, .ref x, v15]) → (∀ b, b ≠ a → w1 b = w b) → HS G B w1 n s H1 locs1 → W p l e R s m args below meth c H1 locs1 cells slots Q (F0 m (pc + 3) ls rest)) : W p l e R s m args below meth c H locs cells slots Q (F0 m pc ls (.ref x :: .ref a :: rest)) :=
  fputF S hK hH he rfl fwX3 tyX3 tyX3_ok nmX3 14 (by decide) mW311 rfl hin2 rfl rfl rfl (by show 14 < 16; decide) rfl hdg kk
theorem pfX3_44 {v0 v1 v2 v3 v4 v5 v6 v7 v8 v9 v10 v11 v12 v13 v14 v15 : Value} {x : Nat} (S : CallFix p m c cc nL s args BW RX3) (hK : KG G s) (hH : HS G B w n s H locs) (he : w a = some (eO 3 [v0, v1, v2, v3, v4, v5, v6, v7, v8, v9, v10, v11, v12, v13, v14, v15])) (hin2 : meth.name = "<init>") (hdg : decode cc pc = .ok (.putfield 44, 3)) (kk : ∀ (w1 : Wm) (H1 : Heap) (locs1 : List Loc), w1 a = some (eO 3 [v0, v1, v2, v3, v4, v5, v6, v7, v8, v9, v10, v11, v12, v13, v14, .ref x]) → (∀ b, b ≠ a → w1 b = w b) → HS G B w1 n s H1 locs1 → W p l e R s m args below meth c H1 locs1 cells slots Q (F0 m (pc + 3) ls rest)) : W p l e R s m args below meth c H locs cells slots Q (F0 m pc ls (.ref x :: .ref a :: rest)) :=
  fputF S hK hH he rfl fwX3 tyX3 tyX3_ok nmX3 15 (by decide) mW312 rfl hin2 rfl rfl rfl (by show 15 < 16; decide) rfl hdg kk
theorem pfX3_47 {v0 v1 v2 v3 v4 v5 v6 v7 v8 v9 v10 v11 v12 v13 v14 v15 : Value} {x : Int32} (S : CallFix p m c cc nL s args BW RX3) (hK : KG G s) (hH : HS G B w n s H locs) (he : w a = some (eO 3 [v0, v1, v2, v3, v4, v5, v6, v7, v8, v9, v10, v11, v12, v13, v14, v15])) (hdg : decode cc pc = .ok (.putfield 47, 3)) (kk : ∀ (w1 : Wm) (H1 : Heap) (locs1 : List Loc), w1 a = some (eO 3 [v0, v1, v2, v3, v4, v5, v6, v7, v8, v9, v10, .int x, v12, v13, v14, v15]) → (∀ b, b ≠ a → w1 b = w b) → HS G B w1 n s H1 locs1 → W p l e R s m args below meth c H1 locs1 cells slots Q (F0 m (pc + 3) ls rest)) : W p l e R s m args below meth c H locs cells slots Q (F0 m pc ls (.int x :: .ref a :: rest)) :=
  fput S hK hH he rfl fwX3 tyX3 tyX3_ok nmX3 11 (by decide) mW308 rfl rfl rfl (by show 11 < 16; decide) rfl hdg kk
theorem pfX3_51 {v0 v1 v2 v3 v4 v5 v6 v7 v8 v9 v10 v11 v12 v13 v14 v15 : Value} {x : Int32} (S : CallFix p m c cc nL s args BW RX3) (hK : KG G s) (hH : HS G B w n s H locs) (he : w a = some (eO 3 [v0, v1, v2, v3, v4, v5, v6, v7, v8, v9, v10, v11, v12, v13, v14, v15])) (hx : x = 0 ∨ x = 1) (hdg : decode cc pc = .ok (.putfield 51, 3)) (kk : ∀ (w1 : Wm) (H1 : Heap) (locs1 : List Loc), w1 a = some (eO 3 [v0, v1, v2, v3, v4, v5, v6, v7, v8, v9, v10, v11, .int x, v13, v14, v15]) → (∀ b, b ≠ a → w1 b = w b) → HS G B w1 n s H1 locs1 → W p l e R s m args below meth c H1 locs1 cells slots Q (F0 m (pc + 3) ls rest)) : W p l e R s m args below meth c H locs cells slots Q (F0 m pc ls (.int x :: .ref a :: rest)) :=
  fput S hK hH he rfl fwX3 tyX3 tyX3_ok nmX3 12 (by decide) mW309 rfl (by rcases hx with rfl | rfl <;> rfl) (by rcases hx with rfl | rfl <;> rfl) (by show 12 < 16; decide) rfl hdg kk
theorem gfX3_47 {v0 v1 v2 v3 v4 v5 v6 v7 v8 v9 v10 v11 v12 v13 v14 v15 : Value} (S : CallFix p m c cc nL s args BW RX3) (hK : KG G s) (hH : HS G B w n s H locs) (he : w a = some (eO 3 [v0, v1, v2, v3, v4, v5, v6, v7, v8, v9, v10, v11, v12, v13, v14, v15])) (hdg : decode cc pc = .ok (.getfield 47, 3)) (kk : W p l e R s m args below meth c H locs cells slots Q (F0 m (pc + 3) ls (v11 :: rest))) : W p l e R s m args below meth c H locs cells slots Q (F0 m pc ls (.ref a :: rest)) :=
  fget S hK hH he rfl fwX3 11 (by decide) mW308 rfl hdg kk
theorem gfX3_41 {v0 v1 v2 v3 v4 v5 v6 v7 v8 v9 v10 v11 v12 v13 v14 v15 : Value} (S : CallFix p m c cc nL s args BW RX3) (hK : KG G s) (hH : HS G B w n s H locs) (he : w a = some (eO 3 [v0, v1, v2, v3, v4, v5, v6, v7, v8, v9, v10, v11, v12, v13, v14, v15])) (hdg : decode cc pc = .ok (.getfield 41, 3)) (kk : W p l e R s m args below meth c H locs cells slots Q (F0 m (pc + 3) ls (v14 :: rest))) : W p l e R s m args below meth c H locs cells slots Q (F0 m pc ls (.ref a :: rest)) :=
  fget S hK hH he rfl fwX3 14 (by decide) mW311 rfl hdg kk
theorem gfX3_44 {v0 v1 v2 v3 v4 v5 v6 v7 v8 v9 v10 v11 v12 v13 v14 v15 : Value} (S : CallFix p m c cc nL s args BW RX3) (hK : KG G s) (hH : HS G B w n s H locs) (he : w a = some (eO 3 [v0, v1, v2, v3, v4, v5, v6, v7, v8, v9, v10, v11, v12, v13, v14, v15])) (hdg : decode cc pc = .ok (.getfield 44, 3)) (kk : W p l e R s m args below meth c H locs cells slots Q (F0 m (pc + 3) ls (v15 :: rest))) : W p l e R s m args below meth c H locs cells slots Q (F0 m pc ls (.ref a :: rest)) :=
  fget S hK hH he rfl fwX3 15 (by decide) mW312 rfl hdg kk
theorem gfX3_38 {v0 v1 v2 v3 v4 v5 v6 v7 v8 v9 v10 v11 v12 v13 v14 v15 : Value} (S : CallFix p m c cc nL s args BW RX3) (hK : KG G s) (hH : HS G B w n s H locs) (he : w a = some (eO 3 [v0, v1, v2, v3, v4, v5, v6, v7, v8, v9, v10, v11, v12, v13, v14, v15])) (hdg : decode cc pc = .ok (.getfield 38, 3)) (kk : W p l e R s m args below meth c H locs cells slots Q (F0 m (pc + 3) ls (v13 :: rest))) : W p l e R s m args below meth c H locs cells slots Q (F0 m pc ls (.ref a :: rest)) :=
  fget S hK hH he rfl fwX3 13 (by decide) mW310 rfl hdg kk
theorem gfX3_51 {v0 v1 v2 v3 v4 v5 v6 v7 v8 v9 v10 v11 v12 v13 v14 v15 : Value} (S : CallFix p m c cc nL s args BW RX3) (hK : KG G s) (hH : HS G B w n s H locs) (he : w a = some (eO 3 [v0, v1, v2, v3, v4, v5, v6, v7, v8, v9, v10, v11, v12, v13, v14, v15])) (hdg : decode cc pc = .ok (.getfield 51, 3)) (kk : W p l e R s m args below meth c H locs cells slots Q (F0 m (pc + 3) ls (v12 :: rest))) : W p l e R s m args below meth c H locs cells slots Q (F0 m pc ls (.ref a :: rest)) :=
  fget S hK hH he rfl fwX3 12 (by decide) mW309 rfl hdg kk
theorem gfX3_9 {v0 v1 v2 v3 v4 v5 v6 v7 v8 v9 v10 v11 v12 v13 v14 v15 : Value} (S : CallFix p m c cc nL s args BW RX3) (hK : KG G s) (hH : HS G B w n s H locs) (he : w a = some (eO 3 [v0, v1, v2, v3, v4, v5, v6, v7, v8, v9, v10, v11, v12, v13, v14, v15])) (hdg : decode cc pc = .ok (.getfield 9, 3)) (kk : W p l e R s m args below meth c H locs cells slots Q (F0 m (pc + 3) ls (v0 :: rest))) : W p l e R s m args below meth c H locs cells slots Q (F0 m pc ls (.ref a :: rest)) :=
  fget S hK hH he rfl fwX3 0 (by decide) mW297 rfl hdg kk
theorem gfX3_13 {v0 v1 v2 v3 v4 v5 v6 v7 v8 v9 v10 v11 v12 v13 v14 v15 : Value} (S : CallFix p m c cc nL s args BW RX3) (hK : KG G s) (hH : HS G B w n s H locs) (he : w a = some (eO 3 [v0, v1, v2, v3, v4, v5, v6, v7, v8, v9, v10, v11, v12, v13, v14, v15])) (hdg : decode cc pc = .ok (.getfield 13, 3)) (kk : W p l e R s m args below meth c H locs cells slots Q (F0 m (pc + 3) ls (v1 :: rest))) : W p l e R s m args below meth c H locs cells slots Q (F0 m pc ls (.ref a :: rest)) :=
  fget S hK hH he rfl fwX3 1 (by decide) mW298 rfl hdg kk
theorem gfX3_17 {v0 v1 v2 v3 v4 v5 v6 v7 v8 v9 v10 v11 v12 v13 v14 v15 : Value} (S : CallFix p m c cc nL s args BW RX3) (hK : KG G s) (hH : HS G B w n s H locs) (he : w a = some (eO 3 [v0, v1, v2, v3, v4, v5, v6, v7, v8, v9, v10, v11, v12, v13, v14, v15])) (hdg : decode cc pc = .ok (.getfield 17, 3)) (kk : W p l e R s m args below meth c H locs cells slots Q (F0 m (pc + 3) ls (v2 :: rest))) : W p l e R s m args below meth c H locs cells slots Q (F0 m pc ls (.ref a :: rest)) :=
  fget S hK hH he rfl fwX3 2 (by decide) mW299 rfl hdg kk
theorem gfX3_20 {v0 v1 v2 v3 v4 v5 v6 v7 v8 v9 v10 v11 v12 v13 v14 v15 : Value} (S : CallFix p m c cc nL s args BW RX3) (hK : KG G s) (hH : HS G B w n s H locs) (he : w a = some (eO 3 [v0, v1, v2, v3, v4, v5, v6, v7, v8, v9, v10, v11, v12, v13, v14, v15])) (hdg : decode cc pc = .ok (.getfield 20, 3)) (kk : W p l e R s m args below meth c H locs cells slots Q (F0 m (pc + 3) ls (v3 :: rest))) : W p l e R s m args below meth c H locs cells slots Q (F0 m pc ls (.ref a :: rest)) :=
  fget S hK hH he rfl fwX3 3 (by decide) mW300 rfl hdg kk
theorem gfX3_121 {v0 v1 v2 v3 v4 v5 v6 v7 v8 v9 v10 v11 v12 v13 v14 v15 : Value} (S : CallFix p m c cc nL s args BW RX3) (hK : KG G s) (hH : HS G B w n s H locs) (he : w a = some (eO 3 [v0, v1, v2, v3, v4, v5, v6, v7, v8, v9, v10, v11, v12, v13, v14, v15])) (hdg : decode cc pc = .ok (.getfield 121, 3)) (kk : W p l e R s m args below meth c H locs cells slots Q (F0 m (pc + 3) ls (v4 :: rest))) : W p l e R s m args below meth c H locs cells slots Q (F0 m pc ls (.ref a :: rest)) :=
  fget S hK hH he rfl fwX3 4 (by decide) mW301 rfl hdg kk
theorem pfX3_121 {v0 v1 v2 v3 v4 v5 v6 v7 v8 v9 v10 v11 v12 v13 v14 v15 : Value} {x : Int32} (S : CallFix p m c cc nL s args BW RX3) (hK : KG G s) (hH : HS G B w n s H locs) (he : w a = some (eO 3 [v0, v1, v2, v3, v4, v5, v6, v7, v8, v9, v10, v11, v12, v13, v14, v15])) (hdg : decode cc pc = .ok (.putfield 121, 3)) (kk : ∀ (w1 : Wm) (H1 : Heap) (locs1 : List Loc), w1 a = some (eO 3 [v0, v1, v2, v3, .int x, v5, v6, v7, v8, v9, v10, v11, v12, v13, v14, v15]) → (∀ b, b ≠ a → w1 b = w b) → HS G B w1 n s H1 locs1 → W p l e R s m args below meth c H1 locs1 cells slots Q (F0 m (pc + 3) ls rest)) : W p l e R s m args below meth c H locs cells slots Q (F0 m pc ls (.int x :: .ref a :: rest)) :=
  fput S hK hH he rfl fwX3 tyX3 tyX3_ok nmX3 4 (by decide) mW301 rfl rfl rfl (by show 4 < 16; decide) rfl hdg kk
theorem gfX3_125 {v0 v1 v2 v3 v4 v5 v6 v7 v8 v9 v10 v11 v12 v13 v14 v15 : Value} (S : CallFix p m c cc nL s args BW RX3) (hK : KG G s) (hH : HS G B w n s H locs) (he : w a = some (eO 3 [v0, v1, v2, v3, v4, v5, v6, v7, v8, v9, v10, v11, v12, v13, v14, v15])) (hdg : decode cc pc = .ok (.getfield 125, 3)) (kk : W p l e R s m args below meth c H locs cells slots Q (F0 m (pc + 3) ls (v5 :: rest))) : W p l e R s m args below meth c H locs cells slots Q (F0 m pc ls (.ref a :: rest)) :=
  fget S hK hH he rfl fwX3 5 (by decide) mW302 rfl hdg kk
theorem gfX3_23 {v0 v1 v2 v3 v4 v5 v6 v7 v8 v9 v10 v11 v12 v13 v14 v15 : Value} (S : CallFix p m c cc nL s args BW RX3) (hK : KG G s) (hH : HS G B w n s H locs) (he : w a = some (eO 3 [v0, v1, v2, v3, v4, v5, v6, v7, v8, v9, v10, v11, v12, v13, v14, v15])) (hdg : decode cc pc = .ok (.getfield 23, 3)) (kk : W p l e R s m args below meth c H locs cells slots Q (F0 m (pc + 3) ls (v6 :: rest))) : W p l e R s m args below meth c H locs cells slots Q (F0 m pc ls (.ref a :: rest)) :=
  fget S hK hH he rfl fwX3 6 (by decide) mW303 rfl hdg kk
theorem gfX3_26 {v0 v1 v2 v3 v4 v5 v6 v7 v8 v9 v10 v11 v12 v13 v14 v15 : Value} (S : CallFix p m c cc nL s args BW RX3) (hK : KG G s) (hH : HS G B w n s H locs) (he : w a = some (eO 3 [v0, v1, v2, v3, v4, v5, v6, v7, v8, v9, v10, v11, v12, v13, v14, v15])) (hdg : decode cc pc = .ok (.getfield 26, 3)) (kk : W p l e R s m args below meth c H locs cells slots Q (F0 m (pc + 3) ls (v7 :: rest))) : W p l e R s m args below meth c H locs cells slots Q (F0 m pc ls (.ref a :: rest)) :=
  fget S hK hH he rfl fwX3 7 (by decide) mW304 rfl hdg kk
theorem gfX3_29 {v0 v1 v2 v3 v4 v5 v6 v7 v8 v9 v10 v11 v12 v13 v14 v15 : Value} (S : CallFix p m c cc nL s args BW RX3) (hK : KG G s) (hH : HS G B w n s H locs) (he : w a = some (eO 3 [v0, v1, v2, v3, v4, v5, v6, v7, v8, v9, v10, v11, v12, v13, v14, v15])) (hdg : decode cc pc = .ok (.getfield 29, 3)) (kk : W p l e R s m args below meth c H locs cells slots Q (F0 m (pc + 3) ls (v8 :: rest))) : W p l e R s m args below meth c H locs cells slots Q (F0 m pc ls (.ref a :: rest)) :=
  fget S hK hH he rfl fwX3 8 (by decide) mW305 rfl hdg kk
theorem gfX3_32 {v0 v1 v2 v3 v4 v5 v6 v7 v8 v9 v10 v11 v12 v13 v14 v15 : Value} (S : CallFix p m c cc nL s args BW RX3) (hK : KG G s) (hH : HS G B w n s H locs) (he : w a = some (eO 3 [v0, v1, v2, v3, v4, v5, v6, v7, v8, v9, v10, v11, v12, v13, v14, v15])) (hdg : decode cc pc = .ok (.getfield 32, 3)) (kk : W p l e R s m args below meth c H locs cells slots Q (F0 m (pc + 3) ls (v9 :: rest))) : W p l e R s m args below meth c H locs cells slots Q (F0 m pc ls (.ref a :: rest)) :=
  fget S hK hH he rfl fwX3 9 (by decide) mW306 rfl hdg kk
theorem gfX3_35 {v0 v1 v2 v3 v4 v5 v6 v7 v8 v9 v10 v11 v12 v13 v14 v15 : Value} (S : CallFix p m c cc nL s args BW RX3) (hK : KG G s) (hH : HS G B w n s H locs) (he : w a = some (eO 3 [v0, v1, v2, v3, v4, v5, v6, v7, v8, v9, v10, v11, v12, v13, v14, v15])) (hdg : decode cc pc = .ok (.getfield 35, 3)) (kk : W p l e R s m args below meth c H locs cells slots Q (F0 m (pc + 3) ls (v10 :: rest))) : W p l e R s m args below meth c H locs cells slots Q (F0 m pc ls (.ref a :: rest)) :=
  fget S hK hH he rfl fwX3 10 (by decide) mW307 rfl hdg kk
theorem pfX3_125 {v0 v1 v2 v3 v4 v5 v6 v7 v8 v9 v10 v11 v12 v13 v14 v15 : Value} {x : Int32} (S : CallFix p m c cc nL s args BW RX3) (hK : KG G s) (hH : HS G B w n s H locs) (he : w a = some (eO 3 [v0, v1, v2, v3, v4, v5, v6, v7, v8, v9, v10, v11, v12, v13, v14, v15])) (hdg : decode cc pc = .ok (.putfield 125, 3)) (kk : ∀ (w1 : Wm) (H1 : Heap) (locs1 : List Loc), w1 a = some (eO 3 [v0, v1, v2, v3, v4, .int x, v6, v7, v8, v9, v10, v11, v12, v13, v14, v15]) → (∀ b, b ≠ a → w1 b = w b) → HS G B w1 n s H1 locs1 → W p l e R s m args below meth c H1 locs1 cells slots Q (F0 m (pc + 3) ls rest)) : W p l e R s m args below meth c H locs cells slots Q (F0 m pc ls (.int x :: .ref a :: rest)) :=
  fput S hK hH he rfl fwX3 tyX3 tyX3_ok nmX3 5 (by decide) mW302 rfl rfl rfl (by show 5 < 16; decide) rfl hdg kk
end FL
theorem ceX2_init : CeI yX2_init cX2_init 3 0 := ⟨mW10, mW9, rfl, mW1, ⟨by decide, by decide⟩, by unfold arity; decide +kernel⟩
theorem ceX1_init : CeI yX1_init cX1_init 3 1 := ⟨mW18, mW17, rfl, mW2, ⟨by decide, by decide⟩, by unfold arity; decide +kernel⟩
theorem ceX0_init : CeI yX0_init cX0_init 1 0 := ⟨mW53, mW52, rfl, mW4, ⟨by decide, by decide⟩, by unfold arity; decide +kernel⟩
theorem ceX2_constant : CeV RX2 yX2_constant cX2_constant 3 (some .int) 2 := ⟨mW100, mW98, mW99, mW1, ⟨by decide, by decide⟩, by unfold arity; decide +kernel⟩
theorem ceX2_isRegister : CeS yX2_isRegister cX2_isRegister 1 (some .boolean) 1 := ⟨mW103, mW102, mW1, ⟨by decide, by decide⟩, by unfold arity; decide +kernel⟩
theorem ceX0_beginProduct : CeV RX0 yX0_beginProduct cX0_beginProduct 4 none 2 := ⟨mW109, mW108, mS0, mW4, ⟨by decide, by decide⟩, by unfold arity; decide +kernel⟩
theorem ceX1_clear : CeV RX1 yX1_clear cX1_clear 1 none 0 := ⟨mW113, mW112, mS1, mW2, ⟨by decide, by decide⟩, by unfold arity; decide +kernel⟩
theorem ceX1_append : CeV RX1 yX1_append cX1_append 5 (some .boolean) 2 := ⟨mW117, mW116, mS2, mW2, ⟨by decide, by decide⟩, by unfold arity; decide +kernel⟩
theorem ceX2_store : CeV RX2 yX2_store cX2_store 3 (some .int) 2 := ⟨mW123, mW122, mS3, mW1, ⟨by decide, by decide⟩, by unfold arity; decide +kernel⟩
theorem ceX1_copied : CeV RX1 yX1_copied cX1_copied 3 (some (.object "PolyDesk$Poly")) 0 := ⟨mW127, mW126, mS4, mW2, ⟨by decide, by decide⟩, by unfold arity; decide +kernel⟩
theorem ceX2_symbol : CeV RX2 yX2_symbol cX2_symbol 3 (some .int) 2 := ⟨mW134, mW132, mW133, mW1, ⟨by decide, by decide⟩, by unfold arity; decide +kernel⟩
theorem ceX2_isSymbol : CeS yX2_isSymbol cX2_isSymbol 1 (some .boolean) 1 := ⟨mW137, mW136, mW1, ⟨by decide, by decide⟩, by unfold arity; decide +kernel⟩
theorem ceX2_symbolCode : CeS yX2_symbolCode cX2_symbolCode 4 (some .long) 1 := ⟨mW140, mW139, mW1, ⟨by decide, by decide⟩, by unfold arity; decide +kernel⟩
theorem ceX2_plus : CeV RX2 yX2_plus cX2_plus 4 (some .int) 3 := ⟨mW146, mW144, mW145, mW1, ⟨by decide, by decide⟩, by unfold arity; decide +kernel⟩
theorem ceX2_combine : CeV RX2 yX2_combine cX2_combine 5 (some .int) 4 := ⟨mW150, mW149, mS5, mW1, ⟨by decide, by decide⟩, by unfold arity; decide +kernel⟩
theorem ceX0_makeTotal : CeV RX0 yX0_makeTotal cX0_makeTotal 4 (some .boolean) 3 := ⟨mW154, mW153, mS6, mW4, ⟨by decide, by decide⟩, by unfold arity; decide +kernel⟩
theorem ceX1_takeSum : CeV RX1 yX1_takeSum cX1_takeSum 14 (some .boolean) 3 := ⟨mW158, mW157, mS7, mW2, ⟨by decide, by decide⟩, by unfold arity; decide +kernel⟩
theorem ceX2_minus : CeV RX2 yX2_minus cX2_minus 4 (some .int) 3 := ⟨mW163, mW161, mW162, mW1, ⟨by decide, by decide⟩, by unfold arity; decide +kernel⟩
theorem ceX2_times : CeV RX2 yX2_times cX2_times 4 (some .int) 3 := ⟨mW167, mW165, mW166, mW1, ⟨by decide, by decide⟩, by unfold arity; decide +kernel⟩
theorem ceX0_makeProduct : CeV RX0 yX0_makeProduct cX0_makeProduct 3 (some .boolean) 2 := ⟨mW171, mW170, mS8, mW4, ⟨by decide, by decide⟩, by unfold arity; decide +kernel⟩
theorem ceX0_fillProduct : CeV RX0 yX0_fillProduct cX0_fillProduct 4 (some .boolean) 3 := ⟨mW175, mW174, mS9, mW4, ⟨by decide, by decide⟩, by unfold arity; decide +kernel⟩
theorem ceX1_takeTops : CeV RX1 yX1_takeTops cX1_takeTops 4 (some .boolean) 2 := ⟨mW179, mW178, mS10, mW2, ⟨by decide, by decide⟩, by unfold arity; decide +kernel⟩
theorem ceX1_findTops : CeV RX1 yX1_findTops cX1_findTops 5 none 0 := ⟨mW183, mW182, mS11, mW2, ⟨by decide, by decide⟩, by unfold arity; decide +kernel⟩
theorem ceX0_merge : CeV RX0 yX0_merge cX0_merge 8 (some .boolean) 3 := ⟨mW188, mW187, mS12, mW4, ⟨by decide, by decide⟩, by unfold arity; decide +kernel⟩
theorem ceX0_greatestCode : CeV RX0 yX0_greatestCode cX0_greatestCode 6 (some .long) 2 := ⟨mW192, mW191, mS13, mW4, ⟨by decide, by decide⟩, by unfold arity; decide +kernel⟩
theorem ceX0_gather : CeV RX0 yX0_gather cX0_gather 9 (some .long) 3 := ⟨mW200, mW199, mS14, mW4, ⟨by decide, by decide⟩, by unfold arity; decide +kernel⟩
theorem ceX2_put : CeV RX2 yX2_put cX2_put 5 (some .int) 2 := ⟨mW204, mW202, mW203, mW1, ⟨by decide, by decide⟩, by unfold arity; decide +kernel⟩
theorem ceX0_beginTotal : CeV RX0 yX0_beginTotal cX0_beginTotal 1 none 0 := ⟨mW208, mW207, mS15, mW4, ⟨by decide, by decide⟩, by unfold arity; decide +kernel⟩
theorem ceX2_workTerm : CeV RX2 yX2_workTerm cX2_workTerm 6 (some .boolean) 2 := ⟨mW212, mW211, mS16, mW1, ⟨by decide, by decide⟩, by unfold arity; decide +kernel⟩
theorem ceX1_coefficientAt : CeV RX1 yX1_coefficientAt cX1_coefficientAt 2 (some .int) 1 := ⟨mW216, mW215, mS17, mW2, ⟨by decide, by decide⟩, by unfold arity; decide +kernel⟩
theorem ceX1_hasTerm : CeV RX1 yX1_hasTerm cX1_hasTerm 2 (some .boolean) 1 := ⟨mW220, mW219, mS18, mW2, ⟨by decide, by decide⟩, by unfold arity; decide +kernel⟩
theorem ceX1_powerAt : CeV RX1 yX1_powerAt cX1_powerAt 6 (some .int) 2 := ⟨mW224, mW223, mS19, mW2, ⟨by decide, by decide⟩, by unfold arity; decide +kernel⟩
theorem ceX0_multiplyBy : CeV RX0 yX0_multiplyBy cX0_multiplyBy 4 (some .boolean) 1 := ⟨mW229, mW228, mS20, mW4, ⟨by decide, by decide⟩, by unfold arity; decide +kernel⟩
theorem ceX0_addProduct : CeV RX0 yX0_addProduct cX0_addProduct 3 (some .boolean) 0 := ⟨mW233, mW232, mS21, mW4, ⟨by decide, by decide⟩, by unfold arity; decide +kernel⟩
theorem ceX2_size : CeV RX2 yX2_size cX2_size 2 (some .int) 1 := ⟨mW237, mW235, mW236, mW1, ⟨by decide, by decide⟩, by unfold arity; decide +kernel⟩
theorem ceX2_term : CeV RX2 yX2_term cX2_term 4 (some .int) 3 := ⟨mW241, mW239, mW240, mW1, ⟨by decide, by decide⟩, by unfold arity; decide +kernel⟩
theorem ceX2_same : CeV RX2 yX2_same cX2_same 3 (some .int) 2 := ⟨mW245, mW243, mW244, mW1, ⟨by decide, by decide⟩, by unfold arity; decide +kernel⟩
theorem ceX1_matches : CeV RX1 yX1_matches cX1_matches 3 (some .boolean) 1 := ⟨mW249, mW248, mS22, mW2, ⟨by decide, by decide⟩, by unfold arity; decide +kernel⟩
theorem ceX2_value : CeV RX2 yX2_value cX2_value 3 (some .long) 2 := ⟨mW253, mW251, mW252, mW1, ⟨by decide, by decide⟩, by unfold arity; decide +kernel⟩
theorem ceX1_valueWith : CeV RX1 yX1_valueWith cX1_valueWith 9 (some .long) 1 := ⟨mW257, mW256, mS23, mW2, ⟨by decide, by decide⟩, by unfold arity; decide +kernel⟩
theorem ceX2_hypothesis : CeV RX2 yX2_hypothesis cX2_hypothesis 2 (some .int) 1 := ⟨mW262, mW260, mW261, mW1, ⟨by decide, by decide⟩, by unfold arity; decide +kernel⟩
theorem ceX2_keep : CeV RX2 yX2_keep cX2_keep 2 (some .int) 1 := ⟨mW266, mW264, mW265, mW1, ⟨by decide, by decide⟩, by unfold arity; decide +kernel⟩
theorem ceX2_part : CeV RX2 yX2_part cX2_part 7 (some .int) 5 := ⟨mW270, mW268, mW269, mW1, ⟨by decide, by decide⟩, by unfold arity; decide +kernel⟩
theorem ceX2_show : CeV RX2 yX2_show cX2_show 4 (some .int) 2 := ⟨mW274, mW272, mW273, mW1, ⟨by decide, by decide⟩, by unfold arity; decide +kernel⟩
theorem ceX2_judge : CeV RX2 yX2_judge cX2_judge 5 (some .int) 2 := ⟨mW278, mW277, mS24, mW1, ⟨by decide, by decide⟩, by unfold arity; decide +kernel⟩
theorem ceX2_factorsAreThere : CeV RX2 yX2_factorsAreThere cX2_factorsAreThere 2 (some .boolean) 0 := ⟨mW282, mW281, mS25, mW1, ⟨by decide, by decide⟩, by unfold arity; decide +kernel⟩
theorem ceX2_workPart : CeV RX2 yX2_workPart cX2_workPart 4 (some .boolean) 1 := ⟨mW286, mW285, mS26, mW1, ⟨by decide, by decide⟩, by unfold arity; decide +kernel⟩
theorem ceX2_count : CeV RX2 yX2_count cX2_count 2 (some .int) 1 := ⟨mW290, mW288, mW289, mW1, ⟨by decide, by decide⟩, by unfold arity; decide +kernel⟩
theorem ceX3_init : CeI yX3_init cX3_init 1 0 := ⟨mW295, mW294, rfl, mW5, ⟨by decide, by decide⟩, by unfold arity; decide +kernel⟩
theorem ceX3_constant : CeV RX3 yX3_constant cX3_constant 3 (some .int) 2 := ⟨mW349, mW347, mW348, mW5, ⟨by decide, by decide⟩, by unfold arity; decide +kernel⟩
theorem ceX3_is : CeS yX3_is cX3_is 1 (some .boolean) 1 := ⟨mW352, mW351, mW5, ⟨by decide, by decide⟩, by unfold arity; decide +kernel⟩
theorem ceX3_whole : CeV RX3 yX3_whole cX3_whole 4 (some .boolean) 2 := ⟨mW356, mW355, mS27, mW5, ⟨by decide, by decide⟩, by unfold arity; decide +kernel⟩
theorem ceX3_begin : CeV RX3 yX3_begin cX3_begin 1 none 0 := ⟨mW360, mW359, mS28, mW5, ⟨by decide, by decide⟩, by unfold arity; decide +kernel⟩
theorem ceX3_add : CeV RX3 yX3_add cX3_add 8 none 3 := ⟨mW364, mW363, mS29, mW5, ⟨by decide, by decide⟩, by unfold arity; decide +kernel⟩
theorem ceX3_to : CeV RX3 yX3_to cX3_to 6 (some .boolean) 1 := ⟨mW368, mW367, mS30, mW5, ⟨by decide, by decide⟩, by unfold arity; decide +kernel⟩
theorem ceX3_swap : CeV RX3 yX3_swap cX3_swap 5 none 2 := ⟨mW372, mW371, mS31, mW5, ⟨by decide, by decide⟩, by unfold arity; decide +kernel⟩
theorem ceX3_isAhead : CeV RX3 yX3_isAhead cX3_isAhead 5 (some .boolean) 2 := ⟨mW378, mW377, mS32, mW5, ⟨by decide, by decide⟩, by unfold arity; decide +kernel⟩
theorem ceX3_degree : CeS yX3_degree cX3_degree 6 (some .int) 2 := ⟨mW381, mW380, mW5, ⟨by decide, by decide⟩, by unfold arity; decide +kernel⟩
theorem ceX3_symbol : CeV RX3 yX3_symbol cX3_symbol 3 (some .int) 2 := ⟨mW386, mW384, mW385, mW5, ⟨by decide, by decide⟩, by unfold arity; decide +kernel⟩
theorem ceX3_plus : CeV RX3 yX3_plus cX3_plus 4 (some .int) 3 := ⟨mW390, mW388, mW389, mW5, ⟨by decide, by decide⟩, by unfold arity; decide +kernel⟩
theorem ceX3_sum : CeV RX3 yX3_sum cX3_sum 6 (some .boolean) 4 := ⟨mW394, mW393, mS33, mW5, ⟨by decide, by decide⟩, by unfold arity; decide +kernel⟩
theorem ceX3_addAll : CeV RX3 yX3_addAll cX3_addAll 5 none 2 := ⟨mW398, mW397, mS34, mW5, ⟨by decide, by decide⟩, by unfold arity; decide +kernel⟩
theorem ceX3_minus : CeV RX3 yX3_minus cX3_minus 4 (some .int) 3 := ⟨mW402, mW400, mW401, mW5, ⟨by decide, by decide⟩, by unfold arity; decide +kernel⟩
theorem ceX3_times : CeV RX3 yX3_times cX3_times 4 (some .int) 3 := ⟨mW407, mW405, mW406, mW5, ⟨by decide, by decide⟩, by unfold arity; decide +kernel⟩
theorem ceX3_product : CeV RX3 yX3_product cX3_product 10 (some .boolean) 3 := ⟨mW411, mW410, mS35, mW5, ⟨by decide, by decide⟩, by unfold arity; decide +kernel⟩
theorem ceX3_isFar : CeS yX3_isFar cX3_isFar 4 (some .boolean) 1 := ⟨mW414, mW413, mW5, ⟨by decide, by decide⟩, by unfold arity; decide +kernel⟩
theorem ceX3_put : CeV RX3 yX3_put cX3_put 7 (some .int) 2 := ⟨mW419, mW417, mW418, mW5, ⟨by decide, by decide⟩, by unfold arity; decide +kernel⟩
theorem ceX3_power : CeV RX3 yX3_power cX3_power 3 (some .int) 2 := ⟨mW423, mW422, mS36, mW5, ⟨by decide, by decide⟩, by unfold arity; decide +kernel⟩
theorem ceX3_copy : CeV RX3 yX3_copy cX3_copy 4 none 2 := ⟨mW427, mW426, mS37, mW5, ⟨by decide, by decide⟩, by unfold arity; decide +kernel⟩
theorem ceX3_size : CeV RX3 yX3_size cX3_size 2 (some .int) 1 := ⟨mW431, mW429, mW430, mW5, ⟨by decide, by decide⟩, by unfold arity; decide +kernel⟩
theorem ceX3_term : CeV RX3 yX3_term cX3_term 4 (some .int) 3 := ⟨mW435, mW433, mW434, mW5, ⟨by decide, by decide⟩, by unfold arity; decide +kernel⟩
theorem ceX3_same : CeV RX3 yX3_same cX3_same 3 (some .int) 2 := ⟨mW439, mW437, mW438, mW5, ⟨by decide, by decide⟩, by unfold arity; decide +kernel⟩
theorem ceX3_isSame : CeV RX3 yX3_isSame cX3_isSame 7 (some .boolean) 2 := ⟨mW443, mW442, mS38, mW5, ⟨by decide, by decide⟩, by unfold arity; decide +kernel⟩
theorem ceX3_value : CeV RX3 yX3_value cX3_value 10 (some .long) 2 := ⟨mW447, mW445, mW446, mW5, ⟨by decide, by decide⟩, by unfold arity; decide +kernel⟩
theorem ceX3_hypothesis : CeV RX3 yX3_hypothesis cX3_hypothesis 2 (some .int) 1 := ⟨mW451, mW449, mW450, mW5, ⟨by decide, by decide⟩, by unfold arity; decide +kernel⟩
theorem ceX3_keep : CeV RX3 yX3_keep cX3_keep 2 (some .int) 1 := ⟨mW455, mW453, mW454, mW5, ⟨by decide, by decide⟩, by unfold arity; decide +kernel⟩
theorem ceX3_part : CeV RX3 yX3_part cX3_part 6 (some .int) 5 := ⟨mW459, mW457, mW458, mW5, ⟨by decide, by decide⟩, by unfold arity; decide +kernel⟩
theorem ceX3_show : CeV RX3 yX3_show cX3_show 7 (some .int) 2 := ⟨mW464, mW462, mW463, mW5, ⟨by decide, by decide⟩, by unfold arity; decide +kernel⟩
theorem ceX3_hypOf : CeV RX3 yX3_hypOf cX3_hypOf 3 (some .int) 2 := ⟨mW468, mW467, mS39, mW5, ⟨by decide, by decide⟩, by unfold arity; decide +kernel⟩
theorem ceX3_count : CeV RX3 yX3_count cX3_count 2 (some .int) 1 := ⟨mW472, mW470, mW471, mW5, ⟨by decide, by decide⟩, by unfold arity; decide +kernel⟩
end
section
/-! ===== numbers ===== -/
def iI (z : Int) : Int32 := Int32.ofInt z
def lI (z : Int) : Int64 := Int64.ofInt z
theorem nI_iI (n : Nat) : nI n = iI (n : Int) := rfl
theorem lN_lI (n : Nat) : lN n = lI (n : Int) := rfl
theorem nI_inc (a k : Nat) : nI a + Int32.ofInt (k : Int) = nI (a + k) := nI_add a k
theorem nI_dec {a : Nat} (h : 0 < a) : nI a + Int32.ofInt (-1) = nI (a - 1) := by
  obtain ⟨b, rfl⟩ : ∃ b, a = b + 1 := ⟨a - 1, by omega⟩
  exact pk_m1 b
theorem lI_add (a b : Int) : lI a + lI b = lI (a + b) := (Int64.ofInt_add a b).symm
theorem lI_sub (a b : Int) : lI a - lI b = lI (a - b) := (Int64.ofInt_sub a b).symm
theorem lI_mul (a b : Int) : lI a * lI b = lI (a * b) := (Int64.ofInt_mul a b).symm
theorem iI_add (a b : Int) : iI a + iI b = iI (a + b) := (Int32.ofInt_add a b).symm
theorem lI_toInt {z : Int} (h : -9223372036854775808 ≤ z ∧ z < 9223372036854775808) : (lI z).toInt = z := Int64.toInt_ofInt_of_le (by simpa using h.1) (by simpa using h.2)
theorem iI_toInt {z : Int} (h : -2147483648 ≤ z ∧ z < 2147483648) : (iI z).toInt = z := Int32.toInt_ofInt_of_le (by simpa using h.1) (by simpa using h.2)
theorem lI_lt {a b : Int} (ha : -9223372036854775808 ≤ a ∧ a < 9223372036854775808) (hb : -9223372036854775808 ≤ b ∧ b < 9223372036854775808) : lI a < lI b ↔ a < b := by
  rw [Int64.lt_iff_toInt_lt, lI_toInt ha, lI_toInt hb]
theorem lI_le {a b : Int} (ha : -9223372036854775808 ≤ a ∧ a < 9223372036854775808) (hb : -9223372036854775808 ≤ b ∧ b < 9223372036854775808) : lI a ≤ lI b ↔ a ≤ b := by
  rw [Int64.le_iff_toInt_le, lI_toInt ha, lI_toInt hb]
theorem lI_eq {a b : Int} (ha : -9223372036854775808 ≤ a ∧ a < 9223372036854775808) (hb : -9223372036854775808 ≤ b ∧ b < 9223372036854775808) : lI a = lI b ↔ a = b := by
  rw [← Int64.toInt_inj, lI_toInt ha, lI_toInt hb]
theorem iI_lt {a b : Int} (ha : -2147483648 ≤ a ∧ a < 2147483648) (hb : -2147483648 ≤ b ∧ b < 2147483648) : iI a < iI b ↔ a < b := by
  rw [Int32.lt_iff_toInt_lt, iI_toInt ha, iI_toInt hb]
theorem iI_le {a b : Int} (ha : -2147483648 ≤ a ∧ a < 2147483648) (hb : -2147483648 ≤ b ∧ b < 2147483648) : iI a ≤ iI b ↔ a ≤ b := by
  rw [Int32.le_iff_toInt_le, iI_toInt ha, iI_toInt hb]
theorem iI_eq {a b : Int} (ha : -2147483648 ≤ a ∧ a < 2147483648) (hb : -2147483648 ≤ b ∧ b < 2147483648) : iI a = iI b ↔ a = b := by
  rw [← Int32.toInt_inj, iI_toInt ha, iI_toInt hb]
theorem iI_l {z : Int} (h : -2147483648 ≤ z ∧ z < 2147483648) : (iI z).toInt64 = lI z := by
  rw [← Int64.toInt_inj, Int32.toInt_toInt64, iI_toInt h, lI_toInt (by omega)]
theorem lI_i (z : Int) : (lI z).toInt32 = iI z := Int64.toInt32_ofInt
theorem nI_lI {a : Nat} (h : a < 2147483648) : (nI a).toInt64 = lI (a : Int) := by
  rw [nI_iI]; exact iI_l (by omega)
theorem iI_of (x : Int32) : ∃ z : Int, -2147483648 ≤ z ∧ z < 2147483648 ∧ x = iI z := by
  refine ⟨x.toInt, by have := x.le_toInt; simpa using this, by have := x.toInt_lt; simpa using this, ?_⟩
  exact (Int32.ofInt_toInt x).symm
/-! ===== lists of terms ===== -/
abbrev PL : Type := List (Nat × Int)
def cd (L : PL) (j : Nat) : Nat := (L.getD j (0, 0)).1
def cf (L : PL) (j : Nat) : Int := (L.getD j (0, 0)).2
theorem cd_lt {L : PL} {x : Nat × Int} {j : Nat} (h : j < L.length) : cd (L ++ [x]) j = cd L j := by
  simp [cd, List.getD_eq_getElem?_getD, List.getElem?_append_left h]
theorem cf_lt {L : PL} {x : Nat × Int} {j : Nat} (h : j < L.length) : cf (L ++ [x]) j = cf L j := by
  simp [cf, List.getD_eq_getElem?_getD, List.getElem?_append_left h]
theorem cd_last {L : PL} {x : Nat × Int} : cd (L ++ [x]) L.length = x.1 := by
  simp [cd, List.getD_eq_getElem?_getD]
theorem cf_last {L : PL} {x : Nat × Int} : cf (L ++ [x]) L.length = x.2 := by
  simp [cf, List.getD_eq_getElem?_getD]
theorem cd_mem {L : PL} {j : Nat} (h : j < L.length) : (cd L j, cf L j) ∈ L := by
  have : L.getD j (0, 0) = L[j] := by simp [List.getD_eq_getElem?_getD, h]
  unfold cd cf
  rw [this]
  exact List.getElem_mem h
theorem drop_cd {L : PL} {j : Nat} (h : j < L.length) : L.drop j = (cd L j, cf L j) :: L.drop (j + 1) := by
  have : L.getD j (0, 0) = L[j] := by simp [List.getD_eq_getElem?_getD, h]
  unfold cd cf
  rw [this]
  exact List.drop_eq_getElem_cons h
theorem take_cd {L : PL} {j : Nat} (h : j < L.length) : L.take (j + 1) = L.take j ++ [(cd L j, cf L j)] := by
  have : L.getD j (0, 0) = L[j] := by simp [List.getD_eq_getElem?_getD, h]
  unfold cd cf
  rw [this]
  exact List.take_succ_eq_append_getElem h
/-- one term more; none: too big -/
def app (cap : Nat) (L : PL) (c : Nat) (k : Int) : Option PL := if k = 0 then some L else if 99999999 < k ∨ k < -99999999 ∨ cap ≤ L.length then none else some (L ++ [(c, k)])
/-- a Poly at a: its rows lie behind it -/
def PolyC (G : Gx) (w : Wm) (a cap : Nat) (L : PL) (tk : Int32) (tp : Nat → Int32) : Prop :=
  ∃ (f : Nat → Int64) (g : Nat → Int32), w a = some (eO 1 [.ref (a + 1), .ref (a + 2), .int (nI L.length), .ref (a + 3), .int tk]) ∧ w (a + 1) = some (eJ G cap f) ∧ w (a + 2) = some (eI G cap g) ∧ w (a + 3) = some (eI G 16 tp) ∧ L.length ≤ cap ∧ cap ≤ 60 ∧ (∀ j, j < L.length → f j = lN (cd L j)) ∧ (∀ j, j < L.length → g j = iI (cf L j)) ∧ (tk = 0 ∨ tk = 1)
theorem PolyC.kept {G : Gx} {w w' : Wm} {a cap : Nat} {L : PL} {tk : Int32} {tp : Nat → Int32} (h : PolyC G w a cap L tk tp) (hf : ∀ b, a ≤ b → b < a + 4 → w' b = w b) : PolyC G w' a cap L tk tp := by
  obtain ⟨f, g, h0, h1, h2, h3, h4⟩ := h
  exact ⟨f, g, (hf a (by omega) (by omega)).trans h0, (hf _ (by omega) (by omega)).trans h1, (hf _ (by omega) (by omega)).trans h2, (hf _ (by omega) (by omega)).trans h3, h4⟩
end
section
theorem up_snoc_l {L : PL} {c : Nat} {k : Int} {f : Nat → Int64} (h : ∀ j, j < L.length → f j = lN (cd L j)) : ∀ j, j < (L ++ [(c, k)]).length → vp_updL f L.length (lN c) j = lN (cd (L ++ [(c, k)]) j) := by
  intro j hj
  rw [List.length_append] at hj
  by_cases q : j = L.length
  · subst q; rw [cd_last]; simp [vp_updL]
  · have hj' : j < L.length := by simp at hj; omega
    rw [cd_lt hj', ← h j hj']; simp [vp_updL, q]
theorem up_snoc_i {L : PL} {c : Nat} {k : Int} {g : Nat → Int32} (h : ∀ j, j < L.length → g j = iI (cf L j)) : ∀ j, j < (L ++ [(c, k)]).length → upd g L.length (iI k) j = iI (cf (L ++ [(c, k)]) j) := by
  intro j hj
  rw [List.length_append] at hj
  by_cases q : j = L.length
  · subst q; rw [cf_last]; simp [upd]
  · have hj' : j < L.length := by simp at hj; omega
    rw [cf_lt hj', ← h j hj']; simp [upd, q]

set_option maxHeartbeats 4000000 in
set_option maxRecDepth 100000 in
theorem kX1_clear {l : Launch} {G : Gx} {B : Nat} {w : Wm} {n : Nat} (a cap : Nat) (L : PL) (tk : Int32) (tp : Nat → Int32) (hp : PolyC G w a cap L tk tp) : Met l yX1_clear (wsM yX1_clear cX1_clear 1 none) ({ frames := 0, cells := 0, slots := 0, locals := 0 } : Room) (Pcx G B w n [.ref (a)]) (Qv G B (fun w' n' => n' = n ∧ (∀ b, b ≠ a → w' b = w b) ∧ PolyC G w' a cap [] 0 tp)) 0 0 (FA B) := by
  refine en (by decide) (Nat.le_of_ble_eq_true rfl) ?_
  intro p ev s mm ag bl mt co S hr hlk hnm hK H hH ls hl
  have hl : lv_has ls 1 [(0, .ref (a))] := hl
  obtain ⟨f, g, h0, h1, h2, h3, h4, h5, h6, h7, h8⟩ := hp
  have hF : ∀ b, b ≠ a → w b = w b := fun _ _ => rfl
  refine lv_aload_n S.1 S.2.1 dX1_clear_0 rfl (lv_at hl 0 rfl) ?_
  refine lv_iconst (v := nI 0) S.1 S.2.1 dX1_clear_1 (by decide) ?_
  refine pfX1_28 S hK hH h0 dX1_clear_2 (fun w1 H locs h0 fr hH => ?_)
  replace h1 := (fr (a + 1) (by omega)).trans h1
  replace h2 := (fr (a + 2) (by omega)).trans h2
  replace h3 := (fr (a + 3) (by omega)).trans h3
  replace hF : ∀ b, b ≠ a → w1 b = w b := fun b hb => (fr b (by omega)).trans (hF b hb)
  refine lv_aload_n S.1 S.2.1 dX1_clear_5 rfl (lv_at hl 0 rfl) ?_
  refine lv_iconst (v := nI 0) S.1 S.2.1 dX1_clear_6 (by decide) ?_
  refine pfX1_35 S hK hH h0 (by decide) dX1_clear_7 (fun w2 H locs h0 fr hH => ?_)
  replace h1 := (fr (a + 1) (by omega)).trans h1
  replace h2 := (fr (a + 2) (by omega)).trans h2
  replace h3 := (fr (a + 3) (by omega)).trans h3
  replace hF : ∀ b, b ≠ a → w2 b = w b := fun b hb => (fr b (by omega)).trans (hF b hb)
  exact rt_v S hr hlk hH dX1_clear_10 (⟨rfl, hF, f, g, h0, h1, h2, h3, Nat.zero_le _, h5, fun j h => absurd h (Nat.not_lt_zero j), fun j h => absurd h (Nat.not_lt_zero j), Or.inl rfl⟩)

set_option maxHeartbeats 4000000 in
set_option maxRecDepth 100000 in
theorem kX1_append {l : Launch} {G : Gx} {B : Nat} {w : Wm} {n : Nat} (a cap c : Nat) (L : PL) (k : Int) (tk : Int32) (tp : Nat → Int32) (hp : PolyC G w a cap L tk tp) (hk : -4611686018427387904 ≤ k ∧ k < 4611686018427387904) : Met l yX1_append (wsM yX1_append cX1_append 5 (some .boolean)) ({ frames := 0, cells := 0, slots := 0, locals := 0 } : Room) (Pcx G B w n [.ref (a), .long (lN c), .long (lI k)]) (Qi G B (fun r w' n' => n' = n ∧ (∀ b, (b < a ∨ a + 3 ≤ b) → w' b = w b) ∧ ((r = 1 ∧ ∃ L', app cap L c k = some L' ∧ PolyC G w' a cap L' tk tp) ∨ (r = 0 ∧ app cap L c k = none ∧ w' = w)))) 0 0 (FA B) := by
  refine en (by decide) (Nat.le_of_ble_eq_true rfl) ?_
  intro p ev s mm ag bl mt co S hr hlk hnm hK H hH ls hl
  have hl : lv_has ls 5 [(0, .ref (a)), (1, .long (lN c)), (3, .long (lI k))] := hl
  obtain ⟨f, g, h0, h1, h2, h3, h4, h5, h6, h7, h8⟩ := hp
  have hF : ∀ b, b < a ∨ a + 3 ≤ b → w b = w b := fun _ _ => rfl
  refine lv_lload_n S.1 S.2.1 dX1_append_0 rfl (lv_at hl 2 rfl) ?_
  refine lv_lconst (v := lI 0) S.1 S.2.1 dX1_append_1 (by decide) ?_
  refine bl_ne (tgt := 8) S dX1_append_2 dX1_append_3 (by decide) (fun c2 => ?_) (fun c2 => ?_)
  · skip
    have c2 : k ≠ 0 := fun q => c2 ((lI_eq (by omega) (by omega)).mpr q)
    refine lv_lload_n S.1 S.2.1 dX1_append_8 rfl (lv_at hl 2 rfl) ?_
    refine lv_ldc2 S.1 S.2.1 S.2.2.2.1 (S.2.2.2.2 _ mW118) dX1_append_9 ?_
    refine tpl (x' := lI 99999999) (by decide) ?_
    refine bl_gt (tgt := 36) S dX1_append_12 dX1_append_13 (by decide) (fun c12 => ?_) (fun c12 => ?_)
    · skip
      have c12 : 99999999 < k := (lI_lt (by omega) (by omega)).mp c12
      refine lv_iconst (v := nI 0) S.1 S.2.1 dX1_append_36 (by decide) ?_
      exact rt_z S hr hlk hH dX1_append_37 (by decide) (⟨rfl, hF, Or.inr ⟨rfl, by simp [app, c2, c12], rfl⟩⟩)
    · skip
      have c12 : ¬ 99999999 < k := fun q => c12 ((lI_lt (by omega) (by omega)).mpr q)
      refine lv_lload_n S.1 S.2.1 dX1_append_16 rfl (lv_at hl 2 rfl) ?_
      refine lv_ldc2 S.1 S.2.1 S.2.2.2.1 (S.2.2.2.2 _ mW119) dX1_append_17 ?_
      refine tpl (x' := lI (-99999999)) (by decide) ?_
      refine bl_lt (tgt := 36) S dX1_append_20 dX1_append_21 (by decide) (fun c20 => ?_) (fun c20 => ?_)
      · skip
        have c20 : k < -99999999 := (lI_lt (by omega) (by omega)).mp c20
        refine lv_iconst (v := nI 0) S.1 S.2.1 dX1_append_36 (by decide) ?_
        exact rt_z S hr hlk hH dX1_append_37 (by decide) (⟨rfl, hF, Or.inr ⟨rfl, by simp [app, c2, c20], rfl⟩⟩)
      · skip
        have c20 : ¬ k < -99999999 := fun q => c20 ((lI_lt (by omega) (by omega)).mpr q)
        refine lv_aload_n S.1 S.2.1 dX1_append_24 rfl (lv_at hl 0 rfl) ?_
        refine gfX1_28 S hK hH h0 dX1_append_25 ?_
        refine lv_aload_n S.1 S.2.1 dX1_append_28 rfl (lv_at hl 0 rfl) ?_
        refine gfX1_18 S hK hH h0 dX1_append_29 ?_
        refine aln_l S hK hH h1 dX1_append_32 ?_
        refine bn_lt (tgt := 38) S dX1_append_33 (by decide) (by omega) (fun c33 => ?_) (fun c33 => ?_)
        · skip
          refine lv_aload_n S.1 S.2.1 dX1_append_38 rfl (lv_at hl 0 rfl) ?_
          refine gfX1_18 S hK hH h0 dX1_append_39 ?_
          refine lv_aload_n S.1 S.2.1 dX1_append_42 rfl (lv_at hl 0 rfl) ?_
          refine gfX1_28 S hK hH h0 dX1_append_43 ?_
          refine lv_lload_n S.1 S.2.1 dX1_append_46 rfl (lv_at hl 1 rfl) ?_
          refine ast_l S hK hH h1 (by omega) (by omega) dX1_append_47 (fun w1 H locs h1 fr hH => ?_)
          replace h0 := (fr (a) (by omega)).trans h0
          replace h2 := (fr (a + 2) (by omega)).trans h2
          replace h3 := (fr (a + 3) (by omega)).trans h3
          replace hF : ∀ b, b < a ∨ a + 3 ≤ b → w1 b = w b := fun b hb => (fr b (by omega)).trans (hF b hb)
          refine lv_aload_n S.1 S.2.1 dX1_append_48 rfl (lv_at hl 0 rfl) ?_
          refine gfX1_24 S hK hH h0 dX1_append_49 ?_
          refine lv_aload_n S.1 S.2.1 dX1_append_52 rfl (lv_at hl 0 rfl) ?_
          refine gfX1_28 S hK hH h0 dX1_append_53 ?_
          refine lv_lload_n S.1 S.2.1 dX1_append_56 rfl (lv_at hl 2 rfl) ?_
          refine lv_l2i (v := iI (k)) S.1 S.2.1 dX1_append_57 (lI_i _) ?_
          refine ast_i S hK hH h2 (by omega) (by omega) dX1_append_58 (fun w2 H locs h2 fr hH => ?_)
          replace h0 := (fr (a) (by omega)).trans h0
          replace h1 := (fr (a + 1) (by omega)).trans h1
          replace h3 := (fr (a + 3) (by omega)).trans h3
          replace hF : ∀ b, b < a ∨ a + 3 ≤ b → w2 b = w b := fun b hb => (fr b (by omega)).trans (hF b hb)
          refine lv_aload_n S.1 S.2.1 dX1_append_59 rfl (lv_at hl 0 rfl) ?_
          refine lv_dup S.1 S.2.1 dX1_append_60 rfl ?_
          refine gfX1_28 S hK hH h0 dX1_append_61 ?_
          refine lv_iconst (v := nI 1) S.1 S.2.1 dX1_append_64 (by decide) ?_
          refine lv_iadd S.1 S.2.1 dX1_append_65 ?_
          refine tpi (x' := nI (L.length + 1)) (nI_add _ _) ?_
          refine pfX1_28 S hK hH h0 dX1_append_66 (fun w3 H locs h0 fr hH => ?_)
          replace h1 := (fr (a + 1) (by omega)).trans h1
          replace h2 := (fr (a + 2) (by omega)).trans h2
          replace h3 := (fr (a + 3) (by omega)).trans h3
          replace hF : ∀ b, b < a ∨ a + 3 ≤ b → w3 b = w b := fun b hb => (fr b (by omega)).trans (hF b hb)
          refine lv_iconst (v := nI 1) S.1 S.2.1 dX1_append_69 (by decide) ?_
          exact rt_z S hr hlk hH dX1_append_70 (by decide) (⟨rfl, hF, Or.inl ⟨rfl, L ++ [(c, k)], by rw [app, if_neg c2, if_neg (by omega)], _, _, by rw [List.length_append]; exact h0, h1, h2, h3, by rw [List.length_append]; exact c33, h5, fun j hj => up_snoc_l h6 j hj, fun j hj => up_snoc_i h7 j hj, h8⟩⟩)
        · skip
          refine lv_iconst (v := nI 0) S.1 S.2.1 dX1_append_36 (by decide) ?_
          exact rt_z S hr hlk hH dX1_append_37 (by decide) (⟨rfl, hF, Or.inr ⟨rfl, by simp [app, c2, c33], rfl⟩⟩)
  · skip
    have c2 : k = 0 := (lI_eq (by omega) (by omega)).mp c2
    refine lv_iconst (v := nI 1) S.1 S.2.1 dX1_append_6 (by decide) ?_
    exact rt_z S hr hlk hH dX1_append_7 (by decide) (⟨rfl, hF, Or.inl ⟨rfl, L, by simp [app, c2], f, g, h0, h1, h2, h3, h4, h5, h6, h7, h8⟩⟩)
end
section
theorem PolyC.ob {G : Gx} {w : Wm} {a cap : Nat} {L : PL} {tk : Int32} {tp : Nat → Int32} (h : PolyC G w a cap L tk tp) : w a = some (eO 1 [.ref (a + 1), .ref (a + 2), .int (nI L.length), .ref (a + 3), .int tk]) := by
  obtain ⟨f, g, h0, -⟩ := h
  exact h0
theorem mn60 {q : Nat} (h : q ≤ 60) : (if nI 60 < nI q then nI 60 else nI q) = nI q := by
  rw [if_neg (nI_nlt h (by omega))]
theorem mx0 {q : Nat} (h : q ≤ 60) : (if nI 0 < nI q then nI q else nI 0) = nI q := by
  by_cases h0 : 0 < q
  · rw [if_pos (nI_lt h0 (by omega))]
  · rw [show q = 0 by omega]; rfl
theorem ix_neg {x : Int32} {N : Nat} (h : x < 0) (hN : N < 2 ^ 31) : ¬ ∃ j, j < N ∧ x = nI j := by
  rintro ⟨j, hj, rfl⟩
  exact nI_pos (Nat.lt_trans hj hN) h
theorem ix_big {x : Int32} {N : Nat} (h : nI N ≤ x) (hN : N < 2 ^ 31) : ¬ ∃ j, j < N ∧ x = nI j := by
  rintro ⟨j, hj, rfl⟩
  exact nI_ge hj hN h
theorem ix_in {x : Int32} {N : Nat} (h : ¬ x < 0) (h2 : ¬ nI N ≤ x) (hN : N < 2 ^ 31) : ∃ j, j < N ∧ x = nI j := by
  rcases pk_ix x hN with q | q | q
  · exact absurd q h
  · exact absurd q h2
  · exact q
/-- the power of symbol t in a code -/
def dig (c t : Nat) : Nat := c / 10 ^ (15 - t) % 10
theorem app_take {L : PL} {k : Nat} (hk : k < L.length) (h : cf L k ≠ 0 ∧ -99999999 ≤ cf L k ∧ cf L k ≤ 99999999) : app L.length (L.take k) (cd L k) (cf L k) = some (L.take (k + 1)) := by
  rw [app, if_neg h.1, if_neg (by rw [List.length_take]; omega), take_cd hk]
theorem lI10 : lI 10 = lN 10 := by decide
theorem div10 {c i t : Nat} (hc : c < 4611686018427387904) (h : t + 1 ≤ i) : lN (c / 10 ^ (i - (t + 1))) / lI 10 = lN (c / 10 ^ (i + 1 - (t + 1))) := by
  rw [lI10, pk_lDiv (Nat.lt_of_le_of_lt (Nat.div_le_self _ _) (by omega)) (by decide) (by decide), Nat.div_div_eq_div_mul, ← Nat.pow_succ, show (i - (t + 1)).succ = i + 1 - (t + 1) by omega]
theorem rem10 {c i : Nat} (hc : c < 4611686018427387904) : lN (c / 10 ^ i) - lN (c / 10 ^ i) / lI 10 * lI 10 = lN (c / 10 ^ i % 10) := by
  rw [lI10, pk_lRem (Nat.lt_of_le_of_lt (Nat.div_le_self _ _) (by omega)) (by decide) (by decide)]
theorem pl_ext {L L2 : PL} (hl : L.length = L2.length) (h : ∀ i, i < L.length → cd L i = cd L2 i ∧ cf L i = cf L2 i) : L = L2 := by
  apply List.ext_getElem hl
  intro i h1 h2
  have e1 : L.getD i (0, 0) = L[i] := by simp [List.getD_eq_getElem?_getD, h1]
  have e2 : L2.getD i (0, 0) = L2[i] := by simp [List.getD_eq_getElem?_getD, h2]
  have := h i h1
  unfold cd cf at this
  rw [e1, e2] at this
  exact Prod.ext this.1 this.2

set_option maxHeartbeats 4000000 in
set_option maxRecDepth 100000 in
theorem kX1_init {l : Launch} {G : Gx} {B : Nat} {w : Wm} {n : Nat} (a q : Nat) (h0 : w a = some (eO 1 [.null, .null, .int 0, .null, .int 0])) (hq : q ≤ 60) (hn : n = a + 1) : Met l yX1_init (wsM yX1_init cX1_init 3 none) ({ frames := 1, cells := 3, slots := 136, locals := 21 } : Room) (Pcx G B w n [.ref (a), .int (nI q)]) (Qv G B (fun w' n' => n' = a + 4 ∧ (∀ b, (b < a ∨ a + 4 ≤ b) → w' b = w b) ∧ PolyC G w' a q [] 0 (fun _ => 0))) 3 136 (FA B) := by
  refine en (by decide) (Nat.le_of_ble_eq_true rfl) ?_
  intro p ev s mm ag bl mt co S hr hlk hnm hK H hH ls hl
  have hl : lv_has ls 3 [(0, .ref (a)), (1, .int (nI q))] := hl
  subst hn
  have hF : ∀ b, b < a ∨ a + 4 ≤ b → w b = w b := fun _ _ => rfl
  refine lv_aload_n S.1 S.2.1 dX1_init_0 rfl (lv_at hl 0 rfl) ?_
  refine W.objInit S.1 S.2.1 S.2.2.2.1 (S.2.2.2.2 _ mW19) (S.2.2.2.2 _ mW12) (S.2.2.2.2 _ mW13) rfl (hl.1.trans S.2.2.1.symm) rfl dX1_init_1 (by decide) (Nat.le_of_ble_eq_true rfl) ?_
  refine W.eq (g2 := F0 mm 4 ls []) rfl ?_
  refine lv_iconst (v := nI 0) S.1 S.2.1 dX1_init_4 (by decide) ?_
  refine lv_iload_n S.1 S.2.1 dX1_init_5 rfl (lv_at hl 1 rfl) ?_
  refine lv_bipush (v := nI 60) S.1 S.2.1 dX1_init_6 (by decide) ?_
  refine va_mmin S.1 S.2.1 (S.2.2.1.trans hl.1.symm) S.2.2.2.1 (S.2.2.2.2 _ mW20) (S.2.2.2.2 _ mW21) (S.2.2.2.2 _ mW3) (S.2.2.2.2 _ mW22) (by decide) (by simp [Value.category]) (show 0 ≤ 3 by omega) (show 0 ≤ 136 by omega) dX1_init_8 ?_
  refine tpi (x' := nI q) (mn60 hq) ?_
  refine va_mmax S.1 S.2.1 (S.2.2.1.trans hl.1.symm) S.2.2.2.1 (S.2.2.2.2 _ mW23) (S.2.2.2.2 _ mW24) (S.2.2.2.2 _ mW3) (S.2.2.2.2 _ mW25) (by decide) (by simp [Value.category]) (show 0 ≤ 3 by omega) (show 0 ≤ 136 by omega) dX1_init_11 ?_
  refine tpi (x' := nI q) (mx0 hq) ?_
  refine lv_istore_n (lv' := [(2, .int (nI q)), (0, .ref (a)), (1, .int (nI q))]) S.1 S.2.1 dX1_init_14 rfl hl (by decide) rfl (fun ls hl => ?_)
  refine lv_aload_n S.1 S.2.1 dX1_init_15 rfl (lv_at hl 1 rfl) ?_
  refine lv_iload_n S.1 S.2.1 dX1_init_16 rfl (lv_at hl 0 rfl) ?_
  refine nwa_l S hK hH mW46 (by omega) (show 0 + 1 ≤ 3 by omega) (show 0 + (q) ≤ 136 by omega) dX1_init_17 (fun w1 H h1 fr hH => ?_)
  replace h0 := (fr (a) (by omega)).trans h0
  replace hF : ∀ b, b < a ∨ a + 4 ≤ b → w1 b = w b := fun b hb => (fr b (by omega)).trans (hF b hb)
  refine pfX1_18 S hK hH h0 hnm dX1_init_19 (fun w3 H locs h0 fr hH => ?_)
  replace h1 := (fr (a + 1) (by omega)).trans h1
  replace hF : ∀ b, b < a ∨ a + 4 ≤ b → w3 b = w b := fun b hb => (fr b (by omega)).trans (hF b hb)
  refine lv_aload_n S.1 S.2.1 dX1_init_22 rfl (lv_at hl 1 rfl) ?_
  refine lv_iload_n S.1 S.2.1 dX1_init_23 rfl (lv_at hl 0 rfl) ?_
  refine nwa_i S hK hH mW47 (by omega) (show (0 + 1) + 1 ≤ 3 by omega) (show (0 + (q)) + (q) ≤ 136 by omega) dX1_init_24 (fun w4 H h2 fr hH => ?_)
  replace h0 := (fr (a) (by omega)).trans h0
  replace h1 := (fr (a + 1) (by omega)).trans h1
  replace hF : ∀ b, b < a ∨ a + 4 ≤ b → w4 b = w b := fun b hb => (fr b (by omega)).trans (hF b hb)
  refine pfX1_24 S hK hH h0 hnm dX1_init_26 (fun w6 H locs h0 fr hH => ?_)
  replace h1 := (fr (a + 1) (by omega)).trans h1
  replace h2 := (fr (a + 2) (by omega)).trans h2
  replace hF : ∀ b, b < a ∨ a + 4 ≤ b → w6 b = w b := fun b hb => (fr b (by omega)).trans (hF b hb)
  refine lv_aload_n S.1 S.2.1 dX1_init_29 rfl (lv_at hl 1 rfl) ?_
  refine lv_iconst (v := nI 0) S.1 S.2.1 dX1_init_30 (by decide) ?_
  refine pfX1_28 S hK hH h0 dX1_init_31 (fun w7 H locs h0 fr hH => ?_)
  replace h1 := (fr (a + 1) (by omega)).trans h1
  replace h2 := (fr (a + 2) (by omega)).trans h2
  replace hF : ∀ b, b < a ∨ a + 4 ≤ b → w7 b = w b := fun b hb => (fr b (by omega)).trans (hF b hb)
  refine lv_aload_n S.1 S.2.1 dX1_init_34 rfl (lv_at hl 1 rfl) ?_
  refine lv_bipush (v := nI 16) S.1 S.2.1 dX1_init_35 (by decide) ?_
  refine nwa_i S hK hH mW47 (by omega) (show ((0 + 1) + 1) + 1 ≤ 3 by omega) (show ((0 + (q)) + (q)) + (16) ≤ 136 by omega) dX1_init_37 (fun w8 H h3 fr hH => ?_)
  replace h0 := (fr (a) (by omega)).trans h0
  replace h1 := (fr (a + 1) (by omega)).trans h1
  replace h2 := (fr (a + 2) (by omega)).trans h2
  replace hF : ∀ b, b < a ∨ a + 4 ≤ b → w8 b = w b := fun b hb => (fr b (by omega)).trans (hF b hb)
  refine pfX1_32 S hK hH h0 hnm dX1_init_39 (fun w10 H locs h0 fr hH => ?_)
  replace h1 := (fr (a + 1) (by omega)).trans h1
  replace h2 := (fr (a + 2) (by omega)).trans h2
  replace h3 := (fr (a + 3) (by omega)).trans h3
  replace hF : ∀ b, b < a ∨ a + 4 ≤ b → w10 b = w b := fun b hb => (fr b (by omega)).trans (hF b hb)
  refine lv_aload_n S.1 S.2.1 dX1_init_42 rfl (lv_at hl 1 rfl) ?_
  refine lv_iconst (v := nI 0) S.1 S.2.1 dX1_init_43 (by decide) ?_
  refine pfX1_35 S hK hH h0 (by decide) dX1_init_44 (fun w11 H locs h0 fr hH => ?_)
  replace h1 := (fr (a + 1) (by omega)).trans h1
  replace h2 := (fr (a + 2) (by omega)).trans h2
  replace h3 := (fr (a + 3) (by omega)).trans h3
  replace hF : ∀ b, b < a ∨ a + 4 ≤ b → w11 b = w b := fun b hb => (fr b (by omega)).trans (hF b hb)
  refine W.widen (k := 3) (n := 136) (by omega) (by omega) ?_
  exact rt_v S hr hlk hH dX1_init_47 (⟨rfl, hF, _, _, h0, h1, h2, h3, Nat.zero_le _, hq, fun j h => absurd h (Nat.not_lt_zero j), fun j h => absurd h (Nat.not_lt_zero j), Or.inl rfl⟩)

set_option maxHeartbeats 4000000 in
set_option maxRecDepth 100000 in
theorem kX1_copied {l : Launch} {G : Gx} {B : Nat} {w : Wm} {n : Nat} (a cap : Nat) (L : PL) (tk : Int32) (tp : Nat → Int32) (hp : PolyC G w a cap L tk tp) (hok : (∀ j, j < L.length → cd L j < 4611686018427387904 ∧ cf L j ≠ 0 ∧ -99999999 ≤ cf L j ∧ cf L j ≤ 99999999)) (han : a + 4 ≤ n) : Met l yX1_copied (wsM yX1_copied cX1_copied 3 (some (.object "PolyDesk$Poly"))) ({ frames := 2, cells := 4, slots := 141, locals := 43 } : Room) (Pcx G B w n [.ref (a)]) (Qr G B (fun r w' n' => r = n ∧ n' = n + 4 ∧ (∀ b, (b < n ∨ n + 4 ≤ b) → w' b = w b) ∧ PolyC G w' n L.length L 0 (fun _ => 0))) 4 141 (FA B) := by
  refine en (by decide) (Nat.le_of_ble_eq_true rfl) ?_
  intro p ev s mm ag bl mt co S hr hlk hnm hK H hH ls hl
  have hl : lv_has ls 3 [(0, .ref (a))] := hl
  obtain ⟨f, g, h0, h1, h2, h3, h4, h5, h6, h7, h8⟩ := hp
  have hF : ∀ b, b < n ∨ n + 4 ≤ b → w b = w b := fun _ _ => rfl
  refine nwo (ci := 1) (fs := [.null, .null, .int (0), .null, .int (0)]) S hK hH rfl fwX1 tyX1 tyX1_ok mW128 mW15 mW2 (fun j hj => by rcases (show j = 0 ∨ j = 1 ∨ j = 2 ∨ j = 3 ∨ j = 4 by omega) with rfl | rfl | rfl | rfl | rfl <;> rfl) (show 0 + 1 ≤ 4 by omega) (show 0 + 5 ≤ 141 by omega) dX1_copied_0 (fun w1 H hc0 fr hH => ?_)
  replace h0 := (fr (a) (by omega)).trans h0
  replace h1 := (fr (a + 1) (by omega)).trans h1
  replace h2 := (fr (a + 2) (by omega)).trans h2
  replace h3 := (fr (a + 3) (by omega)).trans h3
  replace hF : ∀ b, b < n ∨ n + 4 ≤ b → w1 b = w b := fun b hb => (fr b (by omega)).trans (hF b hb)
  refine lv_dup S.1 S.2.1 dX1_copied_3 rfl ?_
  refine lv_aload_n S.1 S.2.1 dX1_copied_4 rfl (lv_at hl 0 rfl) ?_
  refine gfX1_28 S hK hH h0 dX1_copied_5 ?_
  refine ck_v (run_I (As := [.int (nI L.length)]) (rest := [.ref (n)]) S hK hH (kX1_init n L.length hc0 (by omega) rfl) ceX1_init mW129 rfl hl.1 rfl (Nat.le_of_ble_eq_true rfl) dX1_copied_8 ⟨rfl, rfl, by decide, by decide⟩ ⟨show (0 + 1) + 3 ≤ 4 by omega, show (0 + 5) + 136 ≤ 141 by omega⟩) hH (fun w3 n3 H locs hp hH => ?_)
  obtain ⟨hn1, hfr, hpc⟩ := hp
  rw [hn1] at hH
  replace h0 := (hfr (a) (by omega)).trans h0
  replace h1 := (hfr (a + 1) (by omega)).trans h1
  replace h2 := (hfr (a + 2) (by omega)).trans h2
  replace h3 := (hfr (a + 3) (by omega)).trans h3
  replace hF : ∀ b, b < n ∨ n + 4 ≤ b → w3 b = w b := fun b hb => (hfr b (by omega)).trans (hF b hb)
  refine lv_astore_n (lv' := [(1, .ref (n)), (0, .ref (a))]) S.1 S.2.1 dX1_copied_11 rfl hl (by decide) rfl (fun ls hl => ?_)
  refine lv_iconst (v := nI 0) S.1 S.2.1 dX1_copied_12 (by decide) ?_
  refine lv_istore_n (lv' := [(2, .int (nI 0)), (1, .ref (n)), (0, .ref (a))]) S.1 S.2.1 dX1_copied_13 rfl hl (by decide) rfl (fun ls hl => ?_)
  refine wlp (P := fun k_ ls H' locs' => ∃ (k : Nat) (v : Wm), lv_has ls 3 [(0, .ref (a)), (1, .ref (n)), (2, .int (nI k))] ∧ HS G B v (n + 4) s H' locs' ∧ v (a) = some (eO 1 [.ref (a + 1), .ref (a + 2), .int (nI L.length), .ref (a + 3), .int (tk)]) ∧ v (a + 1) = some (eJ G (cap) (f)) ∧ v (a + 2) = some (eI G (cap) (g)) ∧ v (a + 3) = some (eI G (16) (tp)) ∧ (PolyC G v n L.length (L.take k) 0 (fun _ => 0)) ∧ (∀ b, b < n ∨ n + 4 ≤ b → v b = w b) ∧ (k ≤ L.length) ∧ k_ = L.length - k) ?_ (k0 := L.length - (0)) ⟨0, w3, lv_sub hl [2, 1, 0] rfl, hH, h0, h1, h2, h3, hpc, hF, Nat.zero_le _, rfl⟩
  intro k14 ls H locs hP ih14
  obtain ⟨k, v, hl, hH, h0, h1, h2, h3, hpc, hF, hk, hk14⟩ := hP
  refine lv_iload_n S.1 S.2.1 dX1_copied_14 rfl (lv_at hl 2 rfl) ?_
  refine lv_aload_n S.1 S.2.1 dX1_copied_15 rfl (lv_at hl 0 rfl) ?_
  refine gfX1_28 S hK hH h0 dX1_copied_16 ?_
  refine bn_ge (tgt := 46) S dX1_copied_19 (by decide) (by omega) (fun c19 => ?_) (fun c19 => ?_)
  · skip
    refine lv_aload_n S.1 S.2.1 dX1_copied_46 rfl (lv_at hl 1 rfl) ?_
    refine W.widen (k := 4) (n := 141) (by omega) (by omega) ?_
    exact rt_r S hr hlk hH dX1_copied_47 (⟨rfl, rfl, hF, by rw [show L.take k = L from List.take_of_length_le c19] at hpc; exact hpc⟩)
  · skip
    refine lv_aload_n S.1 S.2.1 dX1_copied_22 rfl (lv_at hl 1 rfl) ?_
    refine lv_aload_n S.1 S.2.1 dX1_copied_23 rfl (lv_at hl 0 rfl) ?_
    refine gfX1_18 S hK hH h0 dX1_copied_24 ?_
    refine lv_iload_n S.1 S.2.1 dX1_copied_27 rfl (lv_at hl 2 rfl) ?_
    refine ald_l S hK hH h1 (by omega) (by omega) dX1_copied_28 ?_
    refine tpl (x' := lN (cd L k)) (h6 k c19) ?_
    refine lv_aload_n S.1 S.2.1 dX1_copied_29 rfl (lv_at hl 0 rfl) ?_
    refine gfX1_24 S hK hH h0 dX1_copied_30 ?_
    refine lv_iload_n S.1 S.2.1 dX1_copied_33 rfl (lv_at hl 2 rfl) ?_
    refine ald_i S hK hH h2 (by omega) (by omega) dX1_copied_34 ?_
    refine tpi (x' := iI (cf L k)) (h7 k c19) ?_
    have hb := hok k c19
    refine lv_i2l (v := lI (cf L k)) S.1 S.2.1 dX1_copied_35 (iI_l (by omega)) ?_
    refine ck_i (run_V (As := [.long (lN (cd L k)), .long (lI (cf L k))]) (rest := []) S hK hH (kX1_append n L.length (cd L k) (L.take k) (cf L k) 0 (fun _ => 0) hpc (by omega)) ceX1_append mW130 hpc.ob rfl rfl hl.1 rfl (Nat.le_of_ble_eq_true rfl) dX1_copied_36 ⟨rfl, rfl, by decide, by decide⟩ ⟨show ((0 + 1) + 3) + 0 ≤ 4 by omega, show ((0 + 5) + 136) + 0 ≤ 141 by omega⟩) hH (fun r36 w4 n4 H locs hp hH => ?_)
    obtain ⟨hn1, hfr, hq⟩ := hp
    rw [hn1] at hH
    replace h0 := (hfr (a) (by omega)).trans h0
    replace h1 := (hfr (a + 1) (by omega)).trans h1
    replace h2 := (hfr (a + 2) (by omega)).trans h2
    replace h3 := (hfr (a + 3) (by omega)).trans h3
    replace hF : ∀ b, b < n ∨ n + 4 ≤ b → w4 b = w b := fun b hb => (hfr b (by omega)).trans (hF b hb)
    rw [app_take c19 hb.2] at hq
    have hpc : PolyC G w4 n L.length (L.take (k + 1)) 0 (fun _ => 0) := by
      rcases hq with ⟨_, L', e1, e2⟩ | ⟨_, e1, _⟩
      · cases e1; exact e2
      · cases e1
    refine lv_pop S.1 S.2.1 dX1_copied_39 rfl ?_
    refine lv_iinc (v := nI (k + 1)) (lv' := [(2, .int (nI (k + 1))), (0, .ref (a)), (1, .ref (n))]) S.1 S.2.1 dX1_copied_40 hl (k := 2) rfl (nI_inc _ 1) (by decide) rfl (fun ls hl => ?_)
    refine lv_goto (tgt := 14) S.1 S.2.1 dX1_copied_43 (by decide) ?_
    exact ih14 _ _ _ _ (by omega) ⟨k + 1, w4, lv_sub hl [1, 2, 0] rfl, hH, h0, h1, h2, h3, hpc, hF, c19, rfl⟩

set_option maxHeartbeats 4000000 in
set_option maxRecDepth 100000 in
theorem kX2_isSymbol {l : Launch} {G : Gx} {B : Nat} {w : Wm} {n : Nat} (x : Int32) : Met l yX2_isSymbol (wsM yX2_isSymbol cX2_isSymbol 1 (some .boolean)) ({ frames := 0, cells := 0, slots := 0, locals := 0 } : Room) (Pcx G B w n [.int (x)]) (Qi G B (fun r w' n' => w' = w ∧ n' = n ∧ ((r = 1 ∧ ∃ j, j < 16 ∧ x = nI j) ∨ (r = 0 ∧ ¬ ∃ j, j < 16 ∧ x = nI j)))) 0 0 (FA B) := by
  refine en (by decide) (Nat.le_of_ble_eq_true rfl) ?_
  intro p ev s mm ag bl mt co S hr hlk hnm hK H hH ls hl
  have hl : lv_has ls 1 [(0, .int (x))] := hl
  refine lv_iload_n S.1 S.2.1 dX2_isSymbol_0 rfl (lv_at hl 0 rfl) ?_
  refine lv_if_lt (tgt := 14) S.1 S.2.1 dX2_isSymbol_1 (by decide) (fun c1 => ?_) (fun c1 => ?_)
  · skip
    refine lv_iconst (v := nI 0) S.1 S.2.1 dX2_isSymbol_14 (by decide) ?_
    exact rt_z S hr hlk hH dX2_isSymbol_15 (by decide) (⟨rfl, rfl, Or.inr ⟨rfl, ix_neg c1 (by omega)⟩⟩)
  · skip
    refine lv_iload_n S.1 S.2.1 dX2_isSymbol_4 rfl (lv_at hl 0 rfl) ?_
    refine lv_bipush (v := nI 16) S.1 S.2.1 dX2_isSymbol_5 (by decide) ?_
    refine lv_icmp_ge (tgt := 14) S.1 S.2.1 dX2_isSymbol_7 (by decide) (fun c7 => ?_) (fun c7 => ?_)
    · skip
      refine lv_iconst (v := nI 0) S.1 S.2.1 dX2_isSymbol_14 (by decide) ?_
      exact rt_z S hr hlk hH dX2_isSymbol_15 (by decide) (⟨rfl, rfl, Or.inr ⟨rfl, ix_big c7 (by omega)⟩⟩)
    · skip
      refine lv_iconst (v := nI 1) S.1 S.2.1 dX2_isSymbol_10 (by decide) ?_
      refine lv_goto (tgt := 15) S.1 S.2.1 dX2_isSymbol_11 (by decide) ?_
      exact rt_z S hr hlk hH dX2_isSymbol_15 (by decide) (⟨rfl, rfl, Or.inl ⟨rfl, ix_in c1 c7 (by omega)⟩⟩)

set_option maxHeartbeats 4000000 in
set_option maxRecDepth 100000 in
theorem kX2_isRegister {l : Launch} {G : Gx} {B : Nat} {w : Wm} {n : Nat} (x : Int32) : Met l yX2_isRegister (wsM yX2_isRegister cX2_isRegister 1 (some .boolean)) ({ frames := 0, cells := 0, slots := 0, locals := 0 } : Room) (Pcx G B w n [.int (x)]) (Qi G B (fun r w' n' => w' = w ∧ n' = n ∧ ((r = 1 ∧ ∃ j, j < 16 ∧ x = nI j) ∨ (r = 0 ∧ ¬ ∃ j, j < 16 ∧ x = nI j)))) 0 0 (FA B) := by
  refine en (by decide) (Nat.le_of_ble_eq_true rfl) ?_
  intro p ev s mm ag bl mt co S hr hlk hnm hK H hH ls hl
  have hl : lv_has ls 1 [(0, .int (x))] := hl
  refine lv_iload_n S.1 S.2.1 dX2_isRegister_0 rfl (lv_at hl 0 rfl) ?_
  refine lv_if_lt (tgt := 14) S.1 S.2.1 dX2_isRegister_1 (by decide) (fun c1 => ?_) (fun c1 => ?_)
  · skip
    refine lv_iconst (v := nI 0) S.1 S.2.1 dX2_isRegister_14 (by decide) ?_
    exact rt_z S hr hlk hH dX2_isRegister_15 (by decide) (⟨rfl, rfl, Or.inr ⟨rfl, ix_neg c1 (by omega)⟩⟩)
  · skip
    refine lv_iload_n S.1 S.2.1 dX2_isRegister_4 rfl (lv_at hl 0 rfl) ?_
    refine lv_bipush (v := nI 16) S.1 S.2.1 dX2_isRegister_5 (by decide) ?_
    refine lv_icmp_ge (tgt := 14) S.1 S.2.1 dX2_isRegister_7 (by decide) (fun c7 => ?_) (fun c7 => ?_)
    · skip
      refine lv_iconst (v := nI 0) S.1 S.2.1 dX2_isRegister_14 (by decide) ?_
      exact rt_z S hr hlk hH dX2_isRegister_15 (by decide) (⟨rfl, rfl, Or.inr ⟨rfl, ix_big c7 (by omega)⟩⟩)
    · skip
      refine lv_iconst (v := nI 1) S.1 S.2.1 dX2_isRegister_10 (by decide) ?_
      refine lv_goto (tgt := 15) S.1 S.2.1 dX2_isRegister_11 (by decide) ?_
      exact rt_z S hr hlk hH dX2_isRegister_15 (by decide) (⟨rfl, rfl, Or.inl ⟨rfl, ix_in c1 c7 (by omega)⟩⟩)

set_option maxHeartbeats 4000000 in
set_option maxRecDepth 100000 in
theorem kX1_hasTerm {l : Launch} {G : Gx} {B : Nat} {w : Wm} {n : Nat} (a cap : Nat) (L : PL) (tk : Int32) (tp : Nat → Int32) (x : Int32) (hp : PolyC G w a cap L tk tp) : Met l yX1_hasTerm (wsM yX1_hasTerm cX1_hasTerm 2 (some .boolean)) ({ frames := 0, cells := 0, slots := 0, locals := 0 } : Room) (Pcx G B w n [.ref (a), .int (x)]) (Qi G B (fun r w' n' => w' = w ∧ n' = n ∧ ((r = 1 ∧ ∃ j, j < L.length ∧ x = nI j) ∨ (r = 0 ∧ ¬ ∃ j, j < L.length ∧ x = nI j)))) 0 0 (FA B) := by
  refine en (by decide) (Nat.le_of_ble_eq_true rfl) ?_
  intro p ev s mm ag bl mt co S hr hlk hnm hK H hH ls hl
  have hl : lv_has ls 2 [(0, .ref (a)), (1, .int (x))] := hl
  obtain ⟨f, g, h0, h1, h2, h3, h4, h5, h6, h7, h8⟩ := hp
  refine lv_iload_n S.1 S.2.1 dX1_hasTerm_0 rfl (lv_at hl 1 rfl) ?_
  refine lv_if_lt (tgt := 16) S.1 S.2.1 dX1_hasTerm_1 (by decide) (fun c1 => ?_) (fun c1 => ?_)
  · skip
    refine lv_iconst (v := nI 0) S.1 S.2.1 dX1_hasTerm_16 (by decide) ?_
    exact rt_z S hr hlk hH dX1_hasTerm_17 (by decide) (⟨rfl, rfl, Or.inr ⟨rfl, ix_neg c1 (by omega)⟩⟩)
  · skip
    refine lv_iload_n S.1 S.2.1 dX1_hasTerm_4 rfl (lv_at hl 1 rfl) ?_
    refine lv_aload_n S.1 S.2.1 dX1_hasTerm_5 rfl (lv_at hl 0 rfl) ?_
    refine gfX1_28 S hK hH h0 dX1_hasTerm_6 ?_
    refine lv_icmp_ge (tgt := 16) S.1 S.2.1 dX1_hasTerm_9 (by decide) (fun c9 => ?_) (fun c9 => ?_)
    · skip
      refine lv_iconst (v := nI 0) S.1 S.2.1 dX1_hasTerm_16 (by decide) ?_
      exact rt_z S hr hlk hH dX1_hasTerm_17 (by decide) (⟨rfl, rfl, Or.inr ⟨rfl, ix_big c9 (by omega)⟩⟩)
    · skip
      refine lv_iconst (v := nI 1) S.1 S.2.1 dX1_hasTerm_12 (by decide) ?_
      refine lv_goto (tgt := 17) S.1 S.2.1 dX1_hasTerm_13 (by decide) ?_
      exact rt_z S hr hlk hH dX1_hasTerm_17 (by decide) (⟨rfl, rfl, Or.inl ⟨rfl, ix_in c1 c9 (by omega)⟩⟩)

set_option maxHeartbeats 4000000 in
set_option maxRecDepth 100000 in
theorem kX1_coefficientAt {l : Launch} {G : Gx} {B : Nat} {w : Wm} {n : Nat} (a cap : Nat) (L : PL) (tk : Int32) (tp : Nat → Int32) (x : Int32) (hp : PolyC G w a cap L tk tp) : Met l yX1_coefficientAt (wsM yX1_coefficientAt cX1_coefficientAt 2 (some .int)) ({ frames := 1, cells := 0, slots := 0, locals := 21 } : Room) (Pcx G B w n [.ref (a), .int (x)]) (Qi G B (fun r w' n' => w' = w ∧ n' = n ∧ ((∃ j, j < L.length ∧ x = nI j ∧ r = iI (cf L j)) ∨ ((¬ ∃ j, j < L.length ∧ x = nI j) ∧ r = 0)))) 0 0 (FA B) := by
  refine en (by decide) (Nat.le_of_ble_eq_true rfl) ?_
  intro p ev s mm ag bl mt co S hr hlk hnm hK H hH ls hl
  have hl : lv_has ls 2 [(0, .ref (a)), (1, .int (x))] := hl
  have hp0 := hp
  obtain ⟨f, g, h0, h1, h2, h3, h4, h5, h6, h7, h8⟩ := hp
  refine lv_aload_n S.1 S.2.1 dX1_coefficientAt_0 rfl (lv_at hl 0 rfl) ?_
  refine lv_iload_n S.1 S.2.1 dX1_coefficientAt_1 rfl (lv_at hl 1 rfl) ?_
  refine ck_ip (run_V (As := [.int (x)]) (rest := []) S hK hH (kX1_hasTerm a cap L tk tp x hp0) ceX1_hasTerm mW217 h0 rfl rfl hl.1 rfl (Nat.le_of_ble_eq_true rfl) dX1_coefficientAt_2 ⟨rfl, rfl, by decide, by decide⟩ ⟨show 0 + 0 ≤ 0 by omega, show 0 + 0 ≤ 0 by omega⟩) hH (fun r2 H locs hp hH => ?_)
  have hq := hp
  refine lv_if_eq (tgt := 17) S.1 S.2.1 dX1_coefficientAt_5 (by decide) (fun c5 => ?_) (fun c5 => ?_)
  · skip
    rcases hq with ⟨rfl, _⟩ | ⟨_, hq⟩
    · exact absurd c5 (by decide)
    refine lv_iconst (v := nI 0) S.1 S.2.1 dX1_coefficientAt_17 (by decide) ?_
    exact rt_i S hr hlk hH dX1_coefficientAt_18 (⟨rfl, rfl, Or.inr ⟨hq, rfl⟩⟩)
  · skip
    rcases hq with ⟨_, j, hj, rfl⟩ | ⟨rfl, _⟩
    rotate_left
    · exact absurd rfl c5
    refine lv_aload_n S.1 S.2.1 dX1_coefficientAt_8 rfl (lv_at hl 0 rfl) ?_
    refine gfX1_24 S hK hH h0 dX1_coefficientAt_9 ?_
    refine lv_iload_n S.1 S.2.1 dX1_coefficientAt_12 rfl (lv_at hl 1 rfl) ?_
    refine ald_i S hK hH h2 (by omega) (by omega) dX1_coefficientAt_13 ?_
    refine tpi (x' := iI (cf L j)) (h7 j hj) ?_
    refine lv_goto (tgt := 18) S.1 S.2.1 dX1_coefficientAt_14 (by decide) ?_
    exact rt_i S hr hlk hH dX1_coefficientAt_18 (⟨rfl, rfl, Or.inl ⟨j, hj, rfl, rfl⟩⟩)

set_option maxHeartbeats 4000000 in
set_option maxRecDepth 100000 in
theorem kX1_powerAt {l : Launch} {G : Gx} {B : Nat} {w : Wm} {n : Nat} (a cap : Nat) (L : PL) (tk : Int32) (tp : Nat → Int32) (x y : Int32) (hp : PolyC G w a cap L tk tp) (hok : ∀ j, j < L.length → cd L j < 4611686018427387904) : Met l yX1_powerAt (wsM yX1_powerAt cX1_powerAt 6 (some .int)) ({ frames := 1, cells := 0, slots := 0, locals := 21 } : Room) (Pcx G B w n [.ref (a), .int (x), .int (y)]) (Qi G B (fun r w' n' => w' = w ∧ n' = n ∧ ((∃ j t, j < L.length ∧ t < 16 ∧ x = nI j ∧ y = nI t ∧ r = nI (dig (cd L j) t)) ∨ ((¬ ∃ j t, j < L.length ∧ t < 16 ∧ x = nI j ∧ y = nI t) ∧ r = 0)))) 0 0 (FA B) := by
  refine en (by decide) (Nat.le_of_ble_eq_true rfl) ?_
  intro p ev s mm ag bl mt co S hr hlk hnm hK H hH ls hl
  have hl : lv_has ls 6 [(0, .ref (a)), (1, .int (x)), (2, .int (y))] := hl
  have hp0 := hp
  obtain ⟨f, g, h0, h1, h2, h3, h4, h5, h6, h7, h8⟩ := hp
  refine lv_aload_n S.1 S.2.1 dX1_powerAt_0 rfl (lv_at hl 0 rfl) ?_
  refine lv_iload_n S.1 S.2.1 dX1_powerAt_1 rfl (lv_at hl 1 rfl) ?_
  refine ck_ip (run_V (As := [.int (x)]) (rest := []) S hK hH (kX1_hasTerm a cap L tk tp x hp0) ceX1_hasTerm mW217 h0 rfl rfl hl.1 rfl (Nat.le_of_ble_eq_true rfl) dX1_powerAt_2 ⟨rfl, rfl, by decide, by decide⟩ ⟨show 0 + 0 ≤ 0 by omega, show 0 + 0 ≤ 0 by omega⟩) hH (fun r2 H locs hp hH => ?_)
  have hq := hp
  refine lv_if_eq (tgt := 15) S.1 S.2.1 dX1_powerAt_5 (by decide) (fun c5 => ?_) (fun c5 => ?_)
  · skip
    rcases hq with ⟨rfl, _⟩ | ⟨_, hq⟩
    · exact absurd c5 (by decide)
    refine lv_iconst (v := nI 0) S.1 S.2.1 dX1_powerAt_15 (by decide) ?_
    exact rt_i S hr hlk hH dX1_powerAt_16 (⟨rfl, rfl, Or.inr ⟨fun ⟨j, t, h, _, h2, _⟩ => hq ⟨j, h, h2⟩, rfl⟩⟩)
  · skip
    rcases hq with ⟨_, j, hj, rfl⟩ | ⟨rfl, _⟩
    rotate_left
    · exact absurd rfl c5
    refine lv_iload_n S.1 S.2.1 dX1_powerAt_8 rfl (lv_at hl 2 rfl) ?_
    refine ck_ip (run_SN (As := [.int (y)]) (rest := []) S hK hH (kX2_isSymbol y) ceX2_isSymbol mN225 rfl hl.1 rfl (Nat.le_of_ble_eq_true rfl) dX1_powerAt_9 ⟨rfl, rfl, by decide, by decide⟩ ⟨show 0 + 0 ≤ 0 by omega, show 0 + 0 ≤ 0 by omega⟩) hH (fun r9 H locs hp hH => ?_)
    have hq2 := hp
    refine lv_if_ne (tgt := 17) S.1 S.2.1 dX1_powerAt_12 (by decide) (fun c12 => ?_) (fun c12 => ?_)
    · skip
      rcases hq2 with ⟨_, t, ht, rfl⟩ | ⟨rfl, _⟩
      rotate_left
      · exact absurd rfl c12
      refine lv_aload_n S.1 S.2.1 dX1_powerAt_17 rfl (lv_at hl 0 rfl) ?_
      refine gfX1_18 S hK hH h0 dX1_powerAt_18 ?_
      refine lv_iload_n S.1 S.2.1 dX1_powerAt_21 rfl (lv_at hl 1 rfl) ?_
      refine ald_l S hK hH h1 (by omega) (by omega) dX1_powerAt_22 ?_
      refine tpl (x' := lN (cd L j)) (h6 j hj) ?_
      have hb := hok j hj
      refine tpl (x' := lN (cd L j / 10 ^ (t + 1 - (t + 1)))) (by simp) ?_
      refine lv_lstore_n (lv' := [(3, .long (lN (cd L j / 10 ^ (t + 1 - (t + 1))))), (0, .ref (a)), (1, .int (nI j)), (2, .int (nI t))]) S.1 S.2.1 dX1_powerAt_23 rfl hl (by decide) rfl (fun ls hl => ?_)
      refine lv_iload_n S.1 S.2.1 dX1_powerAt_24 rfl (lv_at hl 3 rfl) ?_
      refine lv_iconst (v := nI 1) S.1 S.2.1 dX1_powerAt_25 (by decide) ?_
      refine lv_iadd S.1 S.2.1 dX1_powerAt_26 ?_
      refine tpi (x' := nI (t + 1)) (nI_add _ _) ?_
      refine lv_istore (lv' := [(5, .int (nI (t + 1))), (3, .long (lN (cd L j / 10 ^ (t + 1 - (t + 1))))), (0, .ref (a)), (1, .int (nI j)), (2, .int (nI t))]) S.1 S.2.1 dX1_powerAt_27 hl (by decide) rfl (fun ls hl => ?_)
      refine wlp (P := fun k_ ls H' locs' => ∃ (i : Nat), lv_has ls 6 [(0, .ref (a)), (1, .int (nI j)), (2, .int (nI t)), (3, .long (lN (cd L j / 10 ^ (i - (t + 1))))), (5, .int (nI i))] ∧ (H = H' ∧ locs = locs') ∧ (t + 1 ≤ i) ∧ (i ≤ 16) ∧ k_ = 16 - i) ?_ (k0 := 16 - (t + 1)) ⟨t + 1, lv_sub hl [2, 3, 4, 1, 0] rfl, ⟨rfl, rfl⟩, by omega, by omega, rfl⟩
      intro k29 ls H' locs' hP ih29
      obtain ⟨i, hl, ⟨rfl, rfl⟩, h1i, h2i, hk29⟩ := hP
      refine lv_iload S.1 S.2.1 dX1_powerAt_29 (lv_at hl 4 rfl) ?_
      refine lv_bipush (v := nI 16) S.1 S.2.1 dX1_powerAt_31 (by decide) ?_
      refine bn_ge (tgt := 48) S dX1_powerAt_33 (by decide) (by omega) (fun c33 => ?_) (fun c33 => ?_)
      · skip
        refine lv_lload_n S.1 S.2.1 dX1_powerAt_48 rfl (lv_at hl 3 rfl) ?_
        refine lv_ldc2 S.1 S.2.1 S.2.2.2.1 (S.2.2.2.2 _ mW184) dX1_powerAt_49 ?_
        refine tpl (x' := lI 10) (by decide) ?_
        refine lv_lrem S.1 S.2.1 dX1_powerAt_52 (by decide) ?_
        refine tpl (x' := lN (cd L j / 10 ^ (i - (t + 1)) % 10)) (rem10 hb) ?_
        refine lv_l2i (v := nI (cd L j / 10 ^ (i - (t + 1)) % 10)) S.1 S.2.1 dX1_powerAt_53 (lN_i _) ?_
        exact rt_i S hr hlk hH dX1_powerAt_54 (⟨rfl, rfl, Or.inl ⟨j, t, hj, ht, rfl, rfl, by rw [show i = 16 by omega]; unfold dig; rw [show 16 - (t + 1) = 15 - t by omega]⟩⟩)
      · skip
        refine lv_lload_n S.1 S.2.1 dX1_powerAt_36 rfl (lv_at hl 3 rfl) ?_
        refine lv_ldc2 S.1 S.2.1 S.2.2.2.1 (S.2.2.2.2 _ mW184) dX1_powerAt_37 ?_
        refine tpl (x' := lI 10) (by decide) ?_
        refine lv_ldiv S.1 S.2.1 dX1_powerAt_40 (by decide) ?_
        refine tpl (x' := lN (cd L j / 10 ^ (i + 1 - (t + 1)))) (div10 hb h1i) ?_
        refine lv_lstore_n (lv' := [(3, .long (lN (cd L j / 10 ^ (i + 1 - (t + 1))))), (0, .ref (a)), (1, .int (nI j)), (2, .int (nI t)), (5, .int (nI i))]) S.1 S.2.1 dX1_powerAt_41 rfl hl (by decide) rfl (fun ls hl => ?_)
        refine lv_iinc (v := nI (i + 1)) (lv' := [(5, .int (nI (i + 1))), (3, .long (lN (cd L j / 10 ^ (i + 1 - (t + 1))))), (0, .ref (a)), (1, .int (nI j)), (2, .int (nI t))]) S.1 S.2.1 dX1_powerAt_42 hl (k := 4) rfl (nI_inc _ 1) (by decide) rfl (fun ls hl => ?_)
        refine lv_goto (tgt := 29) S.1 S.2.1 dX1_powerAt_45 (by decide) ?_
        exact ih29 _ _ _ _ (by omega) ⟨i + 1, lv_sub hl [2, 3, 4, 1, 0] rfl, ⟨rfl, rfl⟩, by omega, by omega, rfl⟩
    · skip
      rcases hq2 with ⟨rfl, _⟩ | ⟨_, hq2⟩
      · exact absurd c12 (by decide)
      refine lv_iconst (v := nI 0) S.1 S.2.1 dX1_powerAt_15 (by decide) ?_
      exact rt_i S hr hlk hH dX1_powerAt_16 (⟨rfl, rfl, Or.inr ⟨fun ⟨j, t, _, h, _, h2⟩ => hq2 ⟨t, h, h2⟩, rfl⟩⟩)

set_option maxHeartbeats 4000000 in
set_option maxRecDepth 100000 in
theorem kX1_matches {l : Launch} {G : Gx} {B : Nat} {w : Wm} {n : Nat} (a cap : Nat) (L : PL) (tk : Int32) (tp : Nat → Int32) (a2 cap2 : Nat) (L2 : PL) (tk2 : Int32) (tp2 : Nat → Int32) (hp : PolyC G w a cap L tk tp) (hq : PolyC G w a2 cap2 L2 tk2 tp2) (hok : (∀ j, j < L.length → cd L j < 4611686018427387904 ∧ -2147483648 ≤ cf L j ∧ cf L j < 2147483648)) (hok2 : (∀ j, j < L2.length → cd L2 j < 4611686018427387904 ∧ -2147483648 ≤ cf L2 j ∧ cf L2 j < 2147483648)) : Met l yX1_matches (wsM yX1_matches cX1_matches 3 (some .boolean)) ({ frames := 0, cells := 0, slots := 0, locals := 0 } : Room) (Pcx G B w n [.ref (a), .ref (a2)]) (Qi G B (fun r w' n' => w' = w ∧ n' = n ∧ ((r = 1 ∧ L = L2) ∨ (r = 0 ∧ L ≠ L2)))) 0 0 (FA B) := by
  refine en (by decide) (Nat.le_of_ble_eq_true rfl) ?_
  intro p ev s mm ag bl mt co S hr hlk hnm hK H hH ls hl
  have hl : lv_has ls 3 [(0, .ref (a)), (1, .ref (a2))] := hl
  obtain ⟨f, g, h0, h1, h2, h3, h4, h5, h6, h7, h8⟩ := hp
  obtain ⟨f2, g2, hq0, hq1, hq2, hq3, hq4, hq5, hq6, hq7, hq8⟩ := hq
  refine lv_aload_n S.1 S.2.1 dX1_matches_0 rfl (lv_at hl 0 rfl) ?_
  refine gfX1_28 S hK hH h0 dX1_matches_1 ?_
  refine lv_aload_n S.1 S.2.1 dX1_matches_4 rfl (lv_at hl 1 rfl) ?_
  refine gfX1_28 S hK hH hq0 dX1_matches_5 ?_
  refine bn_eq (tgt := 13) S dX1_matches_8 (by decide) (by omega) (fun c8 => ?_) (fun c8 => ?_)
  · skip
    refine lv_iconst (v := nI 0) S.1 S.2.1 dX1_matches_13 (by decide) ?_
    refine lv_istore_n (lv' := [(2, .int (nI 0)), (0, .ref (a)), (1, .ref (a2))]) S.1 S.2.1 dX1_matches_14 rfl hl (by decide) rfl (fun ls hl => ?_)
    refine wlp (P := fun k_ ls H' locs' => ∃ (k : Nat), lv_has ls 3 [(0, .ref (a)), (1, .ref (a2)), (2, .int (nI k))] ∧ (H = H' ∧ [] = locs') ∧ (k ≤ L.length) ∧ (∀ i, i < k → cd L i = cd L2 i ∧ cf L i = cf L2 i) ∧ k_ = L.length - k) ?_ (k0 := L.length - (0)) ⟨0, lv_sub hl [1, 2, 0] rfl, ⟨rfl, rfl⟩, Nat.zero_le _, fun i h => absurd h (Nat.not_lt_zero i), rfl⟩
    intro k15 ls H' locs' hP ih15
    obtain ⟨k, hl, ⟨rfl, rfl⟩, hk, hsm, hk15⟩ := hP
    refine lv_iload_n S.1 S.2.1 dX1_matches_15 rfl (lv_at hl 2 rfl) ?_
    refine lv_aload_n S.1 S.2.1 dX1_matches_16 rfl (lv_at hl 0 rfl) ?_
    refine gfX1_28 S hK hH h0 dX1_matches_17 ?_
    refine bn_ge (tgt := 62) S dX1_matches_20 (by decide) (by omega) (fun c20 => ?_) (fun c20 => ?_)
    · skip
      refine lv_iconst (v := nI 1) S.1 S.2.1 dX1_matches_62 (by decide) ?_
      exact rt_z S hr hlk hH dX1_matches_63 (by decide) (⟨rfl, rfl, Or.inl ⟨rfl, pl_ext c8 (fun i hi => hsm i (by omega))⟩⟩)
    · skip
      have hb := hok k c20
      have hb2 := hok2 k (by omega)
      refine lv_aload_n S.1 S.2.1 dX1_matches_23 rfl (lv_at hl 0 rfl) ?_
      refine gfX1_18 S hK hH h0 dX1_matches_24 ?_
      refine lv_iload_n S.1 S.2.1 dX1_matches_27 rfl (lv_at hl 2 rfl) ?_
      refine ald_l S hK hH h1 (by omega) (by omega) dX1_matches_28 ?_
      refine tpl (x' := lN (cd L k)) (h6 k c20) ?_
      refine lv_aload_n S.1 S.2.1 dX1_matches_29 rfl (lv_at hl 1 rfl) ?_
      refine gfX1_18 S hK hH hq0 dX1_matches_30 ?_
      refine lv_iload_n S.1 S.2.1 dX1_matches_33 rfl (lv_at hl 2 rfl) ?_
      refine ald_l S hK hH hq1 (by omega) (by omega) dX1_matches_34 ?_
      refine tpl (x' := lN (cd L2 k)) (hq6 k (by omega)) ?_
      refine bl_ne (tgt := 54) S dX1_matches_35 dX1_matches_36 (by decide) (fun c35 => ?_) (fun c35 => ?_)
      · skip
        have c35 : cd L k ≠ cd L2 k := fun q => c35 (by rw [q])
        refine lv_iconst (v := nI 0) S.1 S.2.1 dX1_matches_54 (by decide) ?_
        exact rt_z S hr hlk hH dX1_matches_55 (by decide) (⟨rfl, rfl, Or.inr ⟨rfl, fun q => c35 (by rw [q])⟩⟩)
      · skip
        have c35 : cd L k = cd L2 k := (pk_lEQ (by omega) (by omega)).mp c35
        refine lv_aload_n S.1 S.2.1 dX1_matches_39 rfl (lv_at hl 0 rfl) ?_
        refine gfX1_24 S hK hH h0 dX1_matches_40 ?_
        refine lv_iload_n S.1 S.2.1 dX1_matches_43 rfl (lv_at hl 2 rfl) ?_
        refine ald_i S hK hH h2 (by omega) (by omega) dX1_matches_44 ?_
        refine tpi (x' := iI (cf L k)) (h7 k c20) ?_
        refine lv_aload_n S.1 S.2.1 dX1_matches_45 rfl (lv_at hl 1 rfl) ?_
        refine gfX1_24 S hK hH hq0 dX1_matches_46 ?_
        refine lv_iload_n S.1 S.2.1 dX1_matches_49 rfl (lv_at hl 2 rfl) ?_
        refine ald_i S hK hH hq2 (by omega) (by omega) dX1_matches_50 ?_
        refine tpi (x' := iI (cf L2 k)) (hq7 k (by omega)) ?_
        refine lv_icmp_eq (tgt := 56) S.1 S.2.1 dX1_matches_51 (by decide) (fun c51 => ?_) (fun c51 => ?_)
        · skip
          have c51 : cf L k = cf L2 k := (iI_eq (by omega) (by omega)).mp c51
          refine lv_iinc (v := nI (k + 1)) (lv' := [(2, .int (nI (k + 1))), (0, .ref (a)), (1, .ref (a2))]) S.1 S.2.1 dX1_matches_56 hl (k := 2) rfl (nI_inc _ 1) (by decide) rfl (fun ls hl => ?_)
          refine lv_goto (tgt := 15) S.1 S.2.1 dX1_matches_59 (by decide) ?_
          exact ih15 _ _ _ _ (by omega) ⟨k + 1, lv_sub hl [1, 2, 0] rfl, ⟨rfl, rfl⟩, c20, lt_s hsm ⟨c35, c51⟩, rfl⟩
        · skip
          have c51 : cf L k ≠ cf L2 k := fun q => c51 (by rw [q])
          refine lv_iconst (v := nI 0) S.1 S.2.1 dX1_matches_54 (by decide) ?_
          exact rt_z S hr hlk hH dX1_matches_55 (by decide) (⟨rfl, rfl, Or.inr ⟨rfl, fun q => c51 (by rw [q])⟩⟩)
  · skip
    refine lv_iconst (v := nI 0) S.1 S.2.1 dX1_matches_11 (by decide) ?_
    exact rt_z S hr hlk hH dX1_matches_12 (by decide) (⟨rfl, rfl, Or.inr ⟨rfl, fun q => c8 (by rw [q])⟩⟩)
end
section
def ipw (x : Int64) : Nat → Int64
  | 0 => 1
  | k + 1 => x * ipw x k
/-- the value by Horner's way: v is reached, at the degree r -/
def hvL (x : Int64) : PL → Int64 → Nat → Int64
  | [], v, r => v * ipw x r
  | t :: L, v, r => hvL x L (v * ipw x (r - t.1 / 10000000000000000) + lI t.2) (min r (t.1 / 10000000000000000))
def hv0 (L : PL) : Nat := if 0 < L.length then cd L 0 / 10000000000000000 else 0
theorem lI16 : lI 10000000000000000 = lN 10000000000000000 := by decide
theorem div16 {c : Nat} (hc : c < 4611686018427387904) : lN c / lI 10000000000000000 = lN (c / 10000000000000000) := by
  rw [lI16, pk_lDiv (by omega) (by decide) (by decide)]
theorem hv0_pos {L : PL} (h : 0 < L.length) (hc : cd L 0 < 4611686018427387904) : lN (cd L 0) / lI 10000000000000000 = lN (hv0 L) := by
  rw [div16 hc, hv0, if_pos h]
theorem hv0_nil {L : PL} (h : L.length = 0) : lI 0 = lN (hv0 L) := by
  rw [hv0, if_neg (by omega)]; rfl
theorem hv0_lt {L : PL} (h : ∀ j, j < L.length → cd L j < 4611686018427387904 ∧ -2147483648 ≤ cf L j ∧ cf L j < 2147483648) : hv0 L < 4611686018427387904 := by
  unfold hv0
  split
  · rename_i q
    have := (h 0 q).1
    omega
  · decide
theorem lN_pred {r : Nat} (h : 1 ≤ r) : lN r - lI 1 = lN (r - 1) := lN_sub h
theorem hv_at {x v : Int64} {L : PL} {k r : Nat} (hk : k < L.length) (h : r ≤ cd L k / 10000000000000000) : hvL x (L.drop k) v r = hvL x (L.drop (k + 1)) (v + lI (cf L k)) r := by
  rw [drop_cd hk]
  show hvL x (L.drop (k + 1)) (v * ipw x (r - cd L k / 10000000000000000) + lI (cf L k)) (min r (cd L k / 10000000000000000)) = _
  rw [Nat.sub_eq_zero_of_le h, Nat.min_eq_left h]
  simp [ipw]
theorem hv_dn {x v : Int64} {L : PL} {k r : Nat} (hk : k < L.length) (h : cd L k / 10000000000000000 < r) : hvL x (L.drop k) v r = hvL x (L.drop k) (v * x) (r - 1) := by
  rw [drop_cd hk]
  show hvL x (L.drop (k + 1)) (v * ipw x (r - cd L k / 10000000000000000) + lI (cf L k)) (min r (cd L k / 10000000000000000)) = hvL x (L.drop (k + 1)) (v * x * ipw x (r - 1 - cd L k / 10000000000000000) + lI (cf L k)) (min (r - 1) (cd L k / 10000000000000000))
  rw [show r - cd L k / 10000000000000000 = (r - 1 - cd L k / 10000000000000000) + 1 by omega, show min r (cd L k / 10000000000000000) = min (r - 1) (cd L k / 10000000000000000) by omega]
  simp only [ipw, Int64.mul_assoc]
theorem hv_dn0 {x v : Int64} {r : Nat} (h : 0 < r) : hvL x [] v r = hvL x [] (v * x) (r - 1) := by
  show v * ipw x r = v * x * ipw x (r - 1)
  obtain ⟨q, rfl⟩ : ∃ q, r = q + 1 := ⟨r - 1, by omega⟩
  simp only [ipw, Int64.mul_assoc, Nat.add_sub_cancel]
/-- the greatest power of symbol t -/
def top (L : PL) (t : Nat) : Nat := L.foldl (fun m x => max m (dig x.1 t)) 0
theorem dig_lt (c t : Nat) : dig c t < 10 := Nat.mod_lt _ (by decide)
theorem top_fold (L : PL) (t m : Nat) (h : m < 10) : L.foldl (fun m x => max m (dig x.1 t)) m < 10 := by
  induction L generalizing m with
  | nil => exact h
  | cons x L ih => exact ih _ (show max m (dig x.1 t) < 10 by have := dig_lt x.1 t; omega)
theorem top_lt (L : PL) (t : Nat) : top L t < 10 := top_fold L t 0 (by decide)
theorem top_succ {L : PL} {k t : Nat} (h : k < L.length) : top (L.take (k + 1)) t = max (top (L.take k) t) (dig (cd L k) t) := by
  rw [take_cd h]; simp [top, List.foldl_append]
theorem mx_nI {a b : Nat} (ha : a < 10) (hb : b < 10) : (if nI a < nI b then nI b else nI a) = nI (max a b) := by
  by_cases h : a < b
  · rw [if_pos (nI_lt h (by omega)), Nat.max_eq_right (by omega)]
  · rw [if_neg (nI_nlt (by omega) (by omega)), Nat.max_eq_left (by omega)]
theorem div10b {c t : Nat} (hc : c < 4611686018427387904) : lN (c / 10 ^ t) / lI 10 = lN (c / 10 ^ (t + 1)) := by
  rw [lI10, pk_lDiv (Nat.lt_of_le_of_lt (Nat.div_le_self _ _) (by omega)) (by decide) (by decide), Nat.div_div_eq_div_mul, ← Nat.pow_succ]
theorem iI_dn {t : Nat} (h : t < 16) : iI (15 - (t : Int)) = nI (15 - t) := by
  rw [nI_iI]; congr 1; omega
theorem iI_dec (t : Nat) : iI (15 - (t : Int)) + Int32.ofInt (-1) = iI (15 - ((t + 1 : Nat) : Int)) := by
  show iI _ + iI (-1) = _
  rw [iI_add]; congr 1; omega
theorem tp_set {L : PL} {k t : Nat} {tq : Nat → Int32} (hk : k < L.length) (ht : t < 16) (h : ∀ u, 16 - t ≤ u → u < 16 → tq u = nI (top (L.take (k + 1)) u)) : ∀ u, 16 - (t + 1) ≤ u → u < 16 → upd tq (15 - t) (nI (max (top (L.take k) (15 - t)) (cd L k / 10 ^ t % 10))) u = nI (top (L.take (k + 1)) u) := by
  intro u h1 h2
  by_cases q : u = 15 - t
  · subst q
    rw [pk_us, top_succ hk]
    unfold dig
    rw [show 15 - (15 - t) = t by omega]
  · rw [pk_un q]
    exact h u (by omega) h2

set_option maxHeartbeats 4000000 in
set_option maxRecDepth 100000 in
theorem kX1_valueWith {l : Launch} {G : Gx} {B : Nat} {w : Wm} {n : Nat} (a cap : Nat) (L : PL) (tk : Int32) (tp : Nat → Int32) (x : Int32) (hp : PolyC G w a cap L tk tp) (hok : (∀ j, j < L.length → cd L j < 4611686018427387904 ∧ -2147483648 ≤ cf L j ∧ cf L j < 2147483648)) : Met l yX1_valueWith (wsM yX1_valueWith cX1_valueWith 9 (some .long)) ({ frames := 0, cells := 0, slots := 0, locals := 0 } : Room) (Pcx G B w n [.ref (a), .int (x)]) (Ql G B (fun r w' n' => w' = w ∧ n' = n ∧ r = hvL x.toInt64 L 0 (hv0 L))) 0 0 (FA B) := by
  refine en (by decide) (Nat.le_of_ble_eq_true rfl) ?_
  intro p ev s mm ag bl mt co S hr hlk hnm hK H hH ls hl
  have hl : lv_has ls 9 [(0, .ref (a)), (1, .int (x))] := hl
  obtain ⟨f, g, h0, h1, h2, h3, h4, h5, h6, h7, h8⟩ := hp
  refine lv_lconst (v := lI 0) S.1 S.2.1 dX1_valueWith_0 (by decide) ?_
  refine tpl (x' := (0 : Int64)) (by decide) ?_
  refine lv_lstore_n (lv' := [(2, .long ((0 : Int64))), (0, .ref (a)), (1, .int (x))]) S.1 S.2.1 dX1_valueWith_1 rfl hl (by decide) rfl (fun ls hl => ?_)
  refine lv_aload_n S.1 S.2.1 dX1_valueWith_2 rfl (lv_at hl 1 rfl) ?_
  refine gfX1_28 S hK hH h0 dX1_valueWith_3 ?_
  refine lv_if_le (tgt := 22) S.1 S.2.1 dX1_valueWith_6 (by decide) (fun c6 => ?_) (fun c6 => ?_)
  · skip
    have hz : L.length = 0 := by
      rcases Nat.eq_zero_or_pos L.length with q | q
      · exact q
      · exact absurd c6 (nI_nle q (by omega))
    refine lv_lconst (v := lI 0) S.1 S.2.1 dX1_valueWith_22 (by decide) ?_
    refine tpl (x' := lN (hv0 L)) (hv0_nil hz) ?_
    refine lv_lstore (lv' := [(4, .long (lN (hv0 L))), (2, .long ((0 : Int64))), (0, .ref (a)), (1, .int (x))]) S.1 S.2.1 dX1_valueWith_23 hl (by decide) rfl (fun ls hl => ?_)
    refine lv_iconst (v := nI 0) S.1 S.2.1 dX1_valueWith_25 (by decide) ?_
    refine lv_istore (lv' := [(6, .int (nI 0)), (4, .long (lN (hv0 L))), (2, .long ((0 : Int64))), (0, .ref (a)), (1, .int (x))]) S.1 S.2.1 dX1_valueWith_26 hl (by decide) rfl (fun ls hl => ?_)
    refine wlp (P := fun k_ ls H' locs' => ∃ (k r : Nat) (v : Int64), lv_has ls 9 [(0, .ref (a)), (1, .int (x)), (2, .long (v)), (4, .long (lN r)), (6, .int (nI k))] ∧ (H = H' ∧ [] = locs') ∧ (k ≤ L.length) ∧ (r < 4611686018427387904) ∧ (hvL x.toInt64 L 0 (hv0 L) = hvL x.toInt64 (L.drop k) v r) ∧ k_ = L.length - k) ?_ (k0 := L.length - (0)) ⟨0, hv0 L, 0, lv_sub hl [3, 4, 2, 1, 0] rfl, ⟨rfl, rfl⟩, Nat.zero_le _, hv0_lt hok, rfl, rfl⟩
    intro k28 ls H' locs' hP ih28
    obtain ⟨k, r, v, hl, ⟨rfl, rfl⟩, hk, hr1, hv, hk28⟩ := hP
    refine lv_iload S.1 S.2.1 dX1_valueWith_28 (lv_at hl 4 rfl) ?_
    refine lv_aload_n S.1 S.2.1 dX1_valueWith_30 rfl (lv_at hl 0 rfl) ?_
    refine gfX1_28 S hK hH h0 dX1_valueWith_31 ?_
    refine bn_ge (tgt := 89) S dX1_valueWith_34 (by decide) (by omega) (fun c34 => ?_) (fun c34 => ?_)
    · skip
      refine wlp (P := fun k_ ls H' locs' => ∃ (r : Nat) (v : Int64), lv_has ls 9 [(0, .ref (a)), (1, .int (x)), (2, .long (v)), (4, .long (lN r))] ∧ (H = H' ∧ [] = locs') ∧ (r < 4611686018427387904) ∧ (hvL x.toInt64 L 0 (hv0 L) = hvL x.toInt64 [] v r) ∧ k_ = r) ?_ (k0 := (r)) ⟨r, v, lv_sub hl [0, 1, 2, 3] rfl, ⟨rfl, rfl⟩, hr1, by rw [hv, List.drop_of_length_le c34], rfl⟩
      intro k89 ls H' locs' hP ih89
      obtain ⟨r, v, hl, ⟨rfl, rfl⟩, hr1, hv, hk89⟩ := hP
      refine lv_lload S.1 S.2.1 dX1_valueWith_89 (lv_at hl 3 rfl) ?_
      refine lv_lconst (v := lI 0) S.1 S.2.1 dX1_valueWith_91 (by decide) ?_
      refine tpl (x' := lN 0) (rfl) ?_
      refine bl_le (tgt := 110) S dX1_valueWith_92 dX1_valueWith_93 (by decide) (fun c92 => ?_) (fun c92 => ?_)
      · skip
        have c92 : r = 0 := Nat.le_zero.mp ((pk_lLE (by omega) (by omega)).mp c92)
        refine lv_lload_n S.1 S.2.1 dX1_valueWith_110 rfl (lv_at hl 2 rfl) ?_
        exact rt_l S hr hlk hH dX1_valueWith_111 (⟨rfl, rfl, by rw [hv, c92]; simp [hvL, ipw]⟩)
      · skip
        have c92 : 0 < r := Nat.lt_of_not_le (fun q => c92 ((pk_lLE (by omega) (by omega)).mpr q))
        refine lv_lload_n S.1 S.2.1 dX1_valueWith_96 rfl (lv_at hl 2 rfl) ?_
        refine lv_iload_n S.1 S.2.1 dX1_valueWith_97 rfl (lv_at hl 1 rfl) ?_
        refine lv_i2l (v := (x).toInt64) S.1 S.2.1 dX1_valueWith_98 (rfl) ?_
        refine lv_lmul S.1 S.2.1 dX1_valueWith_99 ?_
        refine lv_lstore_n (lv' := [(2, .long ((v * (x).toInt64))), (0, .ref (a)), (1, .int (x)), (4, .long (lN r))]) S.1 S.2.1 dX1_valueWith_100 rfl hl (by decide) rfl (fun ls hl => ?_)
        refine lv_lload S.1 S.2.1 dX1_valueWith_101 (lv_at hl 3 rfl) ?_
        refine lv_lconst (v := lI 1) S.1 S.2.1 dX1_valueWith_103 (by decide) ?_
        refine lv_lsub S.1 S.2.1 dX1_valueWith_104 ?_
        refine tpl (x' := lN (r - 1)) (lN_pred (by omega)) ?_
        refine lv_lstore (lv' := [(4, .long (lN (r - 1))), (2, .long ((v * (x).toInt64))), (0, .ref (a)), (1, .int (x))]) S.1 S.2.1 dX1_valueWith_105 hl (by decide) rfl (fun ls hl => ?_)
        refine lv_goto (tgt := 89) S.1 S.2.1 dX1_valueWith_107 (by decide) ?_
        exact ih89 _ _ _ _ (by omega) ⟨_, _, lv_sub hl [2, 3, 1, 0] rfl, ⟨rfl, rfl⟩, by omega, hv.trans (hv_dn0 c92), rfl⟩
    · skip
      have hb := hok k c34
      refine lv_aload_n S.1 S.2.1 dX1_valueWith_37 rfl (lv_at hl 0 rfl) ?_
      refine gfX1_18 S hK hH h0 dX1_valueWith_38 ?_
      refine lv_iload S.1 S.2.1 dX1_valueWith_41 (lv_at hl 4 rfl) ?_
      refine ald_l S hK hH h1 (by omega) (by omega) dX1_valueWith_43 ?_
      refine tpl (x' := lN (cd L k)) (h6 k c34) ?_
      refine lv_ldc2 S.1 S.2.1 S.2.2.2.1 (S.2.2.2.2 _ mW258) dX1_valueWith_44 ?_
      refine tpl (x' := lI 10000000000000000) (by decide) ?_
      refine lv_ldiv S.1 S.2.1 dX1_valueWith_47 (by decide) ?_
      refine tpl (x' := lN (cd L k / 10000000000000000)) (div16 hb.1) ?_
      refine lv_lstore (lv' := [(7, .long (lN (cd L k / 10000000000000000))), (0, .ref (a)), (1, .int (x)), (2, .long (v)), (4, .long (lN r)), (6, .int (nI k))]) S.1 S.2.1 dX1_valueWith_48 hl (by decide) rfl (fun ls hl => ?_)
      refine wlp (P := fun k_ ls H' locs' => ∃ (r : Nat) (v : Int64), lv_has ls 9 [(0, .ref (a)), (1, .int (x)), (2, .long (v)), (4, .long (lN r)), (6, .int (nI k)), (7, .long (lN (cd L k / 10000000000000000)))] ∧ (H = H' ∧ [] = locs') ∧ (r < 4611686018427387904) ∧ (hvL x.toInt64 L 0 (hv0 L) = hvL x.toInt64 (L.drop k) v r) ∧ k_ = r) ?_ (k0 := (r)) ⟨r, v, lv_sub hl [1, 2, 3, 4, 5, 0] rfl, ⟨rfl, rfl⟩, hr1, hv, rfl⟩
      intro k50 ls H' locs' hP ih50
      obtain ⟨r, v, hl, ⟨rfl, rfl⟩, hr1, hv, hk50⟩ := hP
      refine lv_lload S.1 S.2.1 dX1_valueWith_50 (lv_at hl 3 rfl) ?_
      refine lv_lload S.1 S.2.1 dX1_valueWith_52 (lv_at hl 5 rfl) ?_
      refine bl_le (tgt := 72) S dX1_valueWith_54 dX1_valueWith_55 (by decide) (fun c54 => ?_) (fun c54 => ?_)
      · skip
        have c54 := (pk_lLE (by omega) (by omega)).mp c54
        refine lv_lload_n S.1 S.2.1 dX1_valueWith_72 rfl (lv_at hl 2 rfl) ?_
        refine lv_aload_n S.1 S.2.1 dX1_valueWith_73 rfl (lv_at hl 0 rfl) ?_
        refine gfX1_24 S hK hH h0 dX1_valueWith_74 ?_
        refine lv_iload S.1 S.2.1 dX1_valueWith_77 (lv_at hl 4 rfl) ?_
        refine ald_i S hK hH h2 (by omega) (by omega) dX1_valueWith_79 ?_
        refine tpi (x' := iI (cf L k)) (h7 k c34) ?_
        refine lv_i2l (v := lI (cf L k)) S.1 S.2.1 dX1_valueWith_80 (iI_l (by omega)) ?_
        refine lv_ladd S.1 S.2.1 dX1_valueWith_81 ?_
        refine lv_lstore_n (lv' := [(2, .long ((v + lI (cf L k)))), (0, .ref (a)), (1, .int (x)), (4, .long (lN r)), (6, .int (nI k)), (7, .long (lN (cd L k / 10000000000000000)))]) S.1 S.2.1 dX1_valueWith_82 rfl hl (by decide) rfl (fun ls hl => ?_)
        refine lv_iinc (v := nI (k + 1)) (lv' := [(6, .int (nI (k + 1))), (2, .long ((v + lI (cf L k)))), (0, .ref (a)), (1, .int (x)), (4, .long (lN r)), (7, .long (lN (cd L k / 10000000000000000)))]) S.1 S.2.1 dX1_valueWith_83 hl (k := 4) rfl (nI_inc _ 1) (by decide) rfl (fun ls hl => ?_)
        refine lv_goto (tgt := 28) S.1 S.2.1 dX1_valueWith_86 (by decide) ?_
        exact ih28 _ _ _ _ (by omega) ⟨k + 1, _, _, lv_sub hl [2, 3, 1, 4, 0] rfl, ⟨rfl, rfl⟩, c34, hr1, hv.trans (hv_at c34 c54), rfl⟩
      · skip
        have c54 : cd L k / 10000000000000000 < r := Nat.lt_of_not_le (fun q => c54 ((pk_lLE (by omega) (by omega)).mpr q))
        refine lv_lload_n S.1 S.2.1 dX1_valueWith_58 rfl (lv_at hl 2 rfl) ?_
        refine lv_iload_n S.1 S.2.1 dX1_valueWith_59 rfl (lv_at hl 1 rfl) ?_
        refine lv_i2l (v := (x).toInt64) S.1 S.2.1 dX1_valueWith_60 (rfl) ?_
        refine lv_lmul S.1 S.2.1 dX1_valueWith_61 ?_
        refine lv_lstore_n (lv' := [(2, .long ((v * (x).toInt64))), (0, .ref (a)), (1, .int (x)), (4, .long (lN r)), (6, .int (nI k)), (7, .long (lN (cd L k / 10000000000000000)))]) S.1 S.2.1 dX1_valueWith_62 rfl hl (by decide) rfl (fun ls hl => ?_)
        refine lv_lload S.1 S.2.1 dX1_valueWith_63 (lv_at hl 3 rfl) ?_
        refine lv_lconst (v := lI 1) S.1 S.2.1 dX1_valueWith_65 (by decide) ?_
        refine lv_lsub S.1 S.2.1 dX1_valueWith_66 ?_
        refine tpl (x' := lN (r - 1)) (lN_pred (by omega)) ?_
        refine lv_lstore (lv' := [(4, .long (lN (r - 1))), (2, .long ((v * (x).toInt64))), (0, .ref (a)), (1, .int (x)), (6, .int (nI k)), (7, .long (lN (cd L k / 10000000000000000)))]) S.1 S.2.1 dX1_valueWith_67 hl (by decide) rfl (fun ls hl => ?_)
        refine lv_goto (tgt := 50) S.1 S.2.1 dX1_valueWith_69 (by decide) ?_
        exact ih50 _ _ _ _ (by omega) ⟨_, _, lv_sub hl [2, 3, 1, 0, 4, 5] rfl, ⟨rfl, rfl⟩, by omega, hv.trans (hv_dn c34 c54), rfl⟩
  · skip
    have hz : 0 < L.length := by
      rcases Nat.eq_zero_or_pos L.length with q | q
      · rw [q] at c6; exact absurd (by decide) c6
      · exact q
    have hb0 := hok 0 hz
    refine lv_aload_n S.1 S.2.1 dX1_valueWith_9 rfl (lv_at hl 1 rfl) ?_
    refine gfX1_18 S hK hH h0 dX1_valueWith_10 ?_
    refine lv_iconst (v := nI 0) S.1 S.2.1 dX1_valueWith_13 (by decide) ?_
    refine ald_l S hK hH h1 (by omega) (by omega) dX1_valueWith_14 ?_
    refine tpl (x' := lN (cd L 0)) (h6 0 hz) ?_
    refine lv_ldc2 S.1 S.2.1 S.2.2.2.1 (S.2.2.2.2 _ mW258) dX1_valueWith_15 ?_
    refine tpl (x' := lI 10000000000000000) (by decide) ?_
    refine lv_ldiv S.1 S.2.1 dX1_valueWith_18 (by decide) ?_
    refine tpl (x' := lN (hv0 L)) (hv0_pos hz hb0.1) ?_
    refine lv_goto (tgt := 23) S.1 S.2.1 dX1_valueWith_19 (by decide) ?_
    refine lv_lstore (lv' := [(4, .long (lN (hv0 L))), (2, .long ((0 : Int64))), (0, .ref (a)), (1, .int (x))]) S.1 S.2.1 dX1_valueWith_23 hl (by decide) rfl (fun ls hl => ?_)
    refine lv_iconst (v := nI 0) S.1 S.2.1 dX1_valueWith_25 (by decide) ?_
    refine lv_istore (lv' := [(6, .int (nI 0)), (4, .long (lN (hv0 L))), (2, .long ((0 : Int64))), (0, .ref (a)), (1, .int (x))]) S.1 S.2.1 dX1_valueWith_26 hl (by decide) rfl (fun ls hl => ?_)
    refine wlp (P := fun k_ ls H' locs' => ∃ (k r : Nat) (v : Int64), lv_has ls 9 [(0, .ref (a)), (1, .int (x)), (2, .long (v)), (4, .long (lN r)), (6, .int (nI k))] ∧ (H = H' ∧ [] = locs') ∧ (k ≤ L.length) ∧ (r < 4611686018427387904) ∧ (hvL x.toInt64 L 0 (hv0 L) = hvL x.toInt64 (L.drop k) v r) ∧ k_ = L.length - k) ?_ (k0 := L.length - (0)) ⟨0, hv0 L, 0, lv_sub hl [3, 4, 2, 1, 0] rfl, ⟨rfl, rfl⟩, Nat.zero_le _, hv0_lt hok, rfl, rfl⟩
    intro k28 ls H' locs' hP ih28
    obtain ⟨k, r, v, hl, ⟨rfl, rfl⟩, hk, hr1, hv, hk28⟩ := hP
    refine lv_iload S.1 S.2.1 dX1_valueWith_28 (lv_at hl 4 rfl) ?_
    refine lv_aload_n S.1 S.2.1 dX1_valueWith_30 rfl (lv_at hl 0 rfl) ?_
    refine gfX1_28 S hK hH h0 dX1_valueWith_31 ?_
    refine bn_ge (tgt := 89) S dX1_valueWith_34 (by decide) (by omega) (fun c34 => ?_) (fun c34 => ?_)
    · skip
      refine wlp (P := fun k_ ls H' locs' => ∃ (r : Nat) (v : Int64), lv_has ls 9 [(0, .ref (a)), (1, .int (x)), (2, .long (v)), (4, .long (lN r))] ∧ (H = H' ∧ [] = locs') ∧ (r < 4611686018427387904) ∧ (hvL x.toInt64 L 0 (hv0 L) = hvL x.toInt64 [] v r) ∧ k_ = r) ?_ (k0 := (r)) ⟨r, v, lv_sub hl [0, 1, 2, 3] rfl, ⟨rfl, rfl⟩, hr1, by rw [hv, List.drop_of_length_le c34], rfl⟩
      intro k89 ls H' locs' hP ih89
      obtain ⟨r, v, hl, ⟨rfl, rfl⟩, hr1, hv, hk89⟩ := hP
      refine lv_lload S.1 S.2.1 dX1_valueWith_89 (lv_at hl 3 rfl) ?_
      refine lv_lconst (v := lI 0) S.1 S.2.1 dX1_valueWith_91 (by decide) ?_
      refine tpl (x' := lN 0) (rfl) ?_
      refine bl_le (tgt := 110) S dX1_valueWith_92 dX1_valueWith_93 (by decide) (fun c92 => ?_) (fun c92 => ?_)
      · skip
        have c92 : r = 0 := Nat.le_zero.mp ((pk_lLE (by omega) (by omega)).mp c92)
        refine lv_lload_n S.1 S.2.1 dX1_valueWith_110 rfl (lv_at hl 2 rfl) ?_
        exact rt_l S hr hlk hH dX1_valueWith_111 (⟨rfl, rfl, by rw [hv, c92]; simp [hvL, ipw]⟩)
      · skip
        have c92 : 0 < r := Nat.lt_of_not_le (fun q => c92 ((pk_lLE (by omega) (by omega)).mpr q))
        refine lv_lload_n S.1 S.2.1 dX1_valueWith_96 rfl (lv_at hl 2 rfl) ?_
        refine lv_iload_n S.1 S.2.1 dX1_valueWith_97 rfl (lv_at hl 1 rfl) ?_
        refine lv_i2l (v := (x).toInt64) S.1 S.2.1 dX1_valueWith_98 (rfl) ?_
        refine lv_lmul S.1 S.2.1 dX1_valueWith_99 ?_
        refine lv_lstore_n (lv' := [(2, .long ((v * (x).toInt64))), (0, .ref (a)), (1, .int (x)), (4, .long (lN r))]) S.1 S.2.1 dX1_valueWith_100 rfl hl (by decide) rfl (fun ls hl => ?_)
        refine lv_lload S.1 S.2.1 dX1_valueWith_101 (lv_at hl 3 rfl) ?_
        refine lv_lconst (v := lI 1) S.1 S.2.1 dX1_valueWith_103 (by decide) ?_
        refine lv_lsub S.1 S.2.1 dX1_valueWith_104 ?_
        refine tpl (x' := lN (r - 1)) (lN_pred (by omega)) ?_
        refine lv_lstore (lv' := [(4, .long (lN (r - 1))), (2, .long ((v * (x).toInt64))), (0, .ref (a)), (1, .int (x))]) S.1 S.2.1 dX1_valueWith_105 hl (by decide) rfl (fun ls hl => ?_)
        refine lv_goto (tgt := 89) S.1 S.2.1 dX1_valueWith_107 (by decide) ?_
        exact ih89 _ _ _ _ (by omega) ⟨_, _, lv_sub hl [2, 3, 1, 0] rfl, ⟨rfl, rfl⟩, by omega, hv.trans (hv_dn0 c92), rfl⟩
    · skip
      have hb := hok k c34
      refine lv_aload_n S.1 S.2.1 dX1_valueWith_37 rfl (lv_at hl 0 rfl) ?_
      refine gfX1_18 S hK hH h0 dX1_valueWith_38 ?_
      refine lv_iload S.1 S.2.1 dX1_valueWith_41 (lv_at hl 4 rfl) ?_
      refine ald_l S hK hH h1 (by omega) (by omega) dX1_valueWith_43 ?_
      refine tpl (x' := lN (cd L k)) (h6 k c34) ?_
      refine lv_ldc2 S.1 S.2.1 S.2.2.2.1 (S.2.2.2.2 _ mW258) dX1_valueWith_44 ?_
      refine tpl (x' := lI 10000000000000000) (by decide) ?_
      refine lv_ldiv S.1 S.2.1 dX1_valueWith_47 (by decide) ?_
      refine tpl (x' := lN (cd L k / 10000000000000000)) (div16 hb.1) ?_
      refine lv_lstore (lv' := [(7, .long (lN (cd L k / 10000000000000000))), (0, .ref (a)), (1, .int (x)), (2, .long (v)), (4, .long (lN r)), (6, .int (nI k))]) S.1 S.2.1 dX1_valueWith_48 hl (by decide) rfl (fun ls hl => ?_)
      refine wlp (P := fun k_ ls H' locs' => ∃ (r : Nat) (v : Int64), lv_has ls 9 [(0, .ref (a)), (1, .int (x)), (2, .long (v)), (4, .long (lN r)), (6, .int (nI k)), (7, .long (lN (cd L k / 10000000000000000)))] ∧ (H = H' ∧ [] = locs') ∧ (r < 4611686018427387904) ∧ (hvL x.toInt64 L 0 (hv0 L) = hvL x.toInt64 (L.drop k) v r) ∧ k_ = r) ?_ (k0 := (r)) ⟨r, v, lv_sub hl [1, 2, 3, 4, 5, 0] rfl, ⟨rfl, rfl⟩, hr1, hv, rfl⟩
      intro k50 ls H' locs' hP ih50
      obtain ⟨r, v, hl, ⟨rfl, rfl⟩, hr1, hv, hk50⟩ := hP
      refine lv_lload S.1 S.2.1 dX1_valueWith_50 (lv_at hl 3 rfl) ?_
      refine lv_lload S.1 S.2.1 dX1_valueWith_52 (lv_at hl 5 rfl) ?_
      refine bl_le (tgt := 72) S dX1_valueWith_54 dX1_valueWith_55 (by decide) (fun c54 => ?_) (fun c54 => ?_)
      · skip
        have c54 := (pk_lLE (by omega) (by omega)).mp c54
        refine lv_lload_n S.1 S.2.1 dX1_valueWith_72 rfl (lv_at hl 2 rfl) ?_
        refine lv_aload_n S.1 S.2.1 dX1_valueWith_73 rfl (lv_at hl 0 rfl) ?_
        refine gfX1_24 S hK hH h0 dX1_valueWith_74 ?_
        refine lv_iload S.1 S.2.1 dX1_valueWith_77 (lv_at hl 4 rfl) ?_
        refine ald_i S hK hH h2 (by omega) (by omega) dX1_valueWith_79 ?_
        refine tpi (x' := iI (cf L k)) (h7 k c34) ?_
        refine lv_i2l (v := lI (cf L k)) S.1 S.2.1 dX1_valueWith_80 (iI_l (by omega)) ?_
        refine lv_ladd S.1 S.2.1 dX1_valueWith_81 ?_
        refine lv_lstore_n (lv' := [(2, .long ((v + lI (cf L k)))), (0, .ref (a)), (1, .int (x)), (4, .long (lN r)), (6, .int (nI k)), (7, .long (lN (cd L k / 10000000000000000)))]) S.1 S.2.1 dX1_valueWith_82 rfl hl (by decide) rfl (fun ls hl => ?_)
        refine lv_iinc (v := nI (k + 1)) (lv' := [(6, .int (nI (k + 1))), (2, .long ((v + lI (cf L k)))), (0, .ref (a)), (1, .int (x)), (4, .long (lN r)), (7, .long (lN (cd L k / 10000000000000000)))]) S.1 S.2.1 dX1_valueWith_83 hl (k := 4) rfl (nI_inc _ 1) (by decide) rfl (fun ls hl => ?_)
        refine lv_goto (tgt := 28) S.1 S.2.1 dX1_valueWith_86 (by decide) ?_
        exact ih28 _ _ _ _ (by omega) ⟨k + 1, _, _, lv_sub hl [2, 3, 1, 4, 0] rfl, ⟨rfl, rfl⟩, c34, hr1, hv.trans (hv_at c34 c54), rfl⟩
      · skip
        have c54 : cd L k / 10000000000000000 < r := Nat.lt_of_not_le (fun q => c54 ((pk_lLE (by omega) (by omega)).mpr q))
        refine lv_lload_n S.1 S.2.1 dX1_valueWith_58 rfl (lv_at hl 2 rfl) ?_
        refine lv_iload_n S.1 S.2.1 dX1_valueWith_59 rfl (lv_at hl 1 rfl) ?_
        refine lv_i2l (v := (x).toInt64) S.1 S.2.1 dX1_valueWith_60 (rfl) ?_
        refine lv_lmul S.1 S.2.1 dX1_valueWith_61 ?_
        refine lv_lstore_n (lv' := [(2, .long ((v * (x).toInt64))), (0, .ref (a)), (1, .int (x)), (4, .long (lN r)), (6, .int (nI k)), (7, .long (lN (cd L k / 10000000000000000)))]) S.1 S.2.1 dX1_valueWith_62 rfl hl (by decide) rfl (fun ls hl => ?_)
        refine lv_lload S.1 S.2.1 dX1_valueWith_63 (lv_at hl 3 rfl) ?_
        refine lv_lconst (v := lI 1) S.1 S.2.1 dX1_valueWith_65 (by decide) ?_
        refine lv_lsub S.1 S.2.1 dX1_valueWith_66 ?_
        refine tpl (x' := lN (r - 1)) (lN_pred (by omega)) ?_
        refine lv_lstore (lv' := [(4, .long (lN (r - 1))), (2, .long ((v * (x).toInt64))), (0, .ref (a)), (1, .int (x)), (6, .int (nI k)), (7, .long (lN (cd L k / 10000000000000000)))]) S.1 S.2.1 dX1_valueWith_67 hl (by decide) rfl (fun ls hl => ?_)
        refine lv_goto (tgt := 50) S.1 S.2.1 dX1_valueWith_69 (by decide) ?_
        exact ih50 _ _ _ _ (by omega) ⟨_, _, lv_sub hl [2, 3, 1, 0, 4, 5] rfl, ⟨rfl, rfl⟩, by omega, hv.trans (hv_dn c34 c54), rfl⟩

set_option maxHeartbeats 4000000 in
set_option maxRecDepth 100000 in
theorem kX1_findTops {l : Launch} {G : Gx} {B : Nat} {w : Wm} {n : Nat} (a cap : Nat) (L : PL) (tk : Int32) (tp : Nat → Int32) (hp : PolyC G w a cap L tk tp) (htk : tk = 1 → ∀ t, t < 16 → tp t = nI (top L t)) (hok : ∀ j, j < L.length → cd L j < 4611686018427387904) : Met l yX1_findTops (wsM yX1_findTops cX1_findTops 5 none) ({ frames := 1, cells := 0, slots := 0, locals := 21 } : Room) (Pcx G B w n [.ref (a)]) (Qv G B (fun w' n' => n' = n ∧ (∀ b, (b ≠ a ∧ b ≠ a + 3) → w' b = w b) ∧ ∃ tp', PolyC G w' a cap L 1 tp' ∧ ∀ t, t < 16 → tp' t = nI (top L t))) 0 0 (FA B) := by
  refine en (by decide) (Nat.le_of_ble_eq_true rfl) ?_
  intro p ev s mm ag bl mt co S hr hlk hnm hK H hH ls hl
  have hl : lv_has ls 5 [(0, .ref (a))] := hl
  obtain ⟨f, g, h0, h1, h2, h3, h4, h5, h6, h7, h8⟩ := hp
  have hF : ∀ b, b ≠ a ∧ b ≠ a + 3 → w b = w b := fun _ _ => rfl
  refine lv_aload_n S.1 S.2.1 dX1_findTops_0 rfl (lv_at hl 0 rfl) ?_
  refine gfX1_35 S hK hH h0 dX1_findTops_1 ?_
  refine lv_if_eq (tgt := 8) S.1 S.2.1 dX1_findTops_4 (by decide) (fun c4 => ?_) (fun c4 => ?_)
  · skip
    refine lv_iconst (v := nI 0) S.1 S.2.1 dX1_findTops_8 (by decide) ?_
    refine lv_istore_n (lv' := [(1, .int (nI 0)), (0, .ref (a))]) S.1 S.2.1 dX1_findTops_9 rfl hl (by decide) rfl (fun ls hl => ?_)
    refine wlp (P := fun k_ ls H' locs' => ∃ (i : Nat) (tq : Nat → Int32) (v : Wm), lv_has ls 5 [(0, .ref (a)), (1, .int (nI i))] ∧ HS G B v (n) s H' locs' ∧ v (a) = some (eO 1 [.ref (a + 1), .ref (a + 2), .int (nI L.length), .ref (a + 3), .int (tk)]) ∧ v (a + 1) = some (eJ G (cap) (f)) ∧ v (a + 2) = some (eI G (cap) (g)) ∧ v (a + 3) = some (eI G (16) (tq)) ∧ (∀ b, b ≠ a ∧ b ≠ a + 3 → v b = w b) ∧ (i ≤ 16) ∧ (∀ t, t < i → tq t = nI 0) ∧ k_ = 16 - i) ?_ (k0 := 16 - (0)) ⟨0, tp, w, lv_sub hl [1, 0] rfl, hH, h0, h1, h2, h3, hF, by omega, fun t h => absurd h (Nat.not_lt_zero t), rfl⟩
    intro k10 ls H locs hP ih10
    obtain ⟨i, tq, v, hl, hH, h0, h1, h2, h3, hF, hi, hz, hk10⟩ := hP
    refine lv_iload_n S.1 S.2.1 dX1_findTops_10 rfl (lv_at hl 1 rfl) ?_
    refine lv_bipush (v := nI 16) S.1 S.2.1 dX1_findTops_11 (by decide) ?_
    refine bn_ge (tgt := 29) S dX1_findTops_13 (by decide) (by omega) (fun c13 => ?_) (fun c13 => ?_)
    · skip
      refine lv_iconst (v := nI 0) S.1 S.2.1 dX1_findTops_29 (by decide) ?_
      refine lv_istore_n (lv' := [(1, .int (nI 0)), (0, .ref (a))]) S.1 S.2.1 dX1_findTops_30 rfl hl (by decide) rfl (fun ls hl => ?_)
      refine wlp (P := fun k_ ls H' locs' => ∃ (k : Nat) (tq : Nat → Int32) (v : Wm), lv_has ls 5 [(0, .ref (a)), (1, .int (nI k))] ∧ HS G B v (n) s H' locs' ∧ v (a) = some (eO 1 [.ref (a + 1), .ref (a + 2), .int (nI L.length), .ref (a + 3), .int (tk)]) ∧ v (a + 1) = some (eJ G (cap) (f)) ∧ v (a + 2) = some (eI G (cap) (g)) ∧ v (a + 3) = some (eI G (16) (tq)) ∧ (∀ b, b ≠ a ∧ b ≠ a + 3 → v b = w b) ∧ (k ≤ L.length) ∧ (∀ t, t < 16 → tq t = nI (top (L.take k) t)) ∧ k_ = L.length - k) ?_ (k0 := L.length - (0)) ⟨0, tq, v, lv_sub hl [1, 0] rfl, hH, h0, h1, h2, h3, hF, Nat.zero_le _, fun t h => by rw [hz t (by omega)]; rfl, rfl⟩
      intro k31 ls H locs hP ih31
      obtain ⟨k, tq, v, hl, hH, h0, h1, h2, h3, hF, hk, hz, hk31⟩ := hP
      refine lv_iload_n S.1 S.2.1 dX1_findTops_31 rfl (lv_at hl 1 rfl) ?_
      refine lv_aload_n S.1 S.2.1 dX1_findTops_32 rfl (lv_at hl 0 rfl) ?_
      refine gfX1_28 S hK hH h0 dX1_findTops_33 ?_
      refine bn_ge (tgt := 96) S dX1_findTops_36 (by decide) (by omega) (fun c36 => ?_) (fun c36 => ?_)
      · skip
        refine lv_aload_n S.1 S.2.1 dX1_findTops_96 rfl (lv_at hl 0 rfl) ?_
        refine lv_iconst (v := nI 1) S.1 S.2.1 dX1_findTops_97 (by decide) ?_
        refine pfX1_35 S hK hH h0 (by decide) dX1_findTops_98 (fun w1 H locs h0 fr hH => ?_)
        replace h1 := (fr (a + 1) (by omega)).trans h1
        replace h2 := (fr (a + 2) (by omega)).trans h2
        replace h3 := (fr (a + 3) (by omega)).trans h3
        replace hF : ∀ b, b ≠ a ∧ b ≠ a + 3 → w1 b = w b := fun b hb => (fr b (by omega)).trans (hF b hb)
        exact rt_v S hr hlk hH dX1_findTops_101 (⟨rfl, hF, tq, ⟨f, g, h0, h1, h2, h3, h4, h5, h6, h7, Or.inr rfl⟩, fun t h => by rw [hz t h, List.take_of_length_le c36]⟩)
      · skip
        refine lv_aload_n S.1 S.2.1 dX1_findTops_39 rfl (lv_at hl 0 rfl) ?_
        refine gfX1_18 S hK hH h0 dX1_findTops_40 ?_
        refine lv_iload_n S.1 S.2.1 dX1_findTops_43 rfl (lv_at hl 1 rfl) ?_
        refine ald_l S hK hH h1 (by omega) (by omega) dX1_findTops_44 ?_
        refine tpl (x' := lN (cd L k)) (h6 k c36) ?_
        have hb := hok k c36
        refine tpl (x' := lN (cd L k / 10 ^ 0)) (by simp) ?_
        refine lv_lstore_n (lv' := [(2, .long (lN (cd L k / 10 ^ 0))), (0, .ref (a)), (1, .int (nI k))]) S.1 S.2.1 dX1_findTops_45 rfl hl (by decide) rfl (fun ls hl => ?_)
        refine lv_bipush (v := nI 15) S.1 S.2.1 dX1_findTops_46 (by decide) ?_
        refine tpi (x' := iI (15 - ((0 : Nat) : Int))) (rfl) ?_
        refine lv_istore (lv' := [(4, .int (iI (15 - ((0 : Nat) : Int)))), (2, .long (lN (cd L k / 10 ^ 0))), (0, .ref (a)), (1, .int (nI k))]) S.1 S.2.1 dX1_findTops_48 hl (by decide) rfl (fun ls hl => ?_)
        refine wlp (P := fun k_ ls H' locs' => ∃ (t : Nat) (tq : Nat → Int32) (v : Wm), lv_has ls 5 [(0, .ref (a)), (1, .int (nI k)), (2, .long (lN (cd L k / 10 ^ t))), (4, .int (iI (15 - (t : Int))))] ∧ HS G B v (n) s H' locs' ∧ v (a) = some (eO 1 [.ref (a + 1), .ref (a + 2), .int (nI L.length), .ref (a + 3), .int (tk)]) ∧ v (a + 1) = some (eJ G (cap) (f)) ∧ v (a + 2) = some (eI G (cap) (g)) ∧ v (a + 3) = some (eI G (16) (tq)) ∧ (∀ b, b ≠ a ∧ b ≠ a + 3 → v b = w b) ∧ (t ≤ 16) ∧ (∀ u, u < 16 → u < 16 - t → tq u = nI (top (L.take k) u)) ∧ (∀ u, 16 - t ≤ u → u < 16 → tq u = nI (top (L.take (k + 1)) u)) ∧ k_ = 16 - t) ?_ (k0 := 16 - (0)) ⟨0, tq, v, lv_sub hl [2, 3, 1, 0] rfl, hH, h0, h1, h2, h3, hF, by omega, fun u h _ => hz u h, fun u h1 h2 => by omega, rfl⟩
        intro k50 ls H locs hP ih50
        obtain ⟨t, tq, v, hl, hH, h0, h1, h2, h3, hF, ht1, hi1, hi2, hk50⟩ := hP
        refine lv_iload S.1 S.2.1 dX1_findTops_50 (lv_at hl 3 rfl) ?_
        refine lv_if_lt (tgt := 90) S.1 S.2.1 dX1_findTops_52 (by decide) (fun c52 => ?_) (fun c52 => ?_)
        · skip
          have ht : t = 16 := by
            have := (iI_lt (b := 0) (by omega) (by omega)).mp c52
            omega
          refine lv_iinc (v := nI (k + 1)) (lv' := [(1, .int (nI (k + 1))), (0, .ref (a)), (2, .long (lN (cd L k / 10 ^ t))), (4, .int (iI (15 - (t : Int))))]) S.1 S.2.1 dX1_findTops_90 hl (k := 1) rfl (nI_inc _ 1) (by decide) rfl (fun ls hl => ?_)
          refine lv_goto (tgt := 31) S.1 S.2.1 dX1_findTops_93 (by decide) ?_
          exact ih31 _ _ _ _ (by omega) ⟨k + 1, _, v, lv_sub hl [1, 0] rfl, hH, h0, h1, h2, h3, hF, c36, fun t h => hi2 t (by omega) h, rfl⟩
        · skip
          have ht : t < 16 := by
            rcases Nat.lt_or_ge t 16 with q | q
            · exact q
            · exact absurd ((iI_lt (b := 0) (by omega) (by omega)).mpr (by omega)) c52
          refine lv_aload_n S.1 S.2.1 dX1_findTops_55 rfl (lv_at hl 0 rfl) ?_
          refine gfX1_32 S hK hH h0 dX1_findTops_56 ?_
          refine lv_iload S.1 S.2.1 dX1_findTops_59 (lv_at hl 3 rfl) ?_
          refine tpi (x' := nI (15 - t)) (iI_dn ht) ?_
          refine lv_aload_n S.1 S.2.1 dX1_findTops_61 rfl (lv_at hl 0 rfl) ?_
          refine gfX1_32 S hK hH h0 dX1_findTops_62 ?_
          refine lv_iload S.1 S.2.1 dX1_findTops_65 (lv_at hl 3 rfl) ?_
          refine tpi (x' := nI (15 - t)) (iI_dn ht) ?_
          refine ald_i S hK hH h3 (by omega) (by omega) dX1_findTops_67 ?_
          refine tpi (x' := nI (top (L.take k) (15 - t))) (hi1 (15 - t) (by omega) (by omega)) ?_
          refine lv_lload_n S.1 S.2.1 dX1_findTops_68 rfl (lv_at hl 2 rfl) ?_
          refine lv_ldc2 S.1 S.2.1 S.2.2.2.1 (S.2.2.2.2 _ mW184) dX1_findTops_69 ?_
          refine tpl (x' := lI 10) (by decide) ?_
          refine lv_lrem S.1 S.2.1 dX1_findTops_72 (by decide) ?_
          refine tpl (x' := lN (cd L k / 10 ^ t % 10)) (rem10 hb) ?_
          refine lv_l2i (v := nI (cd L k / 10 ^ t % 10)) S.1 S.2.1 dX1_findTops_73 (lN_i _) ?_
          refine va_mmax S.1 S.2.1 (S.2.2.1.trans hl.1.symm) S.2.2.2.1 (S.2.2.2.2 _ mW23) (S.2.2.2.2 _ mW24) (S.2.2.2.2 _ mW3) (S.2.2.2.2 _ mW25) (by decide) (by simp [Value.category]) (show 0 ≤ 0 by omega) (show 0 ≤ 0 by omega) dX1_findTops_74 ?_
          refine tpi (x' := nI (max (top (L.take k) (15 - t)) (cd L k / 10 ^ t % 10))) (mx_nI (top_lt _ _) (by omega)) ?_
          refine ast_i S hK hH h3 (by omega) (by omega) dX1_findTops_77 (fun w2 H locs h3 fr hH => ?_)
          replace h0 := (fr (a) (by omega)).trans h0
          replace h1 := (fr (a + 1) (by omega)).trans h1
          replace h2 := (fr (a + 2) (by omega)).trans h2
          replace hF : ∀ b, b ≠ a ∧ b ≠ a + 3 → w2 b = w b := fun b hb => (fr b (by omega)).trans (hF b hb)
          refine lv_lload_n S.1 S.2.1 dX1_findTops_78 rfl (lv_at hl 2 rfl) ?_
          refine lv_ldc2 S.1 S.2.1 S.2.2.2.1 (S.2.2.2.2 _ mW184) dX1_findTops_79 ?_
          refine tpl (x' := lI 10) (by decide) ?_
          refine lv_ldiv S.1 S.2.1 dX1_findTops_82 (by decide) ?_
          refine tpl (x' := lN (cd L k / 10 ^ (t + 1))) (div10b hb) ?_
          refine lv_lstore_n (lv' := [(2, .long (lN (cd L k / 10 ^ (t + 1)))), (0, .ref (a)), (1, .int (nI k)), (4, .int (iI (15 - (t : Int))))]) S.1 S.2.1 dX1_findTops_83 rfl hl (by decide) rfl (fun ls hl => ?_)
          refine lv_iinc (v := iI (15 - ((t + 1 : Nat) : Int))) (lv' := [(4, .int (iI (15 - ((t + 1 : Nat) : Int)))), (2, .long (lN (cd L k / 10 ^ (t + 1)))), (0, .ref (a)), (1, .int (nI k))]) S.1 S.2.1 dX1_findTops_84 hl (k := 3) rfl (iI_dec t) (by decide) rfl (fun ls hl => ?_)
          refine lv_goto (tgt := 50) S.1 S.2.1 dX1_findTops_87 (by decide) ?_
          exact ih50 _ _ _ _ (by omega) ⟨t + 1, _, w2, lv_sub hl [2, 3, 1, 0] rfl, hH, h0, h1, h2, h3, hF, by omega, fun u h1 h2 => by rw [pk_un (by omega)]; exact hi1 u h1 (by omega), fun u h1 h2 => tp_set c36 ht hi2 u h1 h2, rfl⟩
    · skip
      refine lv_aload_n S.1 S.2.1 dX1_findTops_16 rfl (lv_at hl 0 rfl) ?_
      refine gfX1_32 S hK hH h0 dX1_findTops_17 ?_
      refine lv_iload_n S.1 S.2.1 dX1_findTops_20 rfl (lv_at hl 1 rfl) ?_
      refine lv_iconst (v := nI 0) S.1 S.2.1 dX1_findTops_21 (by decide) ?_
      refine ast_i S hK hH h3 (by omega) (by omega) dX1_findTops_22 (fun w3 H locs h3 fr hH => ?_)
      replace h0 := (fr (a) (by omega)).trans h0
      replace h1 := (fr (a + 1) (by omega)).trans h1
      replace h2 := (fr (a + 2) (by omega)).trans h2
      replace hF : ∀ b, b ≠ a ∧ b ≠ a + 3 → w3 b = w b := fun b hb => (fr b (by omega)).trans (hF b hb)
      refine lv_iinc (v := nI (i + 1)) (lv' := [(1, .int (nI (i + 1))), (0, .ref (a))]) S.1 S.2.1 dX1_findTops_23 hl (k := 1) rfl (nI_inc _ 1) (by decide) rfl (fun ls hl => ?_)
      refine lv_goto (tgt := 10) S.1 S.2.1 dX1_findTops_26 (by decide) ?_
      exact ih10 _ _ _ _ (by omega) ⟨i + 1, _, w3, lv_sub hl [1, 0] rfl, hH, h0, h1, h2, h3, hF, c13, lt_s (fun t h => by rw [pk_un (by omega)]; exact hz t h) pk_us, rfl⟩
  · skip
    have htk1 : tk = 1 := h8.resolve_left c4
    exact rt_v S hr hlk hH dX1_findTops_7 (⟨rfl, hF, tp, ⟨f, g, by rw [← htk1]; exact h0, h1, h2, h3, h4, h5, h6, h7, Or.inr rfl⟩, htk htk1⟩)
end
section
/-- a Poly with a right picture of its tops, if it has one -/
def PolyAt (G : Gx) (w : Wm) (a cap : Nat) (L : PL) : Prop := ∃ (tk : Int32) (tp : Nat → Int32), PolyC G w a cap L tk tp ∧ (tk = 1 → ∀ t, t < 16 → tp t = nI (top L t))
def TopsAt (G : Gx) (w : Wm) (a cap : Nat) (L : PL) : Prop := ∃ (tp : Nat → Int32), PolyC G w a cap L 1 tp ∧ ∀ t, t < 16 → tp t = nI (top L t)
theorem PolyAt.kept {G : Gx} {w w' : Wm} {a cap : Nat} {L : PL} (h : PolyAt G w a cap L) (hf : ∀ b, a ≤ b → b < a + 4 → w' b = w b) : PolyAt G w' a cap L := by
  obtain ⟨k, q, h1, h2⟩ := h
  exact ⟨k, q, h1.kept hf, h2⟩
theorem PolyAt.after {G : Gx} {w w1 : Wm} {x y cx cy : Nat} {X Y : PL} {tp : Nat → Int32} (hy : PolyAt G w y cy Y) (hx : PolyC G w1 x cx X 1 tp) (ht : ∀ t, t < 16 → tp t = nI (top X t)) (hfr : ∀ b, (b ≠ x ∧ b ≠ x + 3) → w1 b = w b) (hxy : (x = y ∧ cx = cy ∧ X = Y) ∨ x + 4 ≤ y ∨ y + 4 ≤ x) : PolyAt G w1 y cy Y := by
  rcases hxy with ⟨rfl, rfl, rfl⟩ | h
  · exact ⟨_, _, hx, fun _ => ht⟩
  · exact hy.kept (fun b h3 h4 => hfr b (by omega))
theorem TopsAt.after {G : Gx} {w w1 : Wm} {x y cx cy : Nat} {X Y : PL} {tp : Nat → Int32} (hx : TopsAt G w x cx X) (hy : PolyC G w1 y cy Y 1 tp) (ht : ∀ t, t < 16 → tp t = nI (top Y t)) (hfr : ∀ b, (b ≠ y ∧ b ≠ y + 3) → w1 b = w b) (hxy : (x = y ∧ cx = cy ∧ X = Y) ∨ x + 4 ≤ y ∨ y + 4 ≤ x) : TopsAt G w1 x cx X := by
  rcases hxy with ⟨rfl, rfl, rfl⟩ | h
  · exact ⟨_, hy, ht⟩
  · obtain ⟨q, h1, h2⟩ := hx
    exact ⟨q, h1.kept (fun b h3 h4 => hfr b (by omega)), h2⟩
/-- the next term of a sum, and what is left -/
def nxt (sg : Int) : PL → PL → (Nat × Int) × PL × PL
  | [], [] => ((0, 0), [], [])
  | x :: X, [] => ((x.1, 0 + x.2), X, [])
  | [], y :: Y => ((y.1, 0 + sg * y.2), [], Y)
  | x :: X, y :: Y => if x.1 = y.1 then ((x.1, 0 + x.2 + sg * y.2), X, Y) else if y.1 < x.1 then ((x.1, 0 + x.2), X, y :: Y) else ((y.1, 0 + sg * y.2), x :: X, Y)
def tsum (cap : Nat) (sg : Int) : Nat → PL → PL → PL → Option PL
  | 0, acc, _, _ => some acc
  | f + 1, acc, X, Y => if X.length = 0 ∧ Y.length = 0 then some acc else (app cap acc (nxt sg X Y).1.1 (nxt sg X Y).1.2).bind (fun a => tsum cap sg f a (nxt sg X Y).2.1 (nxt sg X Y).2.2)
theorem ts_cases {X Y : PL} {i j : Nat} (h : i < X.length ∨ j < Y.length) : (i < X.length ∧ Y.length ≤ j) ∨ (X.length ≤ i ∧ j < Y.length) ∨ (i < X.length ∧ j < Y.length ∧ cd Y j < cd X i) ∨ (i < X.length ∧ j < Y.length ∧ cd X i = cd Y j) ∨ (i < X.length ∧ j < Y.length ∧ cd X i < cd Y j) := by omega
theorem sg_b {sg z : Int} (h : sg = 1 ∨ sg = -1) (hz : -2147483648 ≤ z ∧ z < 2147483648) : -2147483648 ≤ sg * z ∧ sg * z ≤ 2147483648 := by
  rcases h with rfl | rfl <;> omega
section NX
variable {sg : Int} {X Y : PL} {i j : Nat}
theorem nxtA (hi : i < X.length) (hj : Y.length ≤ j) : nxt sg (X.drop i) (Y.drop j) = ((cd X i, 0 + cf X i), X.drop (i + 1), Y.drop j) := by
  rw [drop_cd hi, List.drop_of_length_le hj]; rfl
theorem nxtB (hi : X.length ≤ i) (hj : j < Y.length) : nxt sg (X.drop i) (Y.drop j) = ((cd Y j, 0 + sg * cf Y j), X.drop i, Y.drop (j + 1)) := by
  rw [drop_cd hj, List.drop_of_length_le hi]; rfl
theorem nxtC (hi : i < X.length) (hj : j < Y.length) (hc : cd Y j < cd X i) : nxt sg (X.drop i) (Y.drop j) = ((cd X i, 0 + cf X i), X.drop (i + 1), Y.drop j) := by
  rw [drop_cd hi, drop_cd hj]
  simp only [nxt]
  rw [if_neg (by omega), if_pos hc]
theorem nxtD (hi : i < X.length) (hj : j < Y.length) (hc : cd X i = cd Y j) : nxt sg (X.drop i) (Y.drop j) = ((cd X i, 0 + cf X i + sg * cf Y j), X.drop (i + 1), Y.drop (j + 1)) := by
  rw [drop_cd hi, drop_cd hj]
  simp only [nxt]
  rw [if_pos hc]
theorem nxtE (hi : i < X.length) (hj : j < Y.length) (hc : cd X i < cd Y j) : nxt sg (X.drop i) (Y.drop j) = ((cd Y j, 0 + sg * cf Y j), X.drop i, Y.drop (j + 1)) := by
  rw [drop_cd hi, drop_cd hj]
  simp only [nxt]
  rw [if_neg (by omega), if_neg (by omega)]
theorem tsum_some {cap u b c : Nat} {k : Int} {acc L' X2 Y2 : PL} (hu : u < b) (hne : i < X.length ∨ j < Y.length) (hn : nxt sg (X.drop i) (Y.drop j) = ((c, k), X2, Y2)) (ha : app cap acc c k = some L') : tsum cap sg (b - u) acc (X.drop i) (Y.drop j) = tsum cap sg (b - (u + 1)) L' X2 Y2 := by
  rw [show b - u = (b - (u + 1)) + 1 by omega, tsum, if_neg (by rw [List.length_drop, List.length_drop]; omega), hn]
  simp [ha]
theorem tsum_none {cap u b c : Nat} {k : Int} {acc X2 Y2 : PL} (hu : u < b) (hne : i < X.length ∨ j < Y.length) (hn : nxt sg (X.drop i) (Y.drop j) = ((c, k), X2, Y2)) (ha : app cap acc c k = none) : tsum cap sg (b - u) acc (X.drop i) (Y.drop j) = none := by
  rw [show b - u = (b - (u + 1)) + 1 by omega, tsum, if_neg (by rw [List.length_drop, List.length_drop]; omega), hn]
  simp [ha]
theorem tsum_end {cap f : Nat} {acc : PL} (hi : X.length ≤ i) (hj : Y.length ≤ j) : tsum cap sg f acc (X.drop i) (Y.drop j) = some acc := by
  cases f with
  | zero => rfl
  | succ f => rw [tsum, if_pos (by rw [List.length_drop, List.length_drop]; omega)]
end NX

set_option maxHeartbeats 4000000 in
set_option maxRecDepth 100000 in
theorem kX1_takeTops {l : Launch} {G : Gx} {B : Nat} {w : Wm} {n : Nat} (t x y cap cx cy : Nat) (L X Y : PL) (tk : Int32) (tp : Nat → Int32) (ht : PolyC G w t cap L tk tp) (hx : PolyAt G w x cx X) (hy : PolyAt G w y cy Y) (htx : t + 4 ≤ x ∨ x + 4 ≤ t) (hty : t + 4 ≤ y ∨ y + 4 ≤ t) (hxy : (x = y ∧ cx = cy ∧ X = Y) ∨ x + 4 ≤ y ∨ y + 4 ≤ x) (okx : (∀ j, j < X.length → cd X j < 4611686018427387904)) (oky : (∀ j, j < Y.length → cd Y j < 4611686018427387904)) : Met l yX1_takeTops (wsM yX1_takeTops cX1_takeTops 4 (some .boolean)) ({ frames := 2, cells := 0, slots := 0, locals := 45 } : Room) (Pcx G B w n [.ref (t), .ref (x), .ref (y)]) (Qi G B (fun r w' n' => n' = n ∧ (∀ b, (b ≠ x ∧ b ≠ x + 3 ∧ b ≠ y ∧ b ≠ y + 3 ∧ b ≠ t ∧ b ≠ t + 3) → w' b = w b) ∧ PolyAt G w' x cx X ∧ PolyAt G w' y cy Y ∧ ((r = 1 ∧ (∀ u, u < 16 → top X u + top Y u ≤ 9) ∧ ∃ tq, PolyC G w' t cap L 1 tq ∧ ∀ u, u < 16 → tq u = nI (top X u + top Y u)) ∨ (r = 0 ∧ (∃ u, u < 16 ∧ 9 < top X u + top Y u) ∧ ∃ tq, PolyC G w' t cap L tk tq)))) 0 0 (FA B) := by
  refine en (by decide) (Nat.le_of_ble_eq_true rfl) ?_
  intro p ev s mm ag bl mt co S hr hlk hnm hK H hH ls hl
  have hl : lv_has ls 4 [(0, .ref (t)), (1, .ref (x)), (2, .ref (y))] := hl
  obtain ⟨kx, px, hx1, hx2⟩ := hx
  have hF : ∀ b, b ≠ x ∧ b ≠ x + 3 ∧ b ≠ y ∧ b ≠ y + 3 ∧ b ≠ t ∧ b ≠ t + 3 → w b = w b := fun _ _ => rfl
  refine lv_aload_n S.1 S.2.1 dX1_takeTops_0 rfl (lv_at hl 1 rfl) ?_
  refine ck_v (run_V (As := []) (rest := []) S hK hH (kX1_findTops x cx X kx px hx1 hx2 okx) ceX1_findTops mW180 hx1.ob rfl rfl hl.1 rfl (Nat.le_of_ble_eq_true rfl) dX1_takeTops_1 ⟨rfl, rfl, by decide, by decide⟩ ⟨show 0 + 0 ≤ 0 by omega, show 0 + 0 ≤ 0 by omega⟩) hH (fun w1 n1 H locs hp hH => ?_)
  obtain ⟨hn1, hfr, hq⟩ := hp
  rw [hn1] at hH
  obtain ⟨px1, hx1, hx2⟩ := hq
  have hy := hy.after hx1 hx2 hfr hxy
  have ht := ht.kept (fun b h1 h2 => hfr b (by omega))
  have hx : TopsAt G w1 x cx X := ⟨_, hx1, hx2⟩
  obtain ⟨ky, py, hy1, hy2⟩ := hy
  replace hF : ∀ b, b ≠ x ∧ b ≠ x + 3 ∧ b ≠ y ∧ b ≠ y + 3 ∧ b ≠ t ∧ b ≠ t + 3 → w1 b = w b := fun b hb => (hfr b (by omega)).trans (hF b hb)
  refine lv_aload_n S.1 S.2.1 dX1_takeTops_4 rfl (lv_at hl 2 rfl) ?_
  refine ck_v (run_V (As := []) (rest := []) S hK hH (kX1_findTops y cy Y ky py hy1 hy2 oky) ceX1_findTops mW180 hy1.ob rfl rfl hl.1 rfl (Nat.le_of_ble_eq_true rfl) dX1_takeTops_5 ⟨rfl, rfl, by decide, by decide⟩ ⟨show 0 + 0 ≤ 0 by omega, show 0 + 0 ≤ 0 by omega⟩) hH (fun w2 n2 H locs hp hH => ?_)
  obtain ⟨hn1, hfr, hq⟩ := hp
  rw [hn1] at hH
  obtain ⟨py1, hy1, hy2⟩ := hq
  have ht := ht.kept (fun b h1 h2 => hfr b (by omega))
  have hx := hx.after hy1 hy2 hfr hxy
  obtain ⟨tx, hx1, hx2⟩ := hx
  obtain ⟨f, g, h0, h1, h2, h3, h4, h5, h6, h7, h8⟩ := ht
  obtain ⟨fx, gx, hx0, hxa, hxb, hx3, hx4, hx5, hx6, hx7, hx8⟩ := hx1
  obtain ⟨fy, gy, hy0, hya, hyb, hy3, hy4, hy5, hy6, hy7, hy8⟩ := hy1
  replace hF : ∀ b, b ≠ x ∧ b ≠ x + 3 ∧ b ≠ y ∧ b ≠ y + 3 ∧ b ≠ t ∧ b ≠ t + 3 → w2 b = w b := fun b hb => (hfr b (by omega)).trans (hF b hb)
  refine lv_iconst (v := nI 0) S.1 S.2.1 dX1_takeTops_8 (by decide) ?_
  refine lv_istore_n (lv' := [(3, .int (nI 0)), (0, .ref (t)), (1, .ref (x)), (2, .ref (y))]) S.1 S.2.1 dX1_takeTops_9 rfl hl (by decide) rfl (fun ls hl => ?_)
  refine wlp (P := fun k_ ls H' locs' => ∃ (i : Nat) (tq : Nat → Int32) (v : Wm), lv_has ls 4 [(0, .ref (t)), (1, .ref (x)), (2, .ref (y)), (3, .int (nI i))] ∧ HS G B v (n) s H' locs' ∧ v (t) = some (eO 1 [.ref (t + 1), .ref (t + 2), .int (nI L.length), .ref (t + 3), .int (tk)]) ∧ v (t + 1) = some (eJ G (cap) (f)) ∧ v (t + 2) = some (eI G (cap) (g)) ∧ v (t + 3) = some (eI G (16) (tq)) ∧ v (x) = some (eO 1 [.ref (x + 1), .ref (x + 2), .int (nI X.length), .ref (x + 3), .int (1)]) ∧ v (x + 3) = some (eI G (16) (tx)) ∧ v (x + 1) = some (eJ G (cx) (fx)) ∧ v (x + 2) = some (eI G (cx) (gx)) ∧ v (y) = some (eO 1 [.ref (y + 1), .ref (y + 2), .int (nI Y.length), .ref (y + 3), .int (1)]) ∧ v (y + 3) = some (eI G (16) (py1)) ∧ v (y + 1) = some (eJ G (cy) (fy)) ∧ v (y + 2) = some (eI G (cy) (gy)) ∧ (∀ b, b ≠ x ∧ b ≠ x + 3 ∧ b ≠ y ∧ b ≠ y + 3 ∧ b ≠ t ∧ b ≠ t + 3 → v b = w b) ∧ (i ≤ 16) ∧ (∀ u, u < i → tq u = nI (top X u + top Y u) ∧ top X u + top Y u ≤ 9) ∧ k_ = 16 - i) ?_ (k0 := 16 - (0)) ⟨0, tp, w2, lv_sub hl [1, 2, 3, 0] rfl, hH, h0, h1, h2, h3, hx0, hx3, hxa, hxb, hy0, hy3, hya, hyb, hF, by omega, fun u h => absurd h (Nat.not_lt_zero u), rfl⟩
  intro k10 ls H locs hP ih10
  obtain ⟨i, tq, v, hl, hH, h0, h1, h2, h3, hx0, hx3, hxa, hxb, hy0, hy3, hya, hyb, hF, hi, hs, hk10⟩ := hP
  refine lv_iload_n S.1 S.2.1 dX1_takeTops_10 rfl (lv_at hl 3 rfl) ?_
  refine lv_bipush (v := nI 16) S.1 S.2.1 dX1_takeTops_11 (by decide) ?_
  refine bn_ge (tgt := 54) S dX1_takeTops_13 (by decide) (by omega) (fun c13 => ?_) (fun c13 => ?_)
  · skip
    refine lv_aload_n S.1 S.2.1 dX1_takeTops_54 rfl (lv_at hl 0 rfl) ?_
    refine lv_iconst (v := nI 1) S.1 S.2.1 dX1_takeTops_55 (by decide) ?_
    refine pfX1_35 S hK hH h0 (by decide) dX1_takeTops_56 (fun w3 H locs h0 fr hH => ?_)
    replace h1 := (fr (t + 1) (by omega)).trans h1
    replace h2 := (fr (t + 2) (by omega)).trans h2
    replace h3 := (fr (t + 3) (by omega)).trans h3
    replace hx0 := (fr (x) (by omega)).trans hx0
    replace hx3 := (fr (x + 3) (by omega)).trans hx3
    replace hxa := (fr (x + 1) (by omega)).trans hxa
    replace hxb := (fr (x + 2) (by omega)).trans hxb
    replace hy0 := (fr (y) (by omega)).trans hy0
    replace hy3 := (fr (y + 3) (by omega)).trans hy3
    replace hya := (fr (y + 1) (by omega)).trans hya
    replace hyb := (fr (y + 2) (by omega)).trans hyb
    replace hF : ∀ b, b ≠ x ∧ b ≠ x + 3 ∧ b ≠ y ∧ b ≠ y + 3 ∧ b ≠ t ∧ b ≠ t + 3 → w3 b = w b := fun b hb => (fr b (by omega)).trans (hF b hb)
    refine lv_iconst (v := nI 1) S.1 S.2.1 dX1_takeTops_59 (by decide) ?_
    have hxx : PolyAt G w3 x cx X := ⟨1, tx, ⟨fx, gx, hx0, hxa, hxb, hx3, hx4, hx5, hx6, hx7, hx8⟩, fun _ => hx2⟩
    have hyy : PolyAt G w3 y cy Y := ⟨1, py1, ⟨fy, gy, hy0, hya, hyb, hy3, hy4, hy5, hy6, hy7, hy8⟩, fun _ => hy2⟩
    exact rt_z S hr hlk hH dX1_takeTops_60 (by decide) (⟨rfl, hF, hxx, hyy, Or.inl ⟨rfl, fun u hu => (hs u (by omega)).2, _, ⟨f, g, h0, h1, h2, h3, h4, h5, h6, h7, Or.inr rfl⟩, fun u hu => (hs u (by omega)).1⟩⟩)
  · skip
    refine lv_aload_n S.1 S.2.1 dX1_takeTops_16 rfl (lv_at hl 0 rfl) ?_
    refine gfX1_32 S hK hH h0 dX1_takeTops_17 ?_
    refine lv_iload_n S.1 S.2.1 dX1_takeTops_20 rfl (lv_at hl 3 rfl) ?_
    refine lv_aload_n S.1 S.2.1 dX1_takeTops_21 rfl (lv_at hl 1 rfl) ?_
    refine gfX1_32 S hK hH hx0 dX1_takeTops_22 ?_
    refine lv_iload_n S.1 S.2.1 dX1_takeTops_25 rfl (lv_at hl 3 rfl) ?_
    refine ald_i S hK hH hx3 (by omega) (by omega) dX1_takeTops_26 ?_
    refine tpi (x' := nI (top X i)) (hx2 i c13) ?_
    refine lv_aload_n S.1 S.2.1 dX1_takeTops_27 rfl (lv_at hl 2 rfl) ?_
    refine gfX1_32 S hK hH hy0 dX1_takeTops_28 ?_
    refine lv_iload_n S.1 S.2.1 dX1_takeTops_31 rfl (lv_at hl 3 rfl) ?_
    refine ald_i S hK hH hy3 (by omega) (by omega) dX1_takeTops_32 ?_
    refine tpi (x' := nI (top Y i)) (hy2 i c13) ?_
    refine lv_iadd S.1 S.2.1 dX1_takeTops_33 ?_
    refine tpi (x' := nI (top X i + top Y i)) (nI_add _ _) ?_
    refine ast_i S hK hH h3 (by omega) (by omega) dX1_takeTops_34 (fun w4 H locs h3 fr hH => ?_)
    replace h0 := (fr (t) (by omega)).trans h0
    replace h1 := (fr (t + 1) (by omega)).trans h1
    replace h2 := (fr (t + 2) (by omega)).trans h2
    replace hx0 := (fr (x) (by omega)).trans hx0
    replace hx3 := (fr (x + 3) (by omega)).trans hx3
    replace hxa := (fr (x + 1) (by omega)).trans hxa
    replace hxb := (fr (x + 2) (by omega)).trans hxb
    replace hy0 := (fr (y) (by omega)).trans hy0
    replace hy3 := (fr (y + 3) (by omega)).trans hy3
    replace hya := (fr (y + 1) (by omega)).trans hya
    replace hyb := (fr (y + 2) (by omega)).trans hyb
    replace hF : ∀ b, b ≠ x ∧ b ≠ x + 3 ∧ b ≠ y ∧ b ≠ y + 3 ∧ b ≠ t ∧ b ≠ t + 3 → w4 b = w b := fun b hb => (fr b (by omega)).trans (hF b hb)
    refine lv_aload_n S.1 S.2.1 dX1_takeTops_35 rfl (lv_at hl 0 rfl) ?_
    refine gfX1_32 S hK hH h0 dX1_takeTops_36 ?_
    refine lv_iload_n S.1 S.2.1 dX1_takeTops_39 rfl (lv_at hl 3 rfl) ?_
    refine ald_i S hK hH h3 (by omega) (by omega) dX1_takeTops_40 ?_
    refine tpi (x' := nI (top X i + top Y i)) (pk_us) ?_
    refine lv_bipush (v := nI 9) S.1 S.2.1 dX1_takeTops_41 (by decide) ?_
    have hz1 := top_lt X i
    have hz2 := top_lt Y i
    refine bn_le (tgt := 48) S dX1_takeTops_43 (by decide) (by omega) (fun c43 => ?_) (fun c43 => ?_)
    · skip
      refine lv_iinc (v := nI (i + 1)) (lv' := [(3, .int (nI (i + 1))), (0, .ref (t)), (1, .ref (x)), (2, .ref (y))]) S.1 S.2.1 dX1_takeTops_48 hl (k := 3) rfl (nI_inc _ 1) (by decide) rfl (fun ls hl => ?_)
      refine lv_goto (tgt := 10) S.1 S.2.1 dX1_takeTops_51 (by decide) ?_
      exact ih10 _ _ _ _ (by omega) ⟨i + 1, _, w4, lv_sub hl [1, 2, 3, 0] rfl, hH, h0, h1, h2, h3, hx0, hx3, hxa, hxb, hy0, hy3, hya, hyb, hF, c13, lt_s (fun u h => by rw [pk_un (by omega)]; exact hs u h) ⟨pk_us, c43⟩, rfl⟩
    · skip
      refine lv_iconst (v := nI 0) S.1 S.2.1 dX1_takeTops_46 (by decide) ?_
      have hxx : PolyAt G w4 x cx X := ⟨1, tx, ⟨fx, gx, hx0, hxa, hxb, hx3, hx4, hx5, hx6, hx7, hx8⟩, fun _ => hx2⟩
      have hyy : PolyAt G w4 y cy Y := ⟨1, py1, ⟨fy, gy, hy0, hya, hyb, hy3, hy4, hy5, hy6, hy7, hy8⟩, fun _ => hy2⟩
      exact rt_z S hr hlk hH dX1_takeTops_47 (by decide) (⟨rfl, hF, hxx, hyy, Or.inr ⟨rfl, ⟨i, c13, c43⟩, _, f, g, h0, h1, h2, h3, h4, h5, h6, h7, h8⟩⟩)

set_option maxHeartbeats 4000000 in
set_option maxRecDepth 100000 in
theorem kX1_takeSum {l : Launch} {G : Gx} {B : Nat} {w : Wm} {n : Nat} (t x y cx cy : Nat) (L X Y : PL) (sg : Int) (tk kx ky : Int32) (tp px py : Nat → Int32) (ht : PolyC G w t 60 L tk tp) (hx : PolyC G w x cx X kx px) (hy : PolyC G w y cy Y ky py) (htx : t + 4 ≤ x ∨ x + 4 ≤ t) (hty : t + 4 ≤ y ∨ y + 4 ≤ t) (okx : (∀ j, j < X.length → cd X j < 4611686018427387904 ∧ -2147483648 ≤ cf X j ∧ cf X j < 2147483648)) (oky : (∀ j, j < Y.length → cd Y j < 4611686018427387904 ∧ -2147483648 ≤ cf Y j ∧ cf Y j < 2147483648)) (hsg : sg = 1 ∨ sg = -1) : Met l yX1_takeSum (wsM yX1_takeSum cX1_takeSum 14 (some .boolean)) ({ frames := 1, cells := 0, slots := 0, locals := 24 } : Room) (Pcx G B w n [.ref (t), .ref (x), .ref (y), .int (iI sg)]) (Qi G B (fun r w' n' => n' = n ∧ (∀ b, (b < t ∨ t + 3 ≤ b) → w' b = w b) ∧ ((r = 1 ∧ ∃ L', tsum 60 sg (X.length + Y.length) [] X Y = some L' ∧ PolyC G w' t 60 L' 0 tp) ∨ (r = 0 ∧ tsum 60 sg (X.length + Y.length) [] X Y = none ∧ ∃ L', PolyC G w' t 60 L' 0 tp)))) 0 0 (FA B) := by
  refine en (by decide) (Nat.le_of_ble_eq_true rfl) ?_
  intro p ev s mm ag bl mt co S hr hlk hnm hK H hH ls hl
  have hl : lv_has ls 14 [(0, .ref (t)), (1, .ref (x)), (2, .ref (y)), (3, .int (iI sg))] := hl
  obtain ⟨fx, gx, hx0, hxa, hxb, hx3, hx4, hx5, hx6, hx7, hx8⟩ := hx
  obtain ⟨fy, gy, hy0, hya, hyb, hy3, hy4, hy5, hy6, hy7, hy8⟩ := hy
  have hF : ∀ b, b < t ∨ t + 3 ≤ b → w b = w b := fun _ _ => rfl
  refine lv_aload_n S.1 S.2.1 dX1_takeSum_0 rfl (lv_at hl 0 rfl) ?_
  refine ck_v (run_V (As := []) (rest := []) S hK hH (kX1_clear t 60 L tk tp ht) ceX1_clear mW159 ht.ob rfl rfl hl.1 rfl (Nat.le_of_ble_eq_true rfl) dX1_takeSum_1 ⟨rfl, rfl, by decide, by decide⟩ ⟨show 0 + 0 ≤ 0 by omega, show 0 + 0 ≤ 0 by omega⟩) hH (fun w1 n1 H locs hp hH => ?_)
  obtain ⟨hn1, hfr, hpc⟩ := hp
  rw [hn1] at hH
  replace hx0 := (hfr (x) (by omega)).trans hx0
  replace hxa := (hfr (x + 1) (by omega)).trans hxa
  replace hxb := (hfr (x + 2) (by omega)).trans hxb
  replace hy0 := (hfr (y) (by omega)).trans hy0
  replace hya := (hfr (y + 1) (by omega)).trans hya
  replace hyb := (hfr (y + 2) (by omega)).trans hyb
  replace hF : ∀ b, b < t ∨ t + 3 ≤ b → w1 b = w b := fun b hb => (hfr b (by omega)).trans (hF b hb)
  refine lv_iconst (v := nI 0) S.1 S.2.1 dX1_takeSum_4 (by decide) ?_
  refine lv_istore (lv' := [(4, .int (nI 0)), (0, .ref (t)), (1, .ref (x)), (2, .ref (y)), (3, .int (iI sg))]) S.1 S.2.1 dX1_takeSum_5 hl (by decide) rfl (fun ls hl => ?_)
  refine lv_iconst (v := nI 0) S.1 S.2.1 dX1_takeSum_7 (by decide) ?_
  refine lv_istore (lv' := [(5, .int (nI 0)), (4, .int (nI 0)), (0, .ref (t)), (1, .ref (x)), (2, .ref (y)), (3, .int (iI sg))]) S.1 S.2.1 dX1_takeSum_8 hl (by decide) rfl (fun ls hl => ?_)
  refine lv_aload_n S.1 S.2.1 dX1_takeSum_10 rfl (lv_at hl 3 rfl) ?_
  refine gfX1_28 S hK hH hx0 dX1_takeSum_11 ?_
  refine lv_aload_n S.1 S.2.1 dX1_takeSum_14 rfl (lv_at hl 4 rfl) ?_
  refine gfX1_28 S hK hH hy0 dX1_takeSum_15 ?_
  refine lv_iadd S.1 S.2.1 dX1_takeSum_18 ?_
  refine tpi (x' := nI (X.length + Y.length)) (nI_add _ _) ?_
  refine lv_istore (lv' := [(6, .int (nI (X.length + Y.length))), (5, .int (nI 0)), (4, .int (nI 0)), (0, .ref (t)), (1, .ref (x)), (2, .ref (y)), (3, .int (iI sg))]) S.1 S.2.1 dX1_takeSum_19 hl (by decide) rfl (fun ls hl => ?_)
  refine lv_iconst (v := nI 0) S.1 S.2.1 dX1_takeSum_21 (by decide) ?_
  refine lv_istore (lv' := [(7, .int (nI 0)), (6, .int (nI (X.length + Y.length))), (5, .int (nI 0)), (4, .int (nI 0)), (0, .ref (t)), (1, .ref (x)), (2, .ref (y)), (3, .int (iI sg))]) S.1 S.2.1 dX1_takeSum_22 hl (by decide) rfl (fun ls hl => ?_)
  refine wlp (P := fun k_ ls H' locs' => ∃ (u i j : Nat) (acc : PL) (v : Wm), lv_has ls 14 [(0, .ref (t)), (1, .ref (x)), (2, .ref (y)), (3, .int (iI sg)), (4, .int (nI i)), (5, .int (nI j)), (6, .int (nI (X.length + Y.length))), (7, .int (nI u))] ∧ HS G B v (n) s H' locs' ∧ v (x) = some (eO 1 [.ref (x + 1), .ref (x + 2), .int (nI X.length), .ref (x + 3), .int (kx)]) ∧ v (x + 1) = some (eJ G (cx) (fx)) ∧ v (x + 2) = some (eI G (cx) (gx)) ∧ v (y) = some (eO 1 [.ref (y + 1), .ref (y + 2), .int (nI Y.length), .ref (y + 3), .int (ky)]) ∧ v (y + 1) = some (eJ G (cy) (fy)) ∧ v (y + 2) = some (eI G (cy) (gy)) ∧ (PolyC G v t 60 acc 0 tp) ∧ (∀ b, b < t ∨ t + 3 ≤ b → v b = w b) ∧ (u ≤ X.length + Y.length) ∧ (i ≤ X.length) ∧ (j ≤ Y.length) ∧ (tsum 60 sg (X.length + Y.length) [] X Y = tsum 60 sg (X.length + Y.length - u) acc (X.drop i) (Y.drop j)) ∧ k_ = X.length + Y.length - u) ?_ (k0 := X.length + Y.length - (0)) ⟨0, 0, 0, [], w1, lv_sub hl [4, 5, 6, 7, 3, 2, 1, 0] rfl, hH, hx0, hxa, hxb, hy0, hya, hyb, hpc, hF, by omega, by omega, by omega, rfl, rfl⟩
  intro k24 ls H locs hP ih24
  obtain ⟨u, i, j, acc, v, hl, hH, hx0, hxa, hxb, hy0, hya, hyb, hpc, hF, hu, hi0, hj0, hts, hk24⟩ := hP
  refine lv_iload S.1 S.2.1 dX1_takeSum_24 (lv_at hl 7 rfl) ?_
  refine lv_iload S.1 S.2.1 dX1_takeSum_26 (lv_at hl 6 rfl) ?_
  refine bn_ge (tgt := 226) S dX1_takeSum_28 (by decide) (by omega) (fun c28 => ?_) (fun c28 => ?_)
  · skip
    refine lv_iconst (v := nI 1) S.1 S.2.1 dX1_takeSum_226 (by decide) ?_
    exact rt_z S hr hlk hH dX1_takeSum_227 (by decide) (⟨rfl, hF, Or.inl ⟨rfl, acc, by rw [hts, show X.length + Y.length - u = 0 by omega]; rfl, hpc⟩⟩)
  · skip
    refine lv_iload S.1 S.2.1 dX1_takeSum_31 (lv_at hl 4 rfl) ?_
    refine lv_aload_n S.1 S.2.1 dX1_takeSum_33 rfl (lv_at hl 1 rfl) ?_
    refine gfX1_28 S hK hH hx0 dX1_takeSum_34 ?_
    refine bn_lt (tgt := 49) S dX1_takeSum_37 (by decide) (by omega) (fun c37 => ?_) (fun c37 => ?_)
    · skip
      rcases ts_cases (X := X) (Y := Y) (i := i) (j := j) (by omega) with ⟨hi, hj⟩ | ⟨hi, hj⟩ | ⟨hi, hj, hc⟩ | ⟨hi, hj, hc⟩ | ⟨hi, hj, hc⟩
      · skip
        have hbx := okx i hi
        refine lv_iload S.1 S.2.1 dX1_takeSum_49 (lv_at hl 4 rfl) ?_
        refine lv_aload_n S.1 S.2.1 dX1_takeSum_51 rfl (lv_at hl 1 rfl) ?_
        refine gfX1_28 S hK hH hx0 dX1_takeSum_52 ?_
        refine bn_ge (tgt := 89) S dX1_takeSum_55 (by decide) (by omega) (fun c55 => ?_) (fun c55 => ?_)
        · skip
          exfalso; omega
        · skip
          refine lv_iload S.1 S.2.1 dX1_takeSum_58 (lv_at hl 5 rfl) ?_
          refine lv_aload_n S.1 S.2.1 dX1_takeSum_60 rfl (lv_at hl 2 rfl) ?_
          refine gfX1_28 S hK hH hy0 dX1_takeSum_61 ?_
          refine bn_ge (tgt := 85) S dX1_takeSum_64 (by decide) (by omega) (fun c64 => ?_) (fun c64 => ?_)
          · skip
            refine lv_iconst (v := nI 1) S.1 S.2.1 dX1_takeSum_85 (by decide) ?_
            refine lv_goto (tgt := 90) S.1 S.2.1 dX1_takeSum_86 (by decide) ?_
            refine lv_istore (lv' := [(8, .int (nI 1)), (0, .ref (t)), (1, .ref (x)), (2, .ref (y)), (3, .int (iI sg)), (4, .int (nI i)), (5, .int (nI j)), (6, .int (nI (X.length + Y.length))), (7, .int (nI u))]) S.1 S.2.1 dX1_takeSum_90 hl (by decide) rfl (fun ls hl => ?_)
            refine lv_iload S.1 S.2.1 dX1_takeSum_92 (lv_at hl 6 rfl) ?_
            refine lv_aload_n S.1 S.2.1 dX1_takeSum_94 rfl (lv_at hl 3 rfl) ?_
            refine gfX1_28 S hK hH hy0 dX1_takeSum_95 ?_
            refine bn_ge (tgt := 132) S dX1_takeSum_98 (by decide) (by omega) (fun c98 => ?_) (fun c98 => ?_)
            · skip
              refine lv_iconst (v := nI 0) S.1 S.2.1 dX1_takeSum_132 (by decide) ?_
              refine lv_istore (lv' := [(9, .int (nI 0)), (8, .int (nI 1)), (0, .ref (t)), (1, .ref (x)), (2, .ref (y)), (3, .int (iI sg)), (4, .int (nI i)), (5, .int (nI j)), (6, .int (nI (X.length + Y.length))), (7, .int (nI u))]) S.1 S.2.1 dX1_takeSum_133 hl (by decide) rfl (fun ls hl => ?_)
              refine lv_iload S.1 S.2.1 dX1_takeSum_135 (lv_at hl 1 rfl) ?_
              refine lv_if_eq (tgt := 150) S.1 S.2.1 dX1_takeSum_137 (by decide) (fun c137 => ?_) (fun c137 => ?_)
              · skip
                first | exact absurd c137 (by decide) | exact absurd rfl c137
              · skip
                refine lv_aload_n S.1 S.2.1 dX1_takeSum_140 rfl (lv_at hl 3 rfl) ?_
                refine gfX1_18 S hK hH hx0 dX1_takeSum_141 ?_
                refine lv_iload S.1 S.2.1 dX1_takeSum_144 (lv_at hl 6 rfl) ?_
                refine ald_l S hK hH hxa (by omega) (by omega) dX1_takeSum_146 ?_
                refine tpl (x' := lN (cd X i)) (hx6 i hi) ?_
                refine lv_goto (tgt := 157) S.1 S.2.1 dX1_takeSum_147 (by decide) ?_
                refine lv_lstore (lv' := [(10, .long (lN (cd X i))), (9, .int (nI 0)), (8, .int (nI 1)), (0, .ref (t)), (1, .ref (x)), (2, .ref (y)), (3, .int (iI sg)), (4, .int (nI i)), (5, .int (nI j)), (6, .int (nI (X.length + Y.length))), (7, .int (nI u))]) S.1 S.2.1 dX1_takeSum_157 hl (by decide) rfl (fun ls hl => ?_)
                refine lv_lconst (v := lI 0) S.1 S.2.1 dX1_takeSum_159 (by decide) ?_
                refine lv_lstore (lv' := [(12, .long (lI 0)), (10, .long (lN (cd X i))), (9, .int (nI 0)), (8, .int (nI 1)), (0, .ref (t)), (1, .ref (x)), (2, .ref (y)), (3, .int (iI sg)), (4, .int (nI i)), (5, .int (nI j)), (6, .int (nI (X.length + Y.length))), (7, .int (nI u))]) S.1 S.2.1 dX1_takeSum_160 hl (by decide) rfl (fun ls hl => ?_)
                refine lv_iload S.1 S.2.1 dX1_takeSum_162 (lv_at hl 3 rfl) ?_
                refine lv_if_eq (tgt := 183) S.1 S.2.1 dX1_takeSum_164 (by decide) (fun c164 => ?_) (fun c164 => ?_)
                · skip
                  first | exact absurd c164 (by decide) | exact absurd rfl c164
                · skip
                  refine lv_lload S.1 S.2.1 dX1_takeSum_167 (lv_at hl 0 rfl) ?_
                  refine lv_aload_n S.1 S.2.1 dX1_takeSum_169 rfl (lv_at hl 5 rfl) ?_
                  refine gfX1_24 S hK hH hx0 dX1_takeSum_170 ?_
                  refine lv_iload S.1 S.2.1 dX1_takeSum_173 (lv_at hl 8 rfl) ?_
                  refine ald_i S hK hH hxb (by omega) (by omega) dX1_takeSum_175 ?_
                  refine tpi (x' := iI (cf X i)) (hx7 i hi) ?_
                  refine lv_i2l (v := lI (cf X i)) S.1 S.2.1 dX1_takeSum_176 (iI_l (by omega)) ?_
                  refine lv_ladd S.1 S.2.1 dX1_takeSum_177 ?_
                  refine tpl (x' := lI ((0) + (cf X i))) (lI_add _ _) ?_
                  refine lv_lstore (lv' := [(12, .long (lI ((0) + (cf X i)))), (10, .long (lN (cd X i))), (9, .int (nI 0)), (8, .int (nI 1)), (0, .ref (t)), (1, .ref (x)), (2, .ref (y)), (3, .int (iI sg)), (4, .int (nI i)), (5, .int (nI j)), (6, .int (nI (X.length + Y.length))), (7, .int (nI u))]) S.1 S.2.1 dX1_takeSum_178 hl (by decide) rfl (fun ls hl => ?_)
                  refine lv_iinc (v := nI (i + 1)) (lv' := [(4, .int (nI (i + 1))), (12, .long (lI ((0) + (cf X i)))), (10, .long (lN (cd X i))), (9, .int (nI 0)), (8, .int (nI 1)), (0, .ref (t)), (1, .ref (x)), (2, .ref (y)), (3, .int (iI sg)), (5, .int (nI j)), (6, .int (nI (X.length + Y.length))), (7, .int (nI u))]) S.1 S.2.1 dX1_takeSum_180 hl (k := 8) rfl (nI_inc _ 1) (by decide) rfl (fun ls hl => ?_)
                  refine lv_iload S.1 S.2.1 dX1_takeSum_183 (lv_at hl 3 rfl) ?_
                  refine lv_if_eq (tgt := 207) S.1 S.2.1 dX1_takeSum_185 (by decide) (fun c185 => ?_) (fun c185 => ?_)
                  · skip
                    refine lv_aload_n S.1 S.2.1 dX1_takeSum_207 rfl (lv_at hl 5 rfl) ?_
                    refine lv_lload S.1 S.2.1 dX1_takeSum_208 (lv_at hl 2 rfl) ?_
                    refine lv_lload S.1 S.2.1 dX1_takeSum_210 (lv_at hl 1 rfl) ?_
                    refine ck_i (run_V (As := [.long (lN (cd X i)), .long (lI ((0) + (cf X i)))]) (rest := []) S hK hH (kX1_append t 60 (cd X i) acc ((0) + (cf X i)) 0 tp hpc (by omega)) ceX1_append mW130 hpc.ob rfl rfl hl.1 rfl (Nat.le_of_ble_eq_true rfl) dX1_takeSum_212 ⟨rfl, rfl, by decide, by decide⟩ ⟨show 0 + 0 ≤ 0 by omega, show 0 + 0 ≤ 0 by omega⟩) hH (fun r212 w2 n2 H locs hp hH => ?_)
                    obtain ⟨hn1, hfr, hq⟩ := hp
                    rw [hn1] at hH
                    replace hx0 := (hfr (x) (by omega)).trans hx0
                    replace hxa := (hfr (x + 1) (by omega)).trans hxa
                    replace hxb := (hfr (x + 2) (by omega)).trans hxb
                    replace hy0 := (hfr (y) (by omega)).trans hy0
                    replace hya := (hfr (y + 1) (by omega)).trans hya
                    replace hyb := (hfr (y + 2) (by omega)).trans hyb
                    replace hF : ∀ b, b < t ∨ t + 3 ≤ b → w2 b = w b := fun b hb => (hfr b (by omega)).trans (hF b hb)
                    refine lv_if_ne (tgt := 220) S.1 S.2.1 dX1_takeSum_215 (by decide) (fun c215 => ?_) (fun c215 => ?_)
                    · skip
                      rcases hq with ⟨_, L', e1, hpc⟩ | ⟨e1, _⟩
                      rotate_left
                      · exact absurd e1 c215
                      refine lv_iinc (v := nI (u + 1)) (lv' := [(7, .int (nI (u + 1))), (4, .int (nI (i + 1))), (12, .long (lI ((0) + (cf X i)))), (10, .long (lN (cd X i))), (9, .int (nI 0)), (8, .int (nI 1)), (0, .ref (t)), (1, .ref (x)), (2, .ref (y)), (3, .int (iI sg)), (5, .int (nI j)), (6, .int (nI (X.length + Y.length)))]) S.1 S.2.1 dX1_takeSum_220 hl (k := 11) rfl (nI_inc _ 1) (by decide) rfl (fun ls hl => ?_)
                      refine lv_goto (tgt := 24) S.1 S.2.1 dX1_takeSum_223 (by decide) ?_
                      exact ih24 _ _ _ _ (by omega) ⟨u + 1, i + 1, j, L', w2, lv_sub hl [6, 7, 8, 9, 1, 10, 11, 0] rfl, hH, hx0, hxa, hxb, hy0, hya, hyb, hpc, hF, by omega, by omega, by omega, hts.trans (tsum_some c28 (by omega) (nxtA hi hj) e1), rfl⟩
                    · skip
                      rcases hq with ⟨e1, _⟩ | ⟨_, e1, e2⟩
                      · rw [e1] at c215; exact absurd c215 (by decide)
                      refine lv_iconst (v := nI 0) S.1 S.2.1 dX1_takeSum_218 (by decide) ?_
                      rw [← e2] at hpc
                      exact rt_z S hr hlk hH dX1_takeSum_219 (by decide) (⟨rfl, hF, Or.inr ⟨rfl, hts.trans (tsum_none c28 (by omega) (nxtA hi hj) e1), acc, hpc⟩⟩)
                  · skip
                    first | exact absurd c185 (by decide) | exact absurd rfl c185
            · skip
              exfalso; omega
          · skip
            exfalso; omega
      · skip
        have hby := oky j hj
        have hbs := sg_b hsg hby.2
        refine lv_iload S.1 S.2.1 dX1_takeSum_49 (lv_at hl 4 rfl) ?_
        refine lv_aload_n S.1 S.2.1 dX1_takeSum_51 rfl (lv_at hl 1 rfl) ?_
        refine gfX1_28 S hK hH hx0 dX1_takeSum_52 ?_
        refine bn_ge (tgt := 89) S dX1_takeSum_55 (by decide) (by omega) (fun c55 => ?_) (fun c55 => ?_)
        · skip
          refine lv_iconst (v := nI 0) S.1 S.2.1 dX1_takeSum_89 (by decide) ?_
          refine lv_istore (lv' := [(8, .int (nI 0)), (0, .ref (t)), (1, .ref (x)), (2, .ref (y)), (3, .int (iI sg)), (4, .int (nI i)), (5, .int (nI j)), (6, .int (nI (X.length + Y.length))), (7, .int (nI u))]) S.1 S.2.1 dX1_takeSum_90 hl (by decide) rfl (fun ls hl => ?_)
          refine lv_iload S.1 S.2.1 dX1_takeSum_92 (lv_at hl 6 rfl) ?_
          refine lv_aload_n S.1 S.2.1 dX1_takeSum_94 rfl (lv_at hl 3 rfl) ?_
          refine gfX1_28 S hK hH hy0 dX1_takeSum_95 ?_
          refine bn_ge (tgt := 132) S dX1_takeSum_98 (by decide) (by omega) (fun c98 => ?_) (fun c98 => ?_)
          · skip
            exfalso; omega
          · skip
            refine lv_iload S.1 S.2.1 dX1_takeSum_101 (lv_at hl 5 rfl) ?_
            refine lv_aload_n S.1 S.2.1 dX1_takeSum_103 rfl (lv_at hl 2 rfl) ?_
            refine gfX1_28 S hK hH hx0 dX1_takeSum_104 ?_
            refine bn_ge (tgt := 128) S dX1_takeSum_107 (by decide) (by omega) (fun c107 => ?_) (fun c107 => ?_)
            · skip
              refine lv_iconst (v := nI 1) S.1 S.2.1 dX1_takeSum_128 (by decide) ?_
              refine lv_goto (tgt := 133) S.1 S.2.1 dX1_takeSum_129 (by decide) ?_
              refine lv_istore (lv' := [(9, .int (nI 1)), (8, .int (nI 0)), (0, .ref (t)), (1, .ref (x)), (2, .ref (y)), (3, .int (iI sg)), (4, .int (nI i)), (5, .int (nI j)), (6, .int (nI (X.length + Y.length))), (7, .int (nI u))]) S.1 S.2.1 dX1_takeSum_133 hl (by decide) rfl (fun ls hl => ?_)
              refine lv_iload S.1 S.2.1 dX1_takeSum_135 (lv_at hl 1 rfl) ?_
              refine lv_if_eq (tgt := 150) S.1 S.2.1 dX1_takeSum_137 (by decide) (fun c137 => ?_) (fun c137 => ?_)
              · skip
                refine lv_aload_n S.1 S.2.1 dX1_takeSum_150 rfl (lv_at hl 4 rfl) ?_
                refine gfX1_18 S hK hH hy0 dX1_takeSum_151 ?_
                refine lv_iload S.1 S.2.1 dX1_takeSum_154 (lv_at hl 7 rfl) ?_
                refine ald_l S hK hH hya (by omega) (by omega) dX1_takeSum_156 ?_
                refine tpl (x' := lN (cd Y j)) (hy6 j hj) ?_
                refine lv_lstore (lv' := [(10, .long (lN (cd Y j))), (9, .int (nI 1)), (8, .int (nI 0)), (0, .ref (t)), (1, .ref (x)), (2, .ref (y)), (3, .int (iI sg)), (4, .int (nI i)), (5, .int (nI j)), (6, .int (nI (X.length + Y.length))), (7, .int (nI u))]) S.1 S.2.1 dX1_takeSum_157 hl (by decide) rfl (fun ls hl => ?_)
                refine lv_lconst (v := lI 0) S.1 S.2.1 dX1_takeSum_159 (by decide) ?_
                refine lv_lstore (lv' := [(12, .long (lI 0)), (10, .long (lN (cd Y j))), (9, .int (nI 1)), (8, .int (nI 0)), (0, .ref (t)), (1, .ref (x)), (2, .ref (y)), (3, .int (iI sg)), (4, .int (nI i)), (5, .int (nI j)), (6, .int (nI (X.length + Y.length))), (7, .int (nI u))]) S.1 S.2.1 dX1_takeSum_160 hl (by decide) rfl (fun ls hl => ?_)
                refine lv_iload S.1 S.2.1 dX1_takeSum_162 (lv_at hl 3 rfl) ?_
                refine lv_if_eq (tgt := 183) S.1 S.2.1 dX1_takeSum_164 (by decide) (fun c164 => ?_) (fun c164 => ?_)
                · skip
                  refine lv_iload S.1 S.2.1 dX1_takeSum_183 (lv_at hl 2 rfl) ?_
                  refine lv_if_eq (tgt := 207) S.1 S.2.1 dX1_takeSum_185 (by decide) (fun c185 => ?_) (fun c185 => ?_)
                  · skip
                    first | exact absurd c185 (by decide) | exact absurd rfl c185
                  · skip
                    refine lv_lload S.1 S.2.1 dX1_takeSum_188 (lv_at hl 0 rfl) ?_
                    refine lv_iload_n S.1 S.2.1 dX1_takeSum_190 rfl (lv_at hl 7 rfl) ?_
                    refine lv_i2l (v := lI (sg)) S.1 S.2.1 dX1_takeSum_191 (iI_l (by omega)) ?_
                    refine lv_aload_n S.1 S.2.1 dX1_takeSum_192 rfl (lv_at hl 6 rfl) ?_
                    refine gfX1_24 S hK hH hy0 dX1_takeSum_193 ?_
                    refine lv_iload S.1 S.2.1 dX1_takeSum_196 (lv_at hl 9 rfl) ?_
                    refine ald_i S hK hH hyb (by omega) (by omega) dX1_takeSum_198 ?_
                    refine tpi (x' := iI (cf Y j)) (hy7 j hj) ?_
                    refine lv_i2l (v := lI (cf Y j)) S.1 S.2.1 dX1_takeSum_199 (iI_l (by omega)) ?_
                    refine lv_lmul S.1 S.2.1 dX1_takeSum_200 ?_
                    refine tpl (x' := lI ((sg) * (cf Y j))) (lI_mul _ _) ?_
                    refine lv_ladd S.1 S.2.1 dX1_takeSum_201 ?_
                    refine tpl (x' := lI ((0) + ((sg) * (cf Y j)))) (lI_add _ _) ?_
                    refine lv_lstore (lv' := [(12, .long (lI ((0) + ((sg) * (cf Y j))))), (10, .long (lN (cd Y j))), (9, .int (nI 1)), (8, .int (nI 0)), (0, .ref (t)), (1, .ref (x)), (2, .ref (y)), (3, .int (iI sg)), (4, .int (nI i)), (5, .int (nI j)), (6, .int (nI (X.length + Y.length))), (7, .int (nI u))]) S.1 S.2.1 dX1_takeSum_202 hl (by decide) rfl (fun ls hl => ?_)
                    refine lv_iinc (v := nI (j + 1)) (lv' := [(5, .int (nI (j + 1))), (12, .long (lI ((0) + ((sg) * (cf Y j))))), (10, .long (lN (cd Y j))), (9, .int (nI 1)), (8, .int (nI 0)), (0, .ref (t)), (1, .ref (x)), (2, .ref (y)), (3, .int (iI sg)), (4, .int (nI i)), (6, .int (nI (X.length + Y.length))), (7, .int (nI u))]) S.1 S.2.1 dX1_takeSum_204 hl (k := 9) rfl (nI_inc _ 1) (by decide) rfl (fun ls hl => ?_)
                    refine lv_aload_n S.1 S.2.1 dX1_takeSum_207 rfl (lv_at hl 5 rfl) ?_
                    refine lv_lload S.1 S.2.1 dX1_takeSum_208 (lv_at hl 2 rfl) ?_
                    refine lv_lload S.1 S.2.1 dX1_takeSum_210 (lv_at hl 1 rfl) ?_
                    refine ck_i (run_V (As := [.long (lN (cd Y j)), .long (lI ((0) + ((sg) * (cf Y j))))]) (rest := []) S hK hH (kX1_append t 60 (cd Y j) acc ((0) + ((sg) * (cf Y j))) 0 tp hpc (by omega)) ceX1_append mW130 hpc.ob rfl rfl hl.1 rfl (Nat.le_of_ble_eq_true rfl) dX1_takeSum_212 ⟨rfl, rfl, by decide, by decide⟩ ⟨show 0 + 0 ≤ 0 by omega, show 0 + 0 ≤ 0 by omega⟩) hH (fun r212 w3 n3 H locs hp hH => ?_)
                    obtain ⟨hn1, hfr, hq⟩ := hp
                    rw [hn1] at hH
                    replace hx0 := (hfr (x) (by omega)).trans hx0
                    replace hxa := (hfr (x + 1) (by omega)).trans hxa
                    replace hxb := (hfr (x + 2) (by omega)).trans hxb
                    replace hy0 := (hfr (y) (by omega)).trans hy0
                    replace hya := (hfr (y + 1) (by omega)).trans hya
                    replace hyb := (hfr (y + 2) (by omega)).trans hyb
                    replace hF : ∀ b, b < t ∨ t + 3 ≤ b → w3 b = w b := fun b hb => (hfr b (by omega)).trans (hF b hb)
                    refine lv_if_ne (tgt := 220) S.1 S.2.1 dX1_takeSum_215 (by decide) (fun c215 => ?_) (fun c215 => ?_)
                    · skip
                      rcases hq with ⟨_, L', e1, hpc⟩ | ⟨e1, _⟩
                      rotate_left
                      · exact absurd e1 c215
                      refine lv_iinc (v := nI (u + 1)) (lv' := [(7, .int (nI (u + 1))), (5, .int (nI (j + 1))), (12, .long (lI ((0) + ((sg) * (cf Y j))))), (10, .long (lN (cd Y j))), (9, .int (nI 1)), (8, .int (nI 0)), (0, .ref (t)), (1, .ref (x)), (2, .ref (y)), (3, .int (iI sg)), (4, .int (nI i)), (6, .int (nI (X.length + Y.length)))]) S.1 S.2.1 dX1_takeSum_220 hl (k := 11) rfl (nI_inc _ 1) (by decide) rfl (fun ls hl => ?_)
                      refine lv_goto (tgt := 24) S.1 S.2.1 dX1_takeSum_223 (by decide) ?_
                      exact ih24 _ _ _ _ (by omega) ⟨u + 1, i, j + 1, L', w3, lv_sub hl [6, 7, 8, 9, 10, 1, 11, 0] rfl, hH, hx0, hxa, hxb, hy0, hya, hyb, hpc, hF, by omega, by omega, by omega, hts.trans (tsum_some c28 (by omega) (nxtB hi hj) e1), rfl⟩
                    · skip
                      rcases hq with ⟨e1, _⟩ | ⟨_, e1, e2⟩
                      · rw [e1] at c215; exact absurd c215 (by decide)
                      refine lv_iconst (v := nI 0) S.1 S.2.1 dX1_takeSum_218 (by decide) ?_
                      rw [← e2] at hpc
                      exact rt_z S hr hlk hH dX1_takeSum_219 (by decide) (⟨rfl, hF, Or.inr ⟨rfl, hts.trans (tsum_none c28 (by omega) (nxtB hi hj) e1), acc, hpc⟩⟩)
                · skip
                  first | exact absurd c164 (by decide) | exact absurd rfl c164
              · skip
                first | exact absurd c137 (by decide) | exact absurd rfl c137
            · skip
              exfalso; omega
        · skip
          exfalso; omega
      · skip
        have hbx := okx i hi
        have hby := oky j hj
        refine lv_iload S.1 S.2.1 dX1_takeSum_49 (lv_at hl 4 rfl) ?_
        refine lv_aload_n S.1 S.2.1 dX1_takeSum_51 rfl (lv_at hl 1 rfl) ?_
        refine gfX1_28 S hK hH hx0 dX1_takeSum_52 ?_
        refine bn_ge (tgt := 89) S dX1_takeSum_55 (by decide) (by omega) (fun c55 => ?_) (fun c55 => ?_)
        · skip
          exfalso; omega
        · skip
          refine lv_iload S.1 S.2.1 dX1_takeSum_58 (lv_at hl 5 rfl) ?_
          refine lv_aload_n S.1 S.2.1 dX1_takeSum_60 rfl (lv_at hl 2 rfl) ?_
          refine gfX1_28 S hK hH hy0 dX1_takeSum_61 ?_
          refine bn_ge (tgt := 85) S dX1_takeSum_64 (by decide) (by omega) (fun c64 => ?_) (fun c64 => ?_)
          · skip
            exfalso; omega
          · skip
            refine lv_aload_n S.1 S.2.1 dX1_takeSum_67 rfl (lv_at hl 1 rfl) ?_
            refine gfX1_18 S hK hH hx0 dX1_takeSum_68 ?_
            refine lv_iload S.1 S.2.1 dX1_takeSum_71 (lv_at hl 4 rfl) ?_
            refine ald_l S hK hH hxa (by omega) (by omega) dX1_takeSum_73 ?_
            refine tpl (x' := lN (cd X i)) (hx6 i hi) ?_
            refine lv_aload_n S.1 S.2.1 dX1_takeSum_74 rfl (lv_at hl 2 rfl) ?_
            refine gfX1_18 S hK hH hy0 dX1_takeSum_75 ?_
            refine lv_iload S.1 S.2.1 dX1_takeSum_78 (lv_at hl 5 rfl) ?_
            refine ald_l S hK hH hya (by omega) (by omega) dX1_takeSum_80 ?_
            refine tpl (x' := lN (cd Y j)) (hy6 j hj) ?_
            refine bl_lt (tgt := 89) S dX1_takeSum_81 dX1_takeSum_82 (by decide) (fun c81 => ?_) (fun c81 => ?_)
            · skip
              exfalso; rw [pk_lLT (by omega) (by omega)] at c81; omega
            · skip
              refine lv_iconst (v := nI 1) S.1 S.2.1 dX1_takeSum_85 (by decide) ?_
              refine lv_goto (tgt := 90) S.1 S.2.1 dX1_takeSum_86 (by decide) ?_
              refine lv_istore (lv' := [(8, .int (nI 1)), (0, .ref (t)), (1, .ref (x)), (2, .ref (y)), (3, .int (iI sg)), (4, .int (nI i)), (5, .int (nI j)), (6, .int (nI (X.length + Y.length))), (7, .int (nI u))]) S.1 S.2.1 dX1_takeSum_90 hl (by decide) rfl (fun ls hl => ?_)
              refine lv_iload S.1 S.2.1 dX1_takeSum_92 (lv_at hl 6 rfl) ?_
              refine lv_aload_n S.1 S.2.1 dX1_takeSum_94 rfl (lv_at hl 3 rfl) ?_
              refine gfX1_28 S hK hH hy0 dX1_takeSum_95 ?_
              refine bn_ge (tgt := 132) S dX1_takeSum_98 (by decide) (by omega) (fun c98 => ?_) (fun c98 => ?_)
              · skip
                exfalso; omega
              · skip
                refine lv_iload S.1 S.2.1 dX1_takeSum_101 (lv_at hl 5 rfl) ?_
                refine lv_aload_n S.1 S.2.1 dX1_takeSum_103 rfl (lv_at hl 2 rfl) ?_
                refine gfX1_28 S hK hH hx0 dX1_takeSum_104 ?_
                refine bn_ge (tgt := 128) S dX1_takeSum_107 (by decide) (by omega) (fun c107 => ?_) (fun c107 => ?_)
                · skip
                  exfalso; omega
                · skip
                  refine lv_aload_n S.1 S.2.1 dX1_takeSum_110 rfl (lv_at hl 3 rfl) ?_
                  refine gfX1_18 S hK hH hy0 dX1_takeSum_111 ?_
                  refine lv_iload S.1 S.2.1 dX1_takeSum_114 (lv_at hl 6 rfl) ?_
                  refine ald_l S hK hH hya (by omega) (by omega) dX1_takeSum_116 ?_
                  refine tpl (x' := lN (cd Y j)) (hy6 j hj) ?_
                  refine lv_aload_n S.1 S.2.1 dX1_takeSum_117 rfl (lv_at hl 2 rfl) ?_
                  refine gfX1_18 S hK hH hx0 dX1_takeSum_118 ?_
                  refine lv_iload S.1 S.2.1 dX1_takeSum_121 (lv_at hl 5 rfl) ?_
                  refine ald_l S hK hH hxa (by omega) (by omega) dX1_takeSum_123 ?_
                  refine tpl (x' := lN (cd X i)) (hx6 i hi) ?_
                  refine bl_lt (tgt := 132) S dX1_takeSum_124 dX1_takeSum_125 (by decide) (fun c124 => ?_) (fun c124 => ?_)
                  · skip
                    refine lv_iconst (v := nI 0) S.1 S.2.1 dX1_takeSum_132 (by decide) ?_
                    refine lv_istore (lv' := [(9, .int (nI 0)), (8, .int (nI 1)), (0, .ref (t)), (1, .ref (x)), (2, .ref (y)), (3, .int (iI sg)), (4, .int (nI i)), (5, .int (nI j)), (6, .int (nI (X.length + Y.length))), (7, .int (nI u))]) S.1 S.2.1 dX1_takeSum_133 hl (by decide) rfl (fun ls hl => ?_)
                    refine lv_iload S.1 S.2.1 dX1_takeSum_135 (lv_at hl 1 rfl) ?_
                    refine lv_if_eq (tgt := 150) S.1 S.2.1 dX1_takeSum_137 (by decide) (fun c137 => ?_) (fun c137 => ?_)
                    · skip
                      first | exact absurd c137 (by decide) | exact absurd rfl c137
                    · skip
                      refine lv_aload_n S.1 S.2.1 dX1_takeSum_140 rfl (lv_at hl 3 rfl) ?_
                      refine gfX1_18 S hK hH hx0 dX1_takeSum_141 ?_
                      refine lv_iload S.1 S.2.1 dX1_takeSum_144 (lv_at hl 6 rfl) ?_
                      refine ald_l S hK hH hxa (by omega) (by omega) dX1_takeSum_146 ?_
                      refine tpl (x' := lN (cd X i)) (hx6 i hi) ?_
                      refine lv_goto (tgt := 157) S.1 S.2.1 dX1_takeSum_147 (by decide) ?_
                      refine lv_lstore (lv' := [(10, .long (lN (cd X i))), (9, .int (nI 0)), (8, .int (nI 1)), (0, .ref (t)), (1, .ref (x)), (2, .ref (y)), (3, .int (iI sg)), (4, .int (nI i)), (5, .int (nI j)), (6, .int (nI (X.length + Y.length))), (7, .int (nI u))]) S.1 S.2.1 dX1_takeSum_157 hl (by decide) rfl (fun ls hl => ?_)
                      refine lv_lconst (v := lI 0) S.1 S.2.1 dX1_takeSum_159 (by decide) ?_
                      refine lv_lstore (lv' := [(12, .long (lI 0)), (10, .long (lN (cd X i))), (9, .int (nI 0)), (8, .int (nI 1)), (0, .ref (t)), (1, .ref (x)), (2, .ref (y)), (3, .int (iI sg)), (4, .int (nI i)), (5, .int (nI j)), (6, .int (nI (X.length + Y.length))), (7, .int (nI u))]) S.1 S.2.1 dX1_takeSum_160 hl (by decide) rfl (fun ls hl => ?_)
                      refine lv_iload S.1 S.2.1 dX1_takeSum_162 (lv_at hl 3 rfl) ?_
                      refine lv_if_eq (tgt := 183) S.1 S.2.1 dX1_takeSum_164 (by decide) (fun c164 => ?_) (fun c164 => ?_)
                      · skip
                        first | exact absurd c164 (by decide) | exact absurd rfl c164
                      · skip
                        refine lv_lload S.1 S.2.1 dX1_takeSum_167 (lv_at hl 0 rfl) ?_
                        refine lv_aload_n S.1 S.2.1 dX1_takeSum_169 rfl (lv_at hl 5 rfl) ?_
                        refine gfX1_24 S hK hH hx0 dX1_takeSum_170 ?_
                        refine lv_iload S.1 S.2.1 dX1_takeSum_173 (lv_at hl 8 rfl) ?_
                        refine ald_i S hK hH hxb (by omega) (by omega) dX1_takeSum_175 ?_
                        refine tpi (x' := iI (cf X i)) (hx7 i hi) ?_
                        refine lv_i2l (v := lI (cf X i)) S.1 S.2.1 dX1_takeSum_176 (iI_l (by omega)) ?_
                        refine lv_ladd S.1 S.2.1 dX1_takeSum_177 ?_
                        refine tpl (x' := lI ((0) + (cf X i))) (lI_add _ _) ?_
                        refine lv_lstore (lv' := [(12, .long (lI ((0) + (cf X i)))), (10, .long (lN (cd X i))), (9, .int (nI 0)), (8, .int (nI 1)), (0, .ref (t)), (1, .ref (x)), (2, .ref (y)), (3, .int (iI sg)), (4, .int (nI i)), (5, .int (nI j)), (6, .int (nI (X.length + Y.length))), (7, .int (nI u))]) S.1 S.2.1 dX1_takeSum_178 hl (by decide) rfl (fun ls hl => ?_)
                        refine lv_iinc (v := nI (i + 1)) (lv' := [(4, .int (nI (i + 1))), (12, .long (lI ((0) + (cf X i)))), (10, .long (lN (cd X i))), (9, .int (nI 0)), (8, .int (nI 1)), (0, .ref (t)), (1, .ref (x)), (2, .ref (y)), (3, .int (iI sg)), (5, .int (nI j)), (6, .int (nI (X.length + Y.length))), (7, .int (nI u))]) S.1 S.2.1 dX1_takeSum_180 hl (k := 8) rfl (nI_inc _ 1) (by decide) rfl (fun ls hl => ?_)
                        refine lv_iload S.1 S.2.1 dX1_takeSum_183 (lv_at hl 3 rfl) ?_
                        refine lv_if_eq (tgt := 207) S.1 S.2.1 dX1_takeSum_185 (by decide) (fun c185 => ?_) (fun c185 => ?_)
                        · skip
                          refine lv_aload_n S.1 S.2.1 dX1_takeSum_207 rfl (lv_at hl 5 rfl) ?_
                          refine lv_lload S.1 S.2.1 dX1_takeSum_208 (lv_at hl 2 rfl) ?_
                          refine lv_lload S.1 S.2.1 dX1_takeSum_210 (lv_at hl 1 rfl) ?_
                          refine ck_i (run_V (As := [.long (lN (cd X i)), .long (lI ((0) + (cf X i)))]) (rest := []) S hK hH (kX1_append t 60 (cd X i) acc ((0) + (cf X i)) 0 tp hpc (by omega)) ceX1_append mW130 hpc.ob rfl rfl hl.1 rfl (Nat.le_of_ble_eq_true rfl) dX1_takeSum_212 ⟨rfl, rfl, by decide, by decide⟩ ⟨show 0 + 0 ≤ 0 by omega, show 0 + 0 ≤ 0 by omega⟩) hH (fun r212 w4 n4 H locs hp hH => ?_)
                          obtain ⟨hn1, hfr, hq⟩ := hp
                          rw [hn1] at hH
                          replace hx0 := (hfr (x) (by omega)).trans hx0
                          replace hxa := (hfr (x + 1) (by omega)).trans hxa
                          replace hxb := (hfr (x + 2) (by omega)).trans hxb
                          replace hy0 := (hfr (y) (by omega)).trans hy0
                          replace hya := (hfr (y + 1) (by omega)).trans hya
                          replace hyb := (hfr (y + 2) (by omega)).trans hyb
                          replace hF : ∀ b, b < t ∨ t + 3 ≤ b → w4 b = w b := fun b hb => (hfr b (by omega)).trans (hF b hb)
                          refine lv_if_ne (tgt := 220) S.1 S.2.1 dX1_takeSum_215 (by decide) (fun c215 => ?_) (fun c215 => ?_)
                          · skip
                            rcases hq with ⟨_, L', e1, hpc⟩ | ⟨e1, _⟩
                            rotate_left
                            · exact absurd e1 c215
                            refine lv_iinc (v := nI (u + 1)) (lv' := [(7, .int (nI (u + 1))), (4, .int (nI (i + 1))), (12, .long (lI ((0) + (cf X i)))), (10, .long (lN (cd X i))), (9, .int (nI 0)), (8, .int (nI 1)), (0, .ref (t)), (1, .ref (x)), (2, .ref (y)), (3, .int (iI sg)), (5, .int (nI j)), (6, .int (nI (X.length + Y.length)))]) S.1 S.2.1 dX1_takeSum_220 hl (k := 11) rfl (nI_inc _ 1) (by decide) rfl (fun ls hl => ?_)
                            refine lv_goto (tgt := 24) S.1 S.2.1 dX1_takeSum_223 (by decide) ?_
                            exact ih24 _ _ _ _ (by omega) ⟨u + 1, i + 1, j, L', w4, lv_sub hl [6, 7, 8, 9, 1, 10, 11, 0] rfl, hH, hx0, hxa, hxb, hy0, hya, hyb, hpc, hF, by omega, by omega, by omega, hts.trans (tsum_some c28 (by omega) (nxtC hi hj hc) e1), rfl⟩
                          · skip
                            rcases hq with ⟨e1, _⟩ | ⟨_, e1, e2⟩
                            · rw [e1] at c215; exact absurd c215 (by decide)
                            refine lv_iconst (v := nI 0) S.1 S.2.1 dX1_takeSum_218 (by decide) ?_
                            rw [← e2] at hpc
                            exact rt_z S hr hlk hH dX1_takeSum_219 (by decide) (⟨rfl, hF, Or.inr ⟨rfl, hts.trans (tsum_none c28 (by omega) (nxtC hi hj hc) e1), acc, hpc⟩⟩)
                        · skip
                          first | exact absurd c185 (by decide) | exact absurd rfl c185
                  · skip
                    exfalso; rw [pk_lLT (by omega) (by omega)] at c124; omega
      · skip
        have hbx := okx i hi
        have hby := oky j hj
        have hbs := sg_b hsg hby.2
        refine lv_iload S.1 S.2.1 dX1_takeSum_49 (lv_at hl 4 rfl) ?_
        refine lv_aload_n S.1 S.2.1 dX1_takeSum_51 rfl (lv_at hl 1 rfl) ?_
        refine gfX1_28 S hK hH hx0 dX1_takeSum_52 ?_
        refine bn_ge (tgt := 89) S dX1_takeSum_55 (by decide) (by omega) (fun c55 => ?_) (fun c55 => ?_)
        · skip
          exfalso; omega
        · skip
          refine lv_iload S.1 S.2.1 dX1_takeSum_58 (lv_at hl 5 rfl) ?_
          refine lv_aload_n S.1 S.2.1 dX1_takeSum_60 rfl (lv_at hl 2 rfl) ?_
          refine gfX1_28 S hK hH hy0 dX1_takeSum_61 ?_
          refine bn_ge (tgt := 85) S dX1_takeSum_64 (by decide) (by omega) (fun c64 => ?_) (fun c64 => ?_)
          · skip
            exfalso; omega
          · skip
            refine lv_aload_n S.1 S.2.1 dX1_takeSum_67 rfl (lv_at hl 1 rfl) ?_
            refine gfX1_18 S hK hH hx0 dX1_takeSum_68 ?_
            refine lv_iload S.1 S.2.1 dX1_takeSum_71 (lv_at hl 4 rfl) ?_
            refine ald_l S hK hH hxa (by omega) (by omega) dX1_takeSum_73 ?_
            refine tpl (x' := lN (cd X i)) (hx6 i hi) ?_
            refine lv_aload_n S.1 S.2.1 dX1_takeSum_74 rfl (lv_at hl 2 rfl) ?_
            refine gfX1_18 S hK hH hy0 dX1_takeSum_75 ?_
            refine lv_iload S.1 S.2.1 dX1_takeSum_78 (lv_at hl 5 rfl) ?_
            refine ald_l S hK hH hya (by omega) (by omega) dX1_takeSum_80 ?_
            refine tpl (x' := lN (cd Y j)) (hy6 j hj) ?_
            refine bl_lt (tgt := 89) S dX1_takeSum_81 dX1_takeSum_82 (by decide) (fun c81 => ?_) (fun c81 => ?_)
            · skip
              exfalso; rw [pk_lLT (by omega) (by omega)] at c81; omega
            · skip
              refine lv_iconst (v := nI 1) S.1 S.2.1 dX1_takeSum_85 (by decide) ?_
              refine lv_goto (tgt := 90) S.1 S.2.1 dX1_takeSum_86 (by decide) ?_
              refine lv_istore (lv' := [(8, .int (nI 1)), (0, .ref (t)), (1, .ref (x)), (2, .ref (y)), (3, .int (iI sg)), (4, .int (nI i)), (5, .int (nI j)), (6, .int (nI (X.length + Y.length))), (7, .int (nI u))]) S.1 S.2.1 dX1_takeSum_90 hl (by decide) rfl (fun ls hl => ?_)
              refine lv_iload S.1 S.2.1 dX1_takeSum_92 (lv_at hl 6 rfl) ?_
              refine lv_aload_n S.1 S.2.1 dX1_takeSum_94 rfl (lv_at hl 3 rfl) ?_
              refine gfX1_28 S hK hH hy0 dX1_takeSum_95 ?_
              refine bn_ge (tgt := 132) S dX1_takeSum_98 (by decide) (by omega) (fun c98 => ?_) (fun c98 => ?_)
              · skip
                exfalso; omega
              · skip
                refine lv_iload S.1 S.2.1 dX1_takeSum_101 (lv_at hl 5 rfl) ?_
                refine lv_aload_n S.1 S.2.1 dX1_takeSum_103 rfl (lv_at hl 2 rfl) ?_
                refine gfX1_28 S hK hH hx0 dX1_takeSum_104 ?_
                refine bn_ge (tgt := 128) S dX1_takeSum_107 (by decide) (by omega) (fun c107 => ?_) (fun c107 => ?_)
                · skip
                  exfalso; omega
                · skip
                  refine lv_aload_n S.1 S.2.1 dX1_takeSum_110 rfl (lv_at hl 3 rfl) ?_
                  refine gfX1_18 S hK hH hy0 dX1_takeSum_111 ?_
                  refine lv_iload S.1 S.2.1 dX1_takeSum_114 (lv_at hl 6 rfl) ?_
                  refine ald_l S hK hH hya (by omega) (by omega) dX1_takeSum_116 ?_
                  refine tpl (x' := lN (cd Y j)) (hy6 j hj) ?_
                  refine lv_aload_n S.1 S.2.1 dX1_takeSum_117 rfl (lv_at hl 2 rfl) ?_
                  refine gfX1_18 S hK hH hx0 dX1_takeSum_118 ?_
                  refine lv_iload S.1 S.2.1 dX1_takeSum_121 (lv_at hl 5 rfl) ?_
                  refine ald_l S hK hH hxa (by omega) (by omega) dX1_takeSum_123 ?_
                  refine tpl (x' := lN (cd X i)) (hx6 i hi) ?_
                  refine bl_lt (tgt := 132) S dX1_takeSum_124 dX1_takeSum_125 (by decide) (fun c124 => ?_) (fun c124 => ?_)
                  · skip
                    exfalso; rw [pk_lLT (by omega) (by omega)] at c124; omega
                  · skip
                    refine lv_iconst (v := nI 1) S.1 S.2.1 dX1_takeSum_128 (by decide) ?_
                    refine lv_goto (tgt := 133) S.1 S.2.1 dX1_takeSum_129 (by decide) ?_
                    refine lv_istore (lv' := [(9, .int (nI 1)), (8, .int (nI 1)), (0, .ref (t)), (1, .ref (x)), (2, .ref (y)), (3, .int (iI sg)), (4, .int (nI i)), (5, .int (nI j)), (6, .int (nI (X.length + Y.length))), (7, .int (nI u))]) S.1 S.2.1 dX1_takeSum_133 hl (by decide) rfl (fun ls hl => ?_)
                    refine lv_iload S.1 S.2.1 dX1_takeSum_135 (lv_at hl 1 rfl) ?_
                    refine lv_if_eq (tgt := 150) S.1 S.2.1 dX1_takeSum_137 (by decide) (fun c137 => ?_) (fun c137 => ?_)
                    · skip
                      first | exact absurd c137 (by decide) | exact absurd rfl c137
                    · skip
                      refine lv_aload_n S.1 S.2.1 dX1_takeSum_140 rfl (lv_at hl 3 rfl) ?_
                      refine gfX1_18 S hK hH hx0 dX1_takeSum_141 ?_
                      refine lv_iload S.1 S.2.1 dX1_takeSum_144 (lv_at hl 6 rfl) ?_
                      refine ald_l S hK hH hxa (by omega) (by omega) dX1_takeSum_146 ?_
                      refine tpl (x' := lN (cd X i)) (hx6 i hi) ?_
                      refine lv_goto (tgt := 157) S.1 S.2.1 dX1_takeSum_147 (by decide) ?_
                      refine lv_lstore (lv' := [(10, .long (lN (cd X i))), (9, .int (nI 1)), (8, .int (nI 1)), (0, .ref (t)), (1, .ref (x)), (2, .ref (y)), (3, .int (iI sg)), (4, .int (nI i)), (5, .int (nI j)), (6, .int (nI (X.length + Y.length))), (7, .int (nI u))]) S.1 S.2.1 dX1_takeSum_157 hl (by decide) rfl (fun ls hl => ?_)
                      refine lv_lconst (v := lI 0) S.1 S.2.1 dX1_takeSum_159 (by decide) ?_
                      refine lv_lstore (lv' := [(12, .long (lI 0)), (10, .long (lN (cd X i))), (9, .int (nI 1)), (8, .int (nI 1)), (0, .ref (t)), (1, .ref (x)), (2, .ref (y)), (3, .int (iI sg)), (4, .int (nI i)), (5, .int (nI j)), (6, .int (nI (X.length + Y.length))), (7, .int (nI u))]) S.1 S.2.1 dX1_takeSum_160 hl (by decide) rfl (fun ls hl => ?_)
                      refine lv_iload S.1 S.2.1 dX1_takeSum_162 (lv_at hl 3 rfl) ?_
                      refine lv_if_eq (tgt := 183) S.1 S.2.1 dX1_takeSum_164 (by decide) (fun c164 => ?_) (fun c164 => ?_)
                      · skip
                        first | exact absurd c164 (by decide) | exact absurd rfl c164
                      · skip
                        refine lv_lload S.1 S.2.1 dX1_takeSum_167 (lv_at hl 0 rfl) ?_
                        refine lv_aload_n S.1 S.2.1 dX1_takeSum_169 rfl (lv_at hl 5 rfl) ?_
                        refine gfX1_24 S hK hH hx0 dX1_takeSum_170 ?_
                        refine lv_iload S.1 S.2.1 dX1_takeSum_173 (lv_at hl 8 rfl) ?_
                        refine ald_i S hK hH hxb (by omega) (by omega) dX1_takeSum_175 ?_
                        refine tpi (x' := iI (cf X i)) (hx7 i hi) ?_
                        refine lv_i2l (v := lI (cf X i)) S.1 S.2.1 dX1_takeSum_176 (iI_l (by omega)) ?_
                        refine lv_ladd S.1 S.2.1 dX1_takeSum_177 ?_
                        refine tpl (x' := lI ((0) + (cf X i))) (lI_add _ _) ?_
                        refine lv_lstore (lv' := [(12, .long (lI ((0) + (cf X i)))), (10, .long (lN (cd X i))), (9, .int (nI 1)), (8, .int (nI 1)), (0, .ref (t)), (1, .ref (x)), (2, .ref (y)), (3, .int (iI sg)), (4, .int (nI i)), (5, .int (nI j)), (6, .int (nI (X.length + Y.length))), (7, .int (nI u))]) S.1 S.2.1 dX1_takeSum_178 hl (by decide) rfl (fun ls hl => ?_)
                        refine lv_iinc (v := nI (i + 1)) (lv' := [(4, .int (nI (i + 1))), (12, .long (lI ((0) + (cf X i)))), (10, .long (lN (cd X i))), (9, .int (nI 1)), (8, .int (nI 1)), (0, .ref (t)), (1, .ref (x)), (2, .ref (y)), (3, .int (iI sg)), (5, .int (nI j)), (6, .int (nI (X.length + Y.length))), (7, .int (nI u))]) S.1 S.2.1 dX1_takeSum_180 hl (k := 8) rfl (nI_inc _ 1) (by decide) rfl (fun ls hl => ?_)
                        refine lv_iload S.1 S.2.1 dX1_takeSum_183 (lv_at hl 3 rfl) ?_
                        refine lv_if_eq (tgt := 207) S.1 S.2.1 dX1_takeSum_185 (by decide) (fun c185 => ?_) (fun c185 => ?_)
                        · skip
                          first | exact absurd c185 (by decide) | exact absurd rfl c185
                        · skip
                          refine lv_lload S.1 S.2.1 dX1_takeSum_188 (lv_at hl 1 rfl) ?_
                          refine lv_iload_n S.1 S.2.1 dX1_takeSum_190 rfl (lv_at hl 8 rfl) ?_
                          refine lv_i2l (v := lI (sg)) S.1 S.2.1 dX1_takeSum_191 (iI_l (by omega)) ?_
                          refine lv_aload_n S.1 S.2.1 dX1_takeSum_192 rfl (lv_at hl 7 rfl) ?_
                          refine gfX1_24 S hK hH hy0 dX1_takeSum_193 ?_
                          refine lv_iload S.1 S.2.1 dX1_takeSum_196 (lv_at hl 9 rfl) ?_
                          refine ald_i S hK hH hyb (by omega) (by omega) dX1_takeSum_198 ?_
                          refine tpi (x' := iI (cf Y j)) (hy7 j hj) ?_
                          refine lv_i2l (v := lI (cf Y j)) S.1 S.2.1 dX1_takeSum_199 (iI_l (by omega)) ?_
                          refine lv_lmul S.1 S.2.1 dX1_takeSum_200 ?_
                          refine tpl (x' := lI ((sg) * (cf Y j))) (lI_mul _ _) ?_
                          refine lv_ladd S.1 S.2.1 dX1_takeSum_201 ?_
                          refine tpl (x' := lI (((0) + (cf X i)) + ((sg) * (cf Y j)))) (lI_add _ _) ?_
                          refine lv_lstore (lv' := [(12, .long (lI (((0) + (cf X i)) + ((sg) * (cf Y j))))), (4, .int (nI (i + 1))), (10, .long (lN (cd X i))), (9, .int (nI 1)), (8, .int (nI 1)), (0, .ref (t)), (1, .ref (x)), (2, .ref (y)), (3, .int (iI sg)), (5, .int (nI j)), (6, .int (nI (X.length + Y.length))), (7, .int (nI u))]) S.1 S.2.1 dX1_takeSum_202 hl (by decide) rfl (fun ls hl => ?_)
                          refine lv_iinc (v := nI (j + 1)) (lv' := [(5, .int (nI (j + 1))), (12, .long (lI (((0) + (cf X i)) + ((sg) * (cf Y j))))), (4, .int (nI (i + 1))), (10, .long (lN (cd X i))), (9, .int (nI 1)), (8, .int (nI 1)), (0, .ref (t)), (1, .ref (x)), (2, .ref (y)), (3, .int (iI sg)), (6, .int (nI (X.length + Y.length))), (7, .int (nI u))]) S.1 S.2.1 dX1_takeSum_204 hl (k := 9) rfl (nI_inc _ 1) (by decide) rfl (fun ls hl => ?_)
                          refine lv_aload_n S.1 S.2.1 dX1_takeSum_207 rfl (lv_at hl 6 rfl) ?_
                          refine lv_lload S.1 S.2.1 dX1_takeSum_208 (lv_at hl 3 rfl) ?_
                          refine lv_lload S.1 S.2.1 dX1_takeSum_210 (lv_at hl 1 rfl) ?_
                          refine ck_i (run_V (As := [.long (lN (cd X i)), .long (lI (((0) + (cf X i)) + ((sg) * (cf Y j))))]) (rest := []) S hK hH (kX1_append t 60 (cd X i) acc (((0) + (cf X i)) + ((sg) * (cf Y j))) 0 tp hpc (by omega)) ceX1_append mW130 hpc.ob rfl rfl hl.1 rfl (Nat.le_of_ble_eq_true rfl) dX1_takeSum_212 ⟨rfl, rfl, by decide, by decide⟩ ⟨show 0 + 0 ≤ 0 by omega, show 0 + 0 ≤ 0 by omega⟩) hH (fun r212 w5 n5 H locs hp hH => ?_)
                          obtain ⟨hn1, hfr, hq⟩ := hp
                          rw [hn1] at hH
                          replace hx0 := (hfr (x) (by omega)).trans hx0
                          replace hxa := (hfr (x + 1) (by omega)).trans hxa
                          replace hxb := (hfr (x + 2) (by omega)).trans hxb
                          replace hy0 := (hfr (y) (by omega)).trans hy0
                          replace hya := (hfr (y + 1) (by omega)).trans hya
                          replace hyb := (hfr (y + 2) (by omega)).trans hyb
                          replace hF : ∀ b, b < t ∨ t + 3 ≤ b → w5 b = w b := fun b hb => (hfr b (by omega)).trans (hF b hb)
                          refine lv_if_ne (tgt := 220) S.1 S.2.1 dX1_takeSum_215 (by decide) (fun c215 => ?_) (fun c215 => ?_)
                          · skip
                            rcases hq with ⟨_, L', e1, hpc⟩ | ⟨e1, _⟩
                            rotate_left
                            · exact absurd e1 c215
                            refine lv_iinc (v := nI (u + 1)) (lv' := [(7, .int (nI (u + 1))), (5, .int (nI (j + 1))), (12, .long (lI (((0) + (cf X i)) + ((sg) * (cf Y j))))), (4, .int (nI (i + 1))), (10, .long (lN (cd X i))), (9, .int (nI 1)), (8, .int (nI 1)), (0, .ref (t)), (1, .ref (x)), (2, .ref (y)), (3, .int (iI sg)), (6, .int (nI (X.length + Y.length)))]) S.1 S.2.1 dX1_takeSum_220 hl (k := 11) rfl (nI_inc _ 1) (by decide) rfl (fun ls hl => ?_)
                            refine lv_goto (tgt := 24) S.1 S.2.1 dX1_takeSum_223 (by decide) ?_
                            exact ih24 _ _ _ _ (by omega) ⟨u + 1, i + 1, j + 1, L', w5, lv_sub hl [7, 8, 9, 10, 3, 1, 11, 0] rfl, hH, hx0, hxa, hxb, hy0, hya, hyb, hpc, hF, by omega, by omega, by omega, hts.trans (tsum_some c28 (by omega) (nxtD hi hj hc) e1), rfl⟩
                          · skip
                            rcases hq with ⟨e1, _⟩ | ⟨_, e1, e2⟩
                            · rw [e1] at c215; exact absurd c215 (by decide)
                            refine lv_iconst (v := nI 0) S.1 S.2.1 dX1_takeSum_218 (by decide) ?_
                            rw [← e2] at hpc
                            exact rt_z S hr hlk hH dX1_takeSum_219 (by decide) (⟨rfl, hF, Or.inr ⟨rfl, hts.trans (tsum_none c28 (by omega) (nxtD hi hj hc) e1), acc, hpc⟩⟩)
      · skip
        have hbx := okx i hi
        have hby := oky j hj
        have hbs := sg_b hsg hby.2
        refine lv_iload S.1 S.2.1 dX1_takeSum_49 (lv_at hl 4 rfl) ?_
        refine lv_aload_n S.1 S.2.1 dX1_takeSum_51 rfl (lv_at hl 1 rfl) ?_
        refine gfX1_28 S hK hH hx0 dX1_takeSum_52 ?_
        refine bn_ge (tgt := 89) S dX1_takeSum_55 (by decide) (by omega) (fun c55 => ?_) (fun c55 => ?_)
        · skip
          exfalso; omega
        · skip
          refine lv_iload S.1 S.2.1 dX1_takeSum_58 (lv_at hl 5 rfl) ?_
          refine lv_aload_n S.1 S.2.1 dX1_takeSum_60 rfl (lv_at hl 2 rfl) ?_
          refine gfX1_28 S hK hH hy0 dX1_takeSum_61 ?_
          refine bn_ge (tgt := 85) S dX1_takeSum_64 (by decide) (by omega) (fun c64 => ?_) (fun c64 => ?_)
          · skip
            exfalso; omega
          · skip
            refine lv_aload_n S.1 S.2.1 dX1_takeSum_67 rfl (lv_at hl 1 rfl) ?_
            refine gfX1_18 S hK hH hx0 dX1_takeSum_68 ?_
            refine lv_iload S.1 S.2.1 dX1_takeSum_71 (lv_at hl 4 rfl) ?_
            refine ald_l S hK hH hxa (by omega) (by omega) dX1_takeSum_73 ?_
            refine tpl (x' := lN (cd X i)) (hx6 i hi) ?_
            refine lv_aload_n S.1 S.2.1 dX1_takeSum_74 rfl (lv_at hl 2 rfl) ?_
            refine gfX1_18 S hK hH hy0 dX1_takeSum_75 ?_
            refine lv_iload S.1 S.2.1 dX1_takeSum_78 (lv_at hl 5 rfl) ?_
            refine ald_l S hK hH hya (by omega) (by omega) dX1_takeSum_80 ?_
            refine tpl (x' := lN (cd Y j)) (hy6 j hj) ?_
            refine bl_lt (tgt := 89) S dX1_takeSum_81 dX1_takeSum_82 (by decide) (fun c81 => ?_) (fun c81 => ?_)
            · skip
              refine lv_iconst (v := nI 0) S.1 S.2.1 dX1_takeSum_89 (by decide) ?_
              refine lv_istore (lv' := [(8, .int (nI 0)), (0, .ref (t)), (1, .ref (x)), (2, .ref (y)), (3, .int (iI sg)), (4, .int (nI i)), (5, .int (nI j)), (6, .int (nI (X.length + Y.length))), (7, .int (nI u))]) S.1 S.2.1 dX1_takeSum_90 hl (by decide) rfl (fun ls hl => ?_)
              refine lv_iload S.1 S.2.1 dX1_takeSum_92 (lv_at hl 6 rfl) ?_
              refine lv_aload_n S.1 S.2.1 dX1_takeSum_94 rfl (lv_at hl 3 rfl) ?_
              refine gfX1_28 S hK hH hy0 dX1_takeSum_95 ?_
              refine bn_ge (tgt := 132) S dX1_takeSum_98 (by decide) (by omega) (fun c98 => ?_) (fun c98 => ?_)
              · skip
                exfalso; omega
              · skip
                refine lv_iload S.1 S.2.1 dX1_takeSum_101 (lv_at hl 5 rfl) ?_
                refine lv_aload_n S.1 S.2.1 dX1_takeSum_103 rfl (lv_at hl 2 rfl) ?_
                refine gfX1_28 S hK hH hx0 dX1_takeSum_104 ?_
                refine bn_ge (tgt := 128) S dX1_takeSum_107 (by decide) (by omega) (fun c107 => ?_) (fun c107 => ?_)
                · skip
                  exfalso; omega
                · skip
                  refine lv_aload_n S.1 S.2.1 dX1_takeSum_110 rfl (lv_at hl 3 rfl) ?_
                  refine gfX1_18 S hK hH hy0 dX1_takeSum_111 ?_
                  refine lv_iload S.1 S.2.1 dX1_takeSum_114 (lv_at hl 6 rfl) ?_
                  refine ald_l S hK hH hya (by omega) (by omega) dX1_takeSum_116 ?_
                  refine tpl (x' := lN (cd Y j)) (hy6 j hj) ?_
                  refine lv_aload_n S.1 S.2.1 dX1_takeSum_117 rfl (lv_at hl 2 rfl) ?_
                  refine gfX1_18 S hK hH hx0 dX1_takeSum_118 ?_
                  refine lv_iload S.1 S.2.1 dX1_takeSum_121 (lv_at hl 5 rfl) ?_
                  refine ald_l S hK hH hxa (by omega) (by omega) dX1_takeSum_123 ?_
                  refine tpl (x' := lN (cd X i)) (hx6 i hi) ?_
                  refine bl_lt (tgt := 132) S dX1_takeSum_124 dX1_takeSum_125 (by decide) (fun c124 => ?_) (fun c124 => ?_)
                  · skip
                    exfalso; rw [pk_lLT (by omega) (by omega)] at c124; omega
                  · skip
                    refine lv_iconst (v := nI 1) S.1 S.2.1 dX1_takeSum_128 (by decide) ?_
                    refine lv_goto (tgt := 133) S.1 S.2.1 dX1_takeSum_129 (by decide) ?_
                    refine lv_istore (lv' := [(9, .int (nI 1)), (8, .int (nI 0)), (0, .ref (t)), (1, .ref (x)), (2, .ref (y)), (3, .int (iI sg)), (4, .int (nI i)), (5, .int (nI j)), (6, .int (nI (X.length + Y.length))), (7, .int (nI u))]) S.1 S.2.1 dX1_takeSum_133 hl (by decide) rfl (fun ls hl => ?_)
                    refine lv_iload S.1 S.2.1 dX1_takeSum_135 (lv_at hl 1 rfl) ?_
                    refine lv_if_eq (tgt := 150) S.1 S.2.1 dX1_takeSum_137 (by decide) (fun c137 => ?_) (fun c137 => ?_)
                    · skip
                      refine lv_aload_n S.1 S.2.1 dX1_takeSum_150 rfl (lv_at hl 4 rfl) ?_
                      refine gfX1_18 S hK hH hy0 dX1_takeSum_151 ?_
                      refine lv_iload S.1 S.2.1 dX1_takeSum_154 (lv_at hl 7 rfl) ?_
                      refine ald_l S hK hH hya (by omega) (by omega) dX1_takeSum_156 ?_
                      refine tpl (x' := lN (cd Y j)) (hy6 j hj) ?_
                      refine lv_lstore (lv' := [(10, .long (lN (cd Y j))), (9, .int (nI 1)), (8, .int (nI 0)), (0, .ref (t)), (1, .ref (x)), (2, .ref (y)), (3, .int (iI sg)), (4, .int (nI i)), (5, .int (nI j)), (6, .int (nI (X.length + Y.length))), (7, .int (nI u))]) S.1 S.2.1 dX1_takeSum_157 hl (by decide) rfl (fun ls hl => ?_)
                      refine lv_lconst (v := lI 0) S.1 S.2.1 dX1_takeSum_159 (by decide) ?_
                      refine lv_lstore (lv' := [(12, .long (lI 0)), (10, .long (lN (cd Y j))), (9, .int (nI 1)), (8, .int (nI 0)), (0, .ref (t)), (1, .ref (x)), (2, .ref (y)), (3, .int (iI sg)), (4, .int (nI i)), (5, .int (nI j)), (6, .int (nI (X.length + Y.length))), (7, .int (nI u))]) S.1 S.2.1 dX1_takeSum_160 hl (by decide) rfl (fun ls hl => ?_)
                      refine lv_iload S.1 S.2.1 dX1_takeSum_162 (lv_at hl 3 rfl) ?_
                      refine lv_if_eq (tgt := 183) S.1 S.2.1 dX1_takeSum_164 (by decide) (fun c164 => ?_) (fun c164 => ?_)
                      · skip
                        refine lv_iload S.1 S.2.1 dX1_takeSum_183 (lv_at hl 2 rfl) ?_
                        refine lv_if_eq (tgt := 207) S.1 S.2.1 dX1_takeSum_185 (by decide) (fun c185 => ?_) (fun c185 => ?_)
                        · skip
                          first | exact absurd c185 (by decide) | exact absurd rfl c185
                        · skip
                          refine lv_lload S.1 S.2.1 dX1_takeSum_188 (lv_at hl 0 rfl) ?_
                          refine lv_iload_n S.1 S.2.1 dX1_takeSum_190 rfl (lv_at hl 7 rfl) ?_
                          refine lv_i2l (v := lI (sg)) S.1 S.2.1 dX1_takeSum_191 (iI_l (by omega)) ?_
                          refine lv_aload_n S.1 S.2.1 dX1_takeSum_192 rfl (lv_at hl 6 rfl) ?_
                          refine gfX1_24 S hK hH hy0 dX1_takeSum_193 ?_
                          refine lv_iload S.1 S.2.1 dX1_takeSum_196 (lv_at hl 9 rfl) ?_
                          refine ald_i S hK hH hyb (by omega) (by omega) dX1_takeSum_198 ?_
                          refine tpi (x' := iI (cf Y j)) (hy7 j hj) ?_
                          refine lv_i2l (v := lI (cf Y j)) S.1 S.2.1 dX1_takeSum_199 (iI_l (by omega)) ?_
                          refine lv_lmul S.1 S.2.1 dX1_takeSum_200 ?_
                          refine tpl (x' := lI ((sg) * (cf Y j))) (lI_mul _ _) ?_
                          refine lv_ladd S.1 S.2.1 dX1_takeSum_201 ?_
                          refine tpl (x' := lI ((0) + ((sg) * (cf Y j)))) (lI_add _ _) ?_
                          refine lv_lstore (lv' := [(12, .long (lI ((0) + ((sg) * (cf Y j))))), (10, .long (lN (cd Y j))), (9, .int (nI 1)), (8, .int (nI 0)), (0, .ref (t)), (1, .ref (x)), (2, .ref (y)), (3, .int (iI sg)), (4, .int (nI i)), (5, .int (nI j)), (6, .int (nI (X.length + Y.length))), (7, .int (nI u))]) S.1 S.2.1 dX1_takeSum_202 hl (by decide) rfl (fun ls hl => ?_)
                          refine lv_iinc (v := nI (j + 1)) (lv' := [(5, .int (nI (j + 1))), (12, .long (lI ((0) + ((sg) * (cf Y j))))), (10, .long (lN (cd Y j))), (9, .int (nI 1)), (8, .int (nI 0)), (0, .ref (t)), (1, .ref (x)), (2, .ref (y)), (3, .int (iI sg)), (4, .int (nI i)), (6, .int (nI (X.length + Y.length))), (7, .int (nI u))]) S.1 S.2.1 dX1_takeSum_204 hl (k := 9) rfl (nI_inc _ 1) (by decide) rfl (fun ls hl => ?_)
                          refine lv_aload_n S.1 S.2.1 dX1_takeSum_207 rfl (lv_at hl 5 rfl) ?_
                          refine lv_lload S.1 S.2.1 dX1_takeSum_208 (lv_at hl 2 rfl) ?_
                          refine lv_lload S.1 S.2.1 dX1_takeSum_210 (lv_at hl 1 rfl) ?_
                          refine ck_i (run_V (As := [.long (lN (cd Y j)), .long (lI ((0) + ((sg) * (cf Y j))))]) (rest := []) S hK hH (kX1_append t 60 (cd Y j) acc ((0) + ((sg) * (cf Y j))) 0 tp hpc (by omega)) ceX1_append mW130 hpc.ob rfl rfl hl.1 rfl (Nat.le_of_ble_eq_true rfl) dX1_takeSum_212 ⟨rfl, rfl, by decide, by decide⟩ ⟨show 0 + 0 ≤ 0 by omega, show 0 + 0 ≤ 0 by omega⟩) hH (fun r212 w6 n6 H locs hp hH => ?_)
                          obtain ⟨hn1, hfr, hq⟩ := hp
                          rw [hn1] at hH
                          replace hx0 := (hfr (x) (by omega)).trans hx0
                          replace hxa := (hfr (x + 1) (by omega)).trans hxa
                          replace hxb := (hfr (x + 2) (by omega)).trans hxb
                          replace hy0 := (hfr (y) (by omega)).trans hy0
                          replace hya := (hfr (y + 1) (by omega)).trans hya
                          replace hyb := (hfr (y + 2) (by omega)).trans hyb
                          replace hF : ∀ b, b < t ∨ t + 3 ≤ b → w6 b = w b := fun b hb => (hfr b (by omega)).trans (hF b hb)
                          refine lv_if_ne (tgt := 220) S.1 S.2.1 dX1_takeSum_215 (by decide) (fun c215 => ?_) (fun c215 => ?_)
                          · skip
                            rcases hq with ⟨_, L', e1, hpc⟩ | ⟨e1, _⟩
                            rotate_left
                            · exact absurd e1 c215
                            refine lv_iinc (v := nI (u + 1)) (lv' := [(7, .int (nI (u + 1))), (5, .int (nI (j + 1))), (12, .long (lI ((0) + ((sg) * (cf Y j))))), (10, .long (lN (cd Y j))), (9, .int (nI 1)), (8, .int (nI 0)), (0, .ref (t)), (1, .ref (x)), (2, .ref (y)), (3, .int (iI sg)), (4, .int (nI i)), (6, .int (nI (X.length + Y.length)))]) S.1 S.2.1 dX1_takeSum_220 hl (k := 11) rfl (nI_inc _ 1) (by decide) rfl (fun ls hl => ?_)
                            refine lv_goto (tgt := 24) S.1 S.2.1 dX1_takeSum_223 (by decide) ?_
                            exact ih24 _ _ _ _ (by omega) ⟨u + 1, i, j + 1, L', w6, lv_sub hl [6, 7, 8, 9, 10, 1, 11, 0] rfl, hH, hx0, hxa, hxb, hy0, hya, hyb, hpc, hF, by omega, by omega, by omega, hts.trans (tsum_some c28 (by omega) (nxtE hi hj hc) e1), rfl⟩
                          · skip
                            rcases hq with ⟨e1, _⟩ | ⟨_, e1, e2⟩
                            · rw [e1] at c215; exact absurd c215 (by decide)
                            refine lv_iconst (v := nI 0) S.1 S.2.1 dX1_takeSum_218 (by decide) ?_
                            rw [← e2] at hpc
                            exact rt_z S hr hlk hH dX1_takeSum_219 (by decide) (⟨rfl, hF, Or.inr ⟨rfl, hts.trans (tsum_none c28 (by omega) (nxtE hi hj hc) e1), acc, hpc⟩⟩)
                      · skip
                        first | exact absurd c164 (by decide) | exact absurd rfl c164
                    · skip
                      first | exact absurd c137 (by decide) | exact absurd rfl c137
            · skip
              exfalso; rw [pk_lLT (by omega) (by omega)] at c81; omega
    · skip
      refine lv_iload S.1 S.2.1 dX1_takeSum_40 (lv_at hl 5 rfl) ?_
      refine lv_aload_n S.1 S.2.1 dX1_takeSum_42 rfl (lv_at hl 2 rfl) ?_
      refine gfX1_28 S hK hH hy0 dX1_takeSum_43 ?_
      refine bn_ge (tgt := 226) S dX1_takeSum_46 (by decide) (by omega) (fun c46 => ?_) (fun c46 => ?_)
      · skip
        refine lv_iconst (v := nI 1) S.1 S.2.1 dX1_takeSum_226 (by decide) ?_
        exact rt_z S hr hlk hH dX1_takeSum_227 (by decide) (⟨rfl, hF, Or.inl ⟨rfl, acc, by rw [hts]; exact tsum_end (by omega) (by omega), hpc⟩⟩)
      · skip
        rcases ts_cases (X := X) (Y := Y) (i := i) (j := j) (by omega) with ⟨hi, hj⟩ | ⟨hi, hj⟩ | ⟨hi, hj, hc⟩ | ⟨hi, hj, hc⟩ | ⟨hi, hj, hc⟩
        · skip
          have hbx := okx i hi
          refine lv_iload S.1 S.2.1 dX1_takeSum_49 (lv_at hl 4 rfl) ?_
          refine lv_aload_n S.1 S.2.1 dX1_takeSum_51 rfl (lv_at hl 1 rfl) ?_
          refine gfX1_28 S hK hH hx0 dX1_takeSum_52 ?_
          refine bn_ge (tgt := 89) S dX1_takeSum_55 (by decide) (by omega) (fun c55 => ?_) (fun c55 => ?_)
          · skip
            exfalso; omega
          · skip
            refine lv_iload S.1 S.2.1 dX1_takeSum_58 (lv_at hl 5 rfl) ?_
            refine lv_aload_n S.1 S.2.1 dX1_takeSum_60 rfl (lv_at hl 2 rfl) ?_
            refine gfX1_28 S hK hH hy0 dX1_takeSum_61 ?_
            refine bn_ge (tgt := 85) S dX1_takeSum_64 (by decide) (by omega) (fun c64 => ?_) (fun c64 => ?_)
            · skip
              refine lv_iconst (v := nI 1) S.1 S.2.1 dX1_takeSum_85 (by decide) ?_
              refine lv_goto (tgt := 90) S.1 S.2.1 dX1_takeSum_86 (by decide) ?_
              refine lv_istore (lv' := [(8, .int (nI 1)), (0, .ref (t)), (1, .ref (x)), (2, .ref (y)), (3, .int (iI sg)), (4, .int (nI i)), (5, .int (nI j)), (6, .int (nI (X.length + Y.length))), (7, .int (nI u))]) S.1 S.2.1 dX1_takeSum_90 hl (by decide) rfl (fun ls hl => ?_)
              refine lv_iload S.1 S.2.1 dX1_takeSum_92 (lv_at hl 6 rfl) ?_
              refine lv_aload_n S.1 S.2.1 dX1_takeSum_94 rfl (lv_at hl 3 rfl) ?_
              refine gfX1_28 S hK hH hy0 dX1_takeSum_95 ?_
              refine bn_ge (tgt := 132) S dX1_takeSum_98 (by decide) (by omega) (fun c98 => ?_) (fun c98 => ?_)
              · skip
                refine lv_iconst (v := nI 0) S.1 S.2.1 dX1_takeSum_132 (by decide) ?_
                refine lv_istore (lv' := [(9, .int (nI 0)), (8, .int (nI 1)), (0, .ref (t)), (1, .ref (x)), (2, .ref (y)), (3, .int (iI sg)), (4, .int (nI i)), (5, .int (nI j)), (6, .int (nI (X.length + Y.length))), (7, .int (nI u))]) S.1 S.2.1 dX1_takeSum_133 hl (by decide) rfl (fun ls hl => ?_)
                refine lv_iload S.1 S.2.1 dX1_takeSum_135 (lv_at hl 1 rfl) ?_
                refine lv_if_eq (tgt := 150) S.1 S.2.1 dX1_takeSum_137 (by decide) (fun c137 => ?_) (fun c137 => ?_)
                · skip
                  first | exact absurd c137 (by decide) | exact absurd rfl c137
                · skip
                  refine lv_aload_n S.1 S.2.1 dX1_takeSum_140 rfl (lv_at hl 3 rfl) ?_
                  refine gfX1_18 S hK hH hx0 dX1_takeSum_141 ?_
                  refine lv_iload S.1 S.2.1 dX1_takeSum_144 (lv_at hl 6 rfl) ?_
                  refine ald_l S hK hH hxa (by omega) (by omega) dX1_takeSum_146 ?_
                  refine tpl (x' := lN (cd X i)) (hx6 i hi) ?_
                  refine lv_goto (tgt := 157) S.1 S.2.1 dX1_takeSum_147 (by decide) ?_
                  refine lv_lstore (lv' := [(10, .long (lN (cd X i))), (9, .int (nI 0)), (8, .int (nI 1)), (0, .ref (t)), (1, .ref (x)), (2, .ref (y)), (3, .int (iI sg)), (4, .int (nI i)), (5, .int (nI j)), (6, .int (nI (X.length + Y.length))), (7, .int (nI u))]) S.1 S.2.1 dX1_takeSum_157 hl (by decide) rfl (fun ls hl => ?_)
                  refine lv_lconst (v := lI 0) S.1 S.2.1 dX1_takeSum_159 (by decide) ?_
                  refine lv_lstore (lv' := [(12, .long (lI 0)), (10, .long (lN (cd X i))), (9, .int (nI 0)), (8, .int (nI 1)), (0, .ref (t)), (1, .ref (x)), (2, .ref (y)), (3, .int (iI sg)), (4, .int (nI i)), (5, .int (nI j)), (6, .int (nI (X.length + Y.length))), (7, .int (nI u))]) S.1 S.2.1 dX1_takeSum_160 hl (by decide) rfl (fun ls hl => ?_)
                  refine lv_iload S.1 S.2.1 dX1_takeSum_162 (lv_at hl 3 rfl) ?_
                  refine lv_if_eq (tgt := 183) S.1 S.2.1 dX1_takeSum_164 (by decide) (fun c164 => ?_) (fun c164 => ?_)
                  · skip
                    first | exact absurd c164 (by decide) | exact absurd rfl c164
                  · skip
                    refine lv_lload S.1 S.2.1 dX1_takeSum_167 (lv_at hl 0 rfl) ?_
                    refine lv_aload_n S.1 S.2.1 dX1_takeSum_169 rfl (lv_at hl 5 rfl) ?_
                    refine gfX1_24 S hK hH hx0 dX1_takeSum_170 ?_
                    refine lv_iload S.1 S.2.1 dX1_takeSum_173 (lv_at hl 8 rfl) ?_
                    refine ald_i S hK hH hxb (by omega) (by omega) dX1_takeSum_175 ?_
                    refine tpi (x' := iI (cf X i)) (hx7 i hi) ?_
                    refine lv_i2l (v := lI (cf X i)) S.1 S.2.1 dX1_takeSum_176 (iI_l (by omega)) ?_
                    refine lv_ladd S.1 S.2.1 dX1_takeSum_177 ?_
                    refine tpl (x' := lI ((0) + (cf X i))) (lI_add _ _) ?_
                    refine lv_lstore (lv' := [(12, .long (lI ((0) + (cf X i)))), (10, .long (lN (cd X i))), (9, .int (nI 0)), (8, .int (nI 1)), (0, .ref (t)), (1, .ref (x)), (2, .ref (y)), (3, .int (iI sg)), (4, .int (nI i)), (5, .int (nI j)), (6, .int (nI (X.length + Y.length))), (7, .int (nI u))]) S.1 S.2.1 dX1_takeSum_178 hl (by decide) rfl (fun ls hl => ?_)
                    refine lv_iinc (v := nI (i + 1)) (lv' := [(4, .int (nI (i + 1))), (12, .long (lI ((0) + (cf X i)))), (10, .long (lN (cd X i))), (9, .int (nI 0)), (8, .int (nI 1)), (0, .ref (t)), (1, .ref (x)), (2, .ref (y)), (3, .int (iI sg)), (5, .int (nI j)), (6, .int (nI (X.length + Y.length))), (7, .int (nI u))]) S.1 S.2.1 dX1_takeSum_180 hl (k := 8) rfl (nI_inc _ 1) (by decide) rfl (fun ls hl => ?_)
                    refine lv_iload S.1 S.2.1 dX1_takeSum_183 (lv_at hl 3 rfl) ?_
                    refine lv_if_eq (tgt := 207) S.1 S.2.1 dX1_takeSum_185 (by decide) (fun c185 => ?_) (fun c185 => ?_)
                    · skip
                      refine lv_aload_n S.1 S.2.1 dX1_takeSum_207 rfl (lv_at hl 5 rfl) ?_
                      refine lv_lload S.1 S.2.1 dX1_takeSum_208 (lv_at hl 2 rfl) ?_
                      refine lv_lload S.1 S.2.1 dX1_takeSum_210 (lv_at hl 1 rfl) ?_
                      refine ck_i (run_V (As := [.long (lN (cd X i)), .long (lI ((0) + (cf X i)))]) (rest := []) S hK hH (kX1_append t 60 (cd X i) acc ((0) + (cf X i)) 0 tp hpc (by omega)) ceX1_append mW130 hpc.ob rfl rfl hl.1 rfl (Nat.le_of_ble_eq_true rfl) dX1_takeSum_212 ⟨rfl, rfl, by decide, by decide⟩ ⟨show 0 + 0 ≤ 0 by omega, show 0 + 0 ≤ 0 by omega⟩) hH (fun r212 w7 n7 H locs hp hH => ?_)
                      obtain ⟨hn1, hfr, hq⟩ := hp
                      rw [hn1] at hH
                      replace hx0 := (hfr (x) (by omega)).trans hx0
                      replace hxa := (hfr (x + 1) (by omega)).trans hxa
                      replace hxb := (hfr (x + 2) (by omega)).trans hxb
                      replace hy0 := (hfr (y) (by omega)).trans hy0
                      replace hya := (hfr (y + 1) (by omega)).trans hya
                      replace hyb := (hfr (y + 2) (by omega)).trans hyb
                      replace hF : ∀ b, b < t ∨ t + 3 ≤ b → w7 b = w b := fun b hb => (hfr b (by omega)).trans (hF b hb)
                      refine lv_if_ne (tgt := 220) S.1 S.2.1 dX1_takeSum_215 (by decide) (fun c215 => ?_) (fun c215 => ?_)
                      · skip
                        rcases hq with ⟨_, L', e1, hpc⟩ | ⟨e1, _⟩
                        rotate_left
                        · exact absurd e1 c215
                        refine lv_iinc (v := nI (u + 1)) (lv' := [(7, .int (nI (u + 1))), (4, .int (nI (i + 1))), (12, .long (lI ((0) + (cf X i)))), (10, .long (lN (cd X i))), (9, .int (nI 0)), (8, .int (nI 1)), (0, .ref (t)), (1, .ref (x)), (2, .ref (y)), (3, .int (iI sg)), (5, .int (nI j)), (6, .int (nI (X.length + Y.length)))]) S.1 S.2.1 dX1_takeSum_220 hl (k := 11) rfl (nI_inc _ 1) (by decide) rfl (fun ls hl => ?_)
                        refine lv_goto (tgt := 24) S.1 S.2.1 dX1_takeSum_223 (by decide) ?_
                        exact ih24 _ _ _ _ (by omega) ⟨u + 1, i + 1, j, L', w7, lv_sub hl [6, 7, 8, 9, 1, 10, 11, 0] rfl, hH, hx0, hxa, hxb, hy0, hya, hyb, hpc, hF, by omega, by omega, by omega, hts.trans (tsum_some c28 (by omega) (nxtA hi hj) e1), rfl⟩
                      · skip
                        rcases hq with ⟨e1, _⟩ | ⟨_, e1, e2⟩
                        · rw [e1] at c215; exact absurd c215 (by decide)
                        refine lv_iconst (v := nI 0) S.1 S.2.1 dX1_takeSum_218 (by decide) ?_
                        rw [← e2] at hpc
                        exact rt_z S hr hlk hH dX1_takeSum_219 (by decide) (⟨rfl, hF, Or.inr ⟨rfl, hts.trans (tsum_none c28 (by omega) (nxtA hi hj) e1), acc, hpc⟩⟩)
                    · skip
                      first | exact absurd c185 (by decide) | exact absurd rfl c185
              · skip
                exfalso; omega
            · skip
              exfalso; omega
        · skip
          have hby := oky j hj
          have hbs := sg_b hsg hby.2
          refine lv_iload S.1 S.2.1 dX1_takeSum_49 (lv_at hl 4 rfl) ?_
          refine lv_aload_n S.1 S.2.1 dX1_takeSum_51 rfl (lv_at hl 1 rfl) ?_
          refine gfX1_28 S hK hH hx0 dX1_takeSum_52 ?_
          refine bn_ge (tgt := 89) S dX1_takeSum_55 (by decide) (by omega) (fun c55 => ?_) (fun c55 => ?_)
          · skip
            refine lv_iconst (v := nI 0) S.1 S.2.1 dX1_takeSum_89 (by decide) ?_
            refine lv_istore (lv' := [(8, .int (nI 0)), (0, .ref (t)), (1, .ref (x)), (2, .ref (y)), (3, .int (iI sg)), (4, .int (nI i)), (5, .int (nI j)), (6, .int (nI (X.length + Y.length))), (7, .int (nI u))]) S.1 S.2.1 dX1_takeSum_90 hl (by decide) rfl (fun ls hl => ?_)
            refine lv_iload S.1 S.2.1 dX1_takeSum_92 (lv_at hl 6 rfl) ?_
            refine lv_aload_n S.1 S.2.1 dX1_takeSum_94 rfl (lv_at hl 3 rfl) ?_
            refine gfX1_28 S hK hH hy0 dX1_takeSum_95 ?_
            refine bn_ge (tgt := 132) S dX1_takeSum_98 (by decide) (by omega) (fun c98 => ?_) (fun c98 => ?_)
            · skip
              exfalso; omega
            · skip
              refine lv_iload S.1 S.2.1 dX1_takeSum_101 (lv_at hl 5 rfl) ?_
              refine lv_aload_n S.1 S.2.1 dX1_takeSum_103 rfl (lv_at hl 2 rfl) ?_
              refine gfX1_28 S hK hH hx0 dX1_takeSum_104 ?_
              refine bn_ge (tgt := 128) S dX1_takeSum_107 (by decide) (by omega) (fun c107 => ?_) (fun c107 => ?_)
              · skip
                refine lv_iconst (v := nI 1) S.1 S.2.1 dX1_takeSum_128 (by decide) ?_
                refine lv_goto (tgt := 133) S.1 S.2.1 dX1_takeSum_129 (by decide) ?_
                refine lv_istore (lv' := [(9, .int (nI 1)), (8, .int (nI 0)), (0, .ref (t)), (1, .ref (x)), (2, .ref (y)), (3, .int (iI sg)), (4, .int (nI i)), (5, .int (nI j)), (6, .int (nI (X.length + Y.length))), (7, .int (nI u))]) S.1 S.2.1 dX1_takeSum_133 hl (by decide) rfl (fun ls hl => ?_)
                refine lv_iload S.1 S.2.1 dX1_takeSum_135 (lv_at hl 1 rfl) ?_
                refine lv_if_eq (tgt := 150) S.1 S.2.1 dX1_takeSum_137 (by decide) (fun c137 => ?_) (fun c137 => ?_)
                · skip
                  refine lv_aload_n S.1 S.2.1 dX1_takeSum_150 rfl (lv_at hl 4 rfl) ?_
                  refine gfX1_18 S hK hH hy0 dX1_takeSum_151 ?_
                  refine lv_iload S.1 S.2.1 dX1_takeSum_154 (lv_at hl 7 rfl) ?_
                  refine ald_l S hK hH hya (by omega) (by omega) dX1_takeSum_156 ?_
                  refine tpl (x' := lN (cd Y j)) (hy6 j hj) ?_
                  refine lv_lstore (lv' := [(10, .long (lN (cd Y j))), (9, .int (nI 1)), (8, .int (nI 0)), (0, .ref (t)), (1, .ref (x)), (2, .ref (y)), (3, .int (iI sg)), (4, .int (nI i)), (5, .int (nI j)), (6, .int (nI (X.length + Y.length))), (7, .int (nI u))]) S.1 S.2.1 dX1_takeSum_157 hl (by decide) rfl (fun ls hl => ?_)
                  refine lv_lconst (v := lI 0) S.1 S.2.1 dX1_takeSum_159 (by decide) ?_
                  refine lv_lstore (lv' := [(12, .long (lI 0)), (10, .long (lN (cd Y j))), (9, .int (nI 1)), (8, .int (nI 0)), (0, .ref (t)), (1, .ref (x)), (2, .ref (y)), (3, .int (iI sg)), (4, .int (nI i)), (5, .int (nI j)), (6, .int (nI (X.length + Y.length))), (7, .int (nI u))]) S.1 S.2.1 dX1_takeSum_160 hl (by decide) rfl (fun ls hl => ?_)
                  refine lv_iload S.1 S.2.1 dX1_takeSum_162 (lv_at hl 3 rfl) ?_
                  refine lv_if_eq (tgt := 183) S.1 S.2.1 dX1_takeSum_164 (by decide) (fun c164 => ?_) (fun c164 => ?_)
                  · skip
                    refine lv_iload S.1 S.2.1 dX1_takeSum_183 (lv_at hl 2 rfl) ?_
                    refine lv_if_eq (tgt := 207) S.1 S.2.1 dX1_takeSum_185 (by decide) (fun c185 => ?_) (fun c185 => ?_)
                    · skip
                      first | exact absurd c185 (by decide) | exact absurd rfl c185
                    · skip
                      refine lv_lload S.1 S.2.1 dX1_takeSum_188 (lv_at hl 0 rfl) ?_
                      refine lv_iload_n S.1 S.2.1 dX1_takeSum_190 rfl (lv_at hl 7 rfl) ?_
                      refine lv_i2l (v := lI (sg)) S.1 S.2.1 dX1_takeSum_191 (iI_l (by omega)) ?_
                      refine lv_aload_n S.1 S.2.1 dX1_takeSum_192 rfl (lv_at hl 6 rfl) ?_
                      refine gfX1_24 S hK hH hy0 dX1_takeSum_193 ?_
                      refine lv_iload S.1 S.2.1 dX1_takeSum_196 (lv_at hl 9 rfl) ?_
                      refine ald_i S hK hH hyb (by omega) (by omega) dX1_takeSum_198 ?_
                      refine tpi (x' := iI (cf Y j)) (hy7 j hj) ?_
                      refine lv_i2l (v := lI (cf Y j)) S.1 S.2.1 dX1_takeSum_199 (iI_l (by omega)) ?_
                      refine lv_lmul S.1 S.2.1 dX1_takeSum_200 ?_
                      refine tpl (x' := lI ((sg) * (cf Y j))) (lI_mul _ _) ?_
                      refine lv_ladd S.1 S.2.1 dX1_takeSum_201 ?_
                      refine tpl (x' := lI ((0) + ((sg) * (cf Y j)))) (lI_add _ _) ?_
                      refine lv_lstore (lv' := [(12, .long (lI ((0) + ((sg) * (cf Y j))))), (10, .long (lN (cd Y j))), (9, .int (nI 1)), (8, .int (nI 0)), (0, .ref (t)), (1, .ref (x)), (2, .ref (y)), (3, .int (iI sg)), (4, .int (nI i)), (5, .int (nI j)), (6, .int (nI (X.length + Y.length))), (7, .int (nI u))]) S.1 S.2.1 dX1_takeSum_202 hl (by decide) rfl (fun ls hl => ?_)
                      refine lv_iinc (v := nI (j + 1)) (lv' := [(5, .int (nI (j + 1))), (12, .long (lI ((0) + ((sg) * (cf Y j))))), (10, .long (lN (cd Y j))), (9, .int (nI 1)), (8, .int (nI 0)), (0, .ref (t)), (1, .ref (x)), (2, .ref (y)), (3, .int (iI sg)), (4, .int (nI i)), (6, .int (nI (X.length + Y.length))), (7, .int (nI u))]) S.1 S.2.1 dX1_takeSum_204 hl (k := 9) rfl (nI_inc _ 1) (by decide) rfl (fun ls hl => ?_)
                      refine lv_aload_n S.1 S.2.1 dX1_takeSum_207 rfl (lv_at hl 5 rfl) ?_
                      refine lv_lload S.1 S.2.1 dX1_takeSum_208 (lv_at hl 2 rfl) ?_
                      refine lv_lload S.1 S.2.1 dX1_takeSum_210 (lv_at hl 1 rfl) ?_
                      refine ck_i (run_V (As := [.long (lN (cd Y j)), .long (lI ((0) + ((sg) * (cf Y j))))]) (rest := []) S hK hH (kX1_append t 60 (cd Y j) acc ((0) + ((sg) * (cf Y j))) 0 tp hpc (by omega)) ceX1_append mW130 hpc.ob rfl rfl hl.1 rfl (Nat.le_of_ble_eq_true rfl) dX1_takeSum_212 ⟨rfl, rfl, by decide, by decide⟩ ⟨show 0 + 0 ≤ 0 by omega, show 0 + 0 ≤ 0 by omega⟩) hH (fun r212 w8 n8 H locs hp hH => ?_)
                      obtain ⟨hn1, hfr, hq⟩ := hp
                      rw [hn1] at hH
                      replace hx0 := (hfr (x) (by omega)).trans hx0
                      replace hxa := (hfr (x + 1) (by omega)).trans hxa
                      replace hxb := (hfr (x + 2) (by omega)).trans hxb
                      replace hy0 := (hfr (y) (by omega)).trans hy0
                      replace hya := (hfr (y + 1) (by omega)).trans hya
                      replace hyb := (hfr (y + 2) (by omega)).trans hyb
                      replace hF : ∀ b, b < t ∨ t + 3 ≤ b → w8 b = w b := fun b hb => (hfr b (by omega)).trans (hF b hb)
                      refine lv_if_ne (tgt := 220) S.1 S.2.1 dX1_takeSum_215 (by decide) (fun c215 => ?_) (fun c215 => ?_)
                      · skip
                        rcases hq with ⟨_, L', e1, hpc⟩ | ⟨e1, _⟩
                        rotate_left
                        · exact absurd e1 c215
                        refine lv_iinc (v := nI (u + 1)) (lv' := [(7, .int (nI (u + 1))), (5, .int (nI (j + 1))), (12, .long (lI ((0) + ((sg) * (cf Y j))))), (10, .long (lN (cd Y j))), (9, .int (nI 1)), (8, .int (nI 0)), (0, .ref (t)), (1, .ref (x)), (2, .ref (y)), (3, .int (iI sg)), (4, .int (nI i)), (6, .int (nI (X.length + Y.length)))]) S.1 S.2.1 dX1_takeSum_220 hl (k := 11) rfl (nI_inc _ 1) (by decide) rfl (fun ls hl => ?_)
                        refine lv_goto (tgt := 24) S.1 S.2.1 dX1_takeSum_223 (by decide) ?_
                        exact ih24 _ _ _ _ (by omega) ⟨u + 1, i, j + 1, L', w8, lv_sub hl [6, 7, 8, 9, 10, 1, 11, 0] rfl, hH, hx0, hxa, hxb, hy0, hya, hyb, hpc, hF, by omega, by omega, by omega, hts.trans (tsum_some c28 (by omega) (nxtB hi hj) e1), rfl⟩
                      · skip
                        rcases hq with ⟨e1, _⟩ | ⟨_, e1, e2⟩
                        · rw [e1] at c215; exact absurd c215 (by decide)
                        refine lv_iconst (v := nI 0) S.1 S.2.1 dX1_takeSum_218 (by decide) ?_
                        rw [← e2] at hpc
                        exact rt_z S hr hlk hH dX1_takeSum_219 (by decide) (⟨rfl, hF, Or.inr ⟨rfl, hts.trans (tsum_none c28 (by omega) (nxtB hi hj) e1), acc, hpc⟩⟩)
                  · skip
                    first | exact absurd c164 (by decide) | exact absurd rfl c164
                · skip
                  first | exact absurd c137 (by decide) | exact absurd rfl c137
              · skip
                exfalso; omega
          · skip
            exfalso; omega
        · skip
          have hbx := okx i hi
          have hby := oky j hj
          refine lv_iload S.1 S.2.1 dX1_takeSum_49 (lv_at hl 4 rfl) ?_
          refine lv_aload_n S.1 S.2.1 dX1_takeSum_51 rfl (lv_at hl 1 rfl) ?_
          refine gfX1_28 S hK hH hx0 dX1_takeSum_52 ?_
          refine bn_ge (tgt := 89) S dX1_takeSum_55 (by decide) (by omega) (fun c55 => ?_) (fun c55 => ?_)
          · skip
            exfalso; omega
          · skip
            refine lv_iload S.1 S.2.1 dX1_takeSum_58 (lv_at hl 5 rfl) ?_
            refine lv_aload_n S.1 S.2.1 dX1_takeSum_60 rfl (lv_at hl 2 rfl) ?_
            refine gfX1_28 S hK hH hy0 dX1_takeSum_61 ?_
            refine bn_ge (tgt := 85) S dX1_takeSum_64 (by decide) (by omega) (fun c64 => ?_) (fun c64 => ?_)
            · skip
              exfalso; omega
            · skip
              refine lv_aload_n S.1 S.2.1 dX1_takeSum_67 rfl (lv_at hl 1 rfl) ?_
              refine gfX1_18 S hK hH hx0 dX1_takeSum_68 ?_
              refine lv_iload S.1 S.2.1 dX1_takeSum_71 (lv_at hl 4 rfl) ?_
              refine ald_l S hK hH hxa (by omega) (by omega) dX1_takeSum_73 ?_
              refine tpl (x' := lN (cd X i)) (hx6 i hi) ?_
              refine lv_aload_n S.1 S.2.1 dX1_takeSum_74 rfl (lv_at hl 2 rfl) ?_
              refine gfX1_18 S hK hH hy0 dX1_takeSum_75 ?_
              refine lv_iload S.1 S.2.1 dX1_takeSum_78 (lv_at hl 5 rfl) ?_
              refine ald_l S hK hH hya (by omega) (by omega) dX1_takeSum_80 ?_
              refine tpl (x' := lN (cd Y j)) (hy6 j hj) ?_
              refine bl_lt (tgt := 89) S dX1_takeSum_81 dX1_takeSum_82 (by decide) (fun c81 => ?_) (fun c81 => ?_)
              · skip
                exfalso; rw [pk_lLT (by omega) (by omega)] at c81; omega
              · skip
                refine lv_iconst (v := nI 1) S.1 S.2.1 dX1_takeSum_85 (by decide) ?_
                refine lv_goto (tgt := 90) S.1 S.2.1 dX1_takeSum_86 (by decide) ?_
                refine lv_istore (lv' := [(8, .int (nI 1)), (0, .ref (t)), (1, .ref (x)), (2, .ref (y)), (3, .int (iI sg)), (4, .int (nI i)), (5, .int (nI j)), (6, .int (nI (X.length + Y.length))), (7, .int (nI u))]) S.1 S.2.1 dX1_takeSum_90 hl (by decide) rfl (fun ls hl => ?_)
                refine lv_iload S.1 S.2.1 dX1_takeSum_92 (lv_at hl 6 rfl) ?_
                refine lv_aload_n S.1 S.2.1 dX1_takeSum_94 rfl (lv_at hl 3 rfl) ?_
                refine gfX1_28 S hK hH hy0 dX1_takeSum_95 ?_
                refine bn_ge (tgt := 132) S dX1_takeSum_98 (by decide) (by omega) (fun c98 => ?_) (fun c98 => ?_)
                · skip
                  exfalso; omega
                · skip
                  refine lv_iload S.1 S.2.1 dX1_takeSum_101 (lv_at hl 5 rfl) ?_
                  refine lv_aload_n S.1 S.2.1 dX1_takeSum_103 rfl (lv_at hl 2 rfl) ?_
                  refine gfX1_28 S hK hH hx0 dX1_takeSum_104 ?_
                  refine bn_ge (tgt := 128) S dX1_takeSum_107 (by decide) (by omega) (fun c107 => ?_) (fun c107 => ?_)
                  · skip
                    exfalso; omega
                  · skip
                    refine lv_aload_n S.1 S.2.1 dX1_takeSum_110 rfl (lv_at hl 3 rfl) ?_
                    refine gfX1_18 S hK hH hy0 dX1_takeSum_111 ?_
                    refine lv_iload S.1 S.2.1 dX1_takeSum_114 (lv_at hl 6 rfl) ?_
                    refine ald_l S hK hH hya (by omega) (by omega) dX1_takeSum_116 ?_
                    refine tpl (x' := lN (cd Y j)) (hy6 j hj) ?_
                    refine lv_aload_n S.1 S.2.1 dX1_takeSum_117 rfl (lv_at hl 2 rfl) ?_
                    refine gfX1_18 S hK hH hx0 dX1_takeSum_118 ?_
                    refine lv_iload S.1 S.2.1 dX1_takeSum_121 (lv_at hl 5 rfl) ?_
                    refine ald_l S hK hH hxa (by omega) (by omega) dX1_takeSum_123 ?_
                    refine tpl (x' := lN (cd X i)) (hx6 i hi) ?_
                    refine bl_lt (tgt := 132) S dX1_takeSum_124 dX1_takeSum_125 (by decide) (fun c124 => ?_) (fun c124 => ?_)
                    · skip
                      refine lv_iconst (v := nI 0) S.1 S.2.1 dX1_takeSum_132 (by decide) ?_
                      refine lv_istore (lv' := [(9, .int (nI 0)), (8, .int (nI 1)), (0, .ref (t)), (1, .ref (x)), (2, .ref (y)), (3, .int (iI sg)), (4, .int (nI i)), (5, .int (nI j)), (6, .int (nI (X.length + Y.length))), (7, .int (nI u))]) S.1 S.2.1 dX1_takeSum_133 hl (by decide) rfl (fun ls hl => ?_)
                      refine lv_iload S.1 S.2.1 dX1_takeSum_135 (lv_at hl 1 rfl) ?_
                      refine lv_if_eq (tgt := 150) S.1 S.2.1 dX1_takeSum_137 (by decide) (fun c137 => ?_) (fun c137 => ?_)
                      · skip
                        first | exact absurd c137 (by decide) | exact absurd rfl c137
                      · skip
                        refine lv_aload_n S.1 S.2.1 dX1_takeSum_140 rfl (lv_at hl 3 rfl) ?_
                        refine gfX1_18 S hK hH hx0 dX1_takeSum_141 ?_
                        refine lv_iload S.1 S.2.1 dX1_takeSum_144 (lv_at hl 6 rfl) ?_
                        refine ald_l S hK hH hxa (by omega) (by omega) dX1_takeSum_146 ?_
                        refine tpl (x' := lN (cd X i)) (hx6 i hi) ?_
                        refine lv_goto (tgt := 157) S.1 S.2.1 dX1_takeSum_147 (by decide) ?_
                        refine lv_lstore (lv' := [(10, .long (lN (cd X i))), (9, .int (nI 0)), (8, .int (nI 1)), (0, .ref (t)), (1, .ref (x)), (2, .ref (y)), (3, .int (iI sg)), (4, .int (nI i)), (5, .int (nI j)), (6, .int (nI (X.length + Y.length))), (7, .int (nI u))]) S.1 S.2.1 dX1_takeSum_157 hl (by decide) rfl (fun ls hl => ?_)
                        refine lv_lconst (v := lI 0) S.1 S.2.1 dX1_takeSum_159 (by decide) ?_
                        refine lv_lstore (lv' := [(12, .long (lI 0)), (10, .long (lN (cd X i))), (9, .int (nI 0)), (8, .int (nI 1)), (0, .ref (t)), (1, .ref (x)), (2, .ref (y)), (3, .int (iI sg)), (4, .int (nI i)), (5, .int (nI j)), (6, .int (nI (X.length + Y.length))), (7, .int (nI u))]) S.1 S.2.1 dX1_takeSum_160 hl (by decide) rfl (fun ls hl => ?_)
                        refine lv_iload S.1 S.2.1 dX1_takeSum_162 (lv_at hl 3 rfl) ?_
                        refine lv_if_eq (tgt := 183) S.1 S.2.1 dX1_takeSum_164 (by decide) (fun c164 => ?_) (fun c164 => ?_)
                        · skip
                          first | exact absurd c164 (by decide) | exact absurd rfl c164
                        · skip
                          refine lv_lload S.1 S.2.1 dX1_takeSum_167 (lv_at hl 0 rfl) ?_
                          refine lv_aload_n S.1 S.2.1 dX1_takeSum_169 rfl (lv_at hl 5 rfl) ?_
                          refine gfX1_24 S hK hH hx0 dX1_takeSum_170 ?_
                          refine lv_iload S.1 S.2.1 dX1_takeSum_173 (lv_at hl 8 rfl) ?_
                          refine ald_i S hK hH hxb (by omega) (by omega) dX1_takeSum_175 ?_
                          refine tpi (x' := iI (cf X i)) (hx7 i hi) ?_
                          refine lv_i2l (v := lI (cf X i)) S.1 S.2.1 dX1_takeSum_176 (iI_l (by omega)) ?_
                          refine lv_ladd S.1 S.2.1 dX1_takeSum_177 ?_
                          refine tpl (x' := lI ((0) + (cf X i))) (lI_add _ _) ?_
                          refine lv_lstore (lv' := [(12, .long (lI ((0) + (cf X i)))), (10, .long (lN (cd X i))), (9, .int (nI 0)), (8, .int (nI 1)), (0, .ref (t)), (1, .ref (x)), (2, .ref (y)), (3, .int (iI sg)), (4, .int (nI i)), (5, .int (nI j)), (6, .int (nI (X.length + Y.length))), (7, .int (nI u))]) S.1 S.2.1 dX1_takeSum_178 hl (by decide) rfl (fun ls hl => ?_)
                          refine lv_iinc (v := nI (i + 1)) (lv' := [(4, .int (nI (i + 1))), (12, .long (lI ((0) + (cf X i)))), (10, .long (lN (cd X i))), (9, .int (nI 0)), (8, .int (nI 1)), (0, .ref (t)), (1, .ref (x)), (2, .ref (y)), (3, .int (iI sg)), (5, .int (nI j)), (6, .int (nI (X.length + Y.length))), (7, .int (nI u))]) S.1 S.2.1 dX1_takeSum_180 hl (k := 8) rfl (nI_inc _ 1) (by decide) rfl (fun ls hl => ?_)
                          refine lv_iload S.1 S.2.1 dX1_takeSum_183 (lv_at hl 3 rfl) ?_
                          refine lv_if_eq (tgt := 207) S.1 S.2.1 dX1_takeSum_185 (by decide) (fun c185 => ?_) (fun c185 => ?_)
                          · skip
                            refine lv_aload_n S.1 S.2.1 dX1_takeSum_207 rfl (lv_at hl 5 rfl) ?_
                            refine lv_lload S.1 S.2.1 dX1_takeSum_208 (lv_at hl 2 rfl) ?_
                            refine lv_lload S.1 S.2.1 dX1_takeSum_210 (lv_at hl 1 rfl) ?_
                            refine ck_i (run_V (As := [.long (lN (cd X i)), .long (lI ((0) + (cf X i)))]) (rest := []) S hK hH (kX1_append t 60 (cd X i) acc ((0) + (cf X i)) 0 tp hpc (by omega)) ceX1_append mW130 hpc.ob rfl rfl hl.1 rfl (Nat.le_of_ble_eq_true rfl) dX1_takeSum_212 ⟨rfl, rfl, by decide, by decide⟩ ⟨show 0 + 0 ≤ 0 by omega, show 0 + 0 ≤ 0 by omega⟩) hH (fun r212 w9 n9 H locs hp hH => ?_)
                            obtain ⟨hn1, hfr, hq⟩ := hp
                            rw [hn1] at hH
                            replace hx0 := (hfr (x) (by omega)).trans hx0
                            replace hxa := (hfr (x + 1) (by omega)).trans hxa
                            replace hxb := (hfr (x + 2) (by omega)).trans hxb
                            replace hy0 := (hfr (y) (by omega)).trans hy0
                            replace hya := (hfr (y + 1) (by omega)).trans hya
                            replace hyb := (hfr (y + 2) (by omega)).trans hyb
                            replace hF : ∀ b, b < t ∨ t + 3 ≤ b → w9 b = w b := fun b hb => (hfr b (by omega)).trans (hF b hb)
                            refine lv_if_ne (tgt := 220) S.1 S.2.1 dX1_takeSum_215 (by decide) (fun c215 => ?_) (fun c215 => ?_)
                            · skip
                              rcases hq with ⟨_, L', e1, hpc⟩ | ⟨e1, _⟩
                              rotate_left
                              · exact absurd e1 c215
                              refine lv_iinc (v := nI (u + 1)) (lv' := [(7, .int (nI (u + 1))), (4, .int (nI (i + 1))), (12, .long (lI ((0) + (cf X i)))), (10, .long (lN (cd X i))), (9, .int (nI 0)), (8, .int (nI 1)), (0, .ref (t)), (1, .ref (x)), (2, .ref (y)), (3, .int (iI sg)), (5, .int (nI j)), (6, .int (nI (X.length + Y.length)))]) S.1 S.2.1 dX1_takeSum_220 hl (k := 11) rfl (nI_inc _ 1) (by decide) rfl (fun ls hl => ?_)
                              refine lv_goto (tgt := 24) S.1 S.2.1 dX1_takeSum_223 (by decide) ?_
                              exact ih24 _ _ _ _ (by omega) ⟨u + 1, i + 1, j, L', w9, lv_sub hl [6, 7, 8, 9, 1, 10, 11, 0] rfl, hH, hx0, hxa, hxb, hy0, hya, hyb, hpc, hF, by omega, by omega, by omega, hts.trans (tsum_some c28 (by omega) (nxtC hi hj hc) e1), rfl⟩
                            · skip
                              rcases hq with ⟨e1, _⟩ | ⟨_, e1, e2⟩
                              · rw [e1] at c215; exact absurd c215 (by decide)
                              refine lv_iconst (v := nI 0) S.1 S.2.1 dX1_takeSum_218 (by decide) ?_
                              rw [← e2] at hpc
                              exact rt_z S hr hlk hH dX1_takeSum_219 (by decide) (⟨rfl, hF, Or.inr ⟨rfl, hts.trans (tsum_none c28 (by omega) (nxtC hi hj hc) e1), acc, hpc⟩⟩)
                          · skip
                            first | exact absurd c185 (by decide) | exact absurd rfl c185
                    · skip
                      exfalso; rw [pk_lLT (by omega) (by omega)] at c124; omega
        · skip
          have hbx := okx i hi
          have hby := oky j hj
          have hbs := sg_b hsg hby.2
          refine lv_iload S.1 S.2.1 dX1_takeSum_49 (lv_at hl 4 rfl) ?_
          refine lv_aload_n S.1 S.2.1 dX1_takeSum_51 rfl (lv_at hl 1 rfl) ?_
          refine gfX1_28 S hK hH hx0 dX1_takeSum_52 ?_
          refine bn_ge (tgt := 89) S dX1_takeSum_55 (by decide) (by omega) (fun c55 => ?_) (fun c55 => ?_)
          · skip
            exfalso; omega
          · skip
            refine lv_iload S.1 S.2.1 dX1_takeSum_58 (lv_at hl 5 rfl) ?_
            refine lv_aload_n S.1 S.2.1 dX1_takeSum_60 rfl (lv_at hl 2 rfl) ?_
            refine gfX1_28 S hK hH hy0 dX1_takeSum_61 ?_
            refine bn_ge (tgt := 85) S dX1_takeSum_64 (by decide) (by omega) (fun c64 => ?_) (fun c64 => ?_)
            · skip
              exfalso; omega
            · skip
              refine lv_aload_n S.1 S.2.1 dX1_takeSum_67 rfl (lv_at hl 1 rfl) ?_
              refine gfX1_18 S hK hH hx0 dX1_takeSum_68 ?_
              refine lv_iload S.1 S.2.1 dX1_takeSum_71 (lv_at hl 4 rfl) ?_
              refine ald_l S hK hH hxa (by omega) (by omega) dX1_takeSum_73 ?_
              refine tpl (x' := lN (cd X i)) (hx6 i hi) ?_
              refine lv_aload_n S.1 S.2.1 dX1_takeSum_74 rfl (lv_at hl 2 rfl) ?_
              refine gfX1_18 S hK hH hy0 dX1_takeSum_75 ?_
              refine lv_iload S.1 S.2.1 dX1_takeSum_78 (lv_at hl 5 rfl) ?_
              refine ald_l S hK hH hya (by omega) (by omega) dX1_takeSum_80 ?_
              refine tpl (x' := lN (cd Y j)) (hy6 j hj) ?_
              refine bl_lt (tgt := 89) S dX1_takeSum_81 dX1_takeSum_82 (by decide) (fun c81 => ?_) (fun c81 => ?_)
              · skip
                exfalso; rw [pk_lLT (by omega) (by omega)] at c81; omega
              · skip
                refine lv_iconst (v := nI 1) S.1 S.2.1 dX1_takeSum_85 (by decide) ?_
                refine lv_goto (tgt := 90) S.1 S.2.1 dX1_takeSum_86 (by decide) ?_
                refine lv_istore (lv' := [(8, .int (nI 1)), (0, .ref (t)), (1, .ref (x)), (2, .ref (y)), (3, .int (iI sg)), (4, .int (nI i)), (5, .int (nI j)), (6, .int (nI (X.length + Y.length))), (7, .int (nI u))]) S.1 S.2.1 dX1_takeSum_90 hl (by decide) rfl (fun ls hl => ?_)
                refine lv_iload S.1 S.2.1 dX1_takeSum_92 (lv_at hl 6 rfl) ?_
                refine lv_aload_n S.1 S.2.1 dX1_takeSum_94 rfl (lv_at hl 3 rfl) ?_
                refine gfX1_28 S hK hH hy0 dX1_takeSum_95 ?_
                refine bn_ge (tgt := 132) S dX1_takeSum_98 (by decide) (by omega) (fun c98 => ?_) (fun c98 => ?_)
                · skip
                  exfalso; omega
                · skip
                  refine lv_iload S.1 S.2.1 dX1_takeSum_101 (lv_at hl 5 rfl) ?_
                  refine lv_aload_n S.1 S.2.1 dX1_takeSum_103 rfl (lv_at hl 2 rfl) ?_
                  refine gfX1_28 S hK hH hx0 dX1_takeSum_104 ?_
                  refine bn_ge (tgt := 128) S dX1_takeSum_107 (by decide) (by omega) (fun c107 => ?_) (fun c107 => ?_)
                  · skip
                    exfalso; omega
                  · skip
                    refine lv_aload_n S.1 S.2.1 dX1_takeSum_110 rfl (lv_at hl 3 rfl) ?_
                    refine gfX1_18 S hK hH hy0 dX1_takeSum_111 ?_
                    refine lv_iload S.1 S.2.1 dX1_takeSum_114 (lv_at hl 6 rfl) ?_
                    refine ald_l S hK hH hya (by omega) (by omega) dX1_takeSum_116 ?_
                    refine tpl (x' := lN (cd Y j)) (hy6 j hj) ?_
                    refine lv_aload_n S.1 S.2.1 dX1_takeSum_117 rfl (lv_at hl 2 rfl) ?_
                    refine gfX1_18 S hK hH hx0 dX1_takeSum_118 ?_
                    refine lv_iload S.1 S.2.1 dX1_takeSum_121 (lv_at hl 5 rfl) ?_
                    refine ald_l S hK hH hxa (by omega) (by omega) dX1_takeSum_123 ?_
                    refine tpl (x' := lN (cd X i)) (hx6 i hi) ?_
                    refine bl_lt (tgt := 132) S dX1_takeSum_124 dX1_takeSum_125 (by decide) (fun c124 => ?_) (fun c124 => ?_)
                    · skip
                      exfalso; rw [pk_lLT (by omega) (by omega)] at c124; omega
                    · skip
                      refine lv_iconst (v := nI 1) S.1 S.2.1 dX1_takeSum_128 (by decide) ?_
                      refine lv_goto (tgt := 133) S.1 S.2.1 dX1_takeSum_129 (by decide) ?_
                      refine lv_istore (lv' := [(9, .int (nI 1)), (8, .int (nI 1)), (0, .ref (t)), (1, .ref (x)), (2, .ref (y)), (3, .int (iI sg)), (4, .int (nI i)), (5, .int (nI j)), (6, .int (nI (X.length + Y.length))), (7, .int (nI u))]) S.1 S.2.1 dX1_takeSum_133 hl (by decide) rfl (fun ls hl => ?_)
                      refine lv_iload S.1 S.2.1 dX1_takeSum_135 (lv_at hl 1 rfl) ?_
                      refine lv_if_eq (tgt := 150) S.1 S.2.1 dX1_takeSum_137 (by decide) (fun c137 => ?_) (fun c137 => ?_)
                      · skip
                        first | exact absurd c137 (by decide) | exact absurd rfl c137
                      · skip
                        refine lv_aload_n S.1 S.2.1 dX1_takeSum_140 rfl (lv_at hl 3 rfl) ?_
                        refine gfX1_18 S hK hH hx0 dX1_takeSum_141 ?_
                        refine lv_iload S.1 S.2.1 dX1_takeSum_144 (lv_at hl 6 rfl) ?_
                        refine ald_l S hK hH hxa (by omega) (by omega) dX1_takeSum_146 ?_
                        refine tpl (x' := lN (cd X i)) (hx6 i hi) ?_
                        refine lv_goto (tgt := 157) S.1 S.2.1 dX1_takeSum_147 (by decide) ?_
                        refine lv_lstore (lv' := [(10, .long (lN (cd X i))), (9, .int (nI 1)), (8, .int (nI 1)), (0, .ref (t)), (1, .ref (x)), (2, .ref (y)), (3, .int (iI sg)), (4, .int (nI i)), (5, .int (nI j)), (6, .int (nI (X.length + Y.length))), (7, .int (nI u))]) S.1 S.2.1 dX1_takeSum_157 hl (by decide) rfl (fun ls hl => ?_)
                        refine lv_lconst (v := lI 0) S.1 S.2.1 dX1_takeSum_159 (by decide) ?_
                        refine lv_lstore (lv' := [(12, .long (lI 0)), (10, .long (lN (cd X i))), (9, .int (nI 1)), (8, .int (nI 1)), (0, .ref (t)), (1, .ref (x)), (2, .ref (y)), (3, .int (iI sg)), (4, .int (nI i)), (5, .int (nI j)), (6, .int (nI (X.length + Y.length))), (7, .int (nI u))]) S.1 S.2.1 dX1_takeSum_160 hl (by decide) rfl (fun ls hl => ?_)
                        refine lv_iload S.1 S.2.1 dX1_takeSum_162 (lv_at hl 3 rfl) ?_
                        refine lv_if_eq (tgt := 183) S.1 S.2.1 dX1_takeSum_164 (by decide) (fun c164 => ?_) (fun c164 => ?_)
                        · skip
                          first | exact absurd c164 (by decide) | exact absurd rfl c164
                        · skip
                          refine lv_lload S.1 S.2.1 dX1_takeSum_167 (lv_at hl 0 rfl) ?_
                          refine lv_aload_n S.1 S.2.1 dX1_takeSum_169 rfl (lv_at hl 5 rfl) ?_
                          refine gfX1_24 S hK hH hx0 dX1_takeSum_170 ?_
                          refine lv_iload S.1 S.2.1 dX1_takeSum_173 (lv_at hl 8 rfl) ?_
                          refine ald_i S hK hH hxb (by omega) (by omega) dX1_takeSum_175 ?_
                          refine tpi (x' := iI (cf X i)) (hx7 i hi) ?_
                          refine lv_i2l (v := lI (cf X i)) S.1 S.2.1 dX1_takeSum_176 (iI_l (by omega)) ?_
                          refine lv_ladd S.1 S.2.1 dX1_takeSum_177 ?_
                          refine tpl (x' := lI ((0) + (cf X i))) (lI_add _ _) ?_
                          refine lv_lstore (lv' := [(12, .long (lI ((0) + (cf X i)))), (10, .long (lN (cd X i))), (9, .int (nI 1)), (8, .int (nI 1)), (0, .ref (t)), (1, .ref (x)), (2, .ref (y)), (3, .int (iI sg)), (4, .int (nI i)), (5, .int (nI j)), (6, .int (nI (X.length + Y.length))), (7, .int (nI u))]) S.1 S.2.1 dX1_takeSum_178 hl (by decide) rfl (fun ls hl => ?_)
                          refine lv_iinc (v := nI (i + 1)) (lv' := [(4, .int (nI (i + 1))), (12, .long (lI ((0) + (cf X i)))), (10, .long (lN (cd X i))), (9, .int (nI 1)), (8, .int (nI 1)), (0, .ref (t)), (1, .ref (x)), (2, .ref (y)), (3, .int (iI sg)), (5, .int (nI j)), (6, .int (nI (X.length + Y.length))), (7, .int (nI u))]) S.1 S.2.1 dX1_takeSum_180 hl (k := 8) rfl (nI_inc _ 1) (by decide) rfl (fun ls hl => ?_)
                          refine lv_iload S.1 S.2.1 dX1_takeSum_183 (lv_at hl 3 rfl) ?_
                          refine lv_if_eq (tgt := 207) S.1 S.2.1 dX1_takeSum_185 (by decide) (fun c185 => ?_) (fun c185 => ?_)
                          · skip
                            first | exact absurd c185 (by decide) | exact absurd rfl c185
                          · skip
                            refine lv_lload S.1 S.2.1 dX1_takeSum_188 (lv_at hl 1 rfl) ?_
                            refine lv_iload_n S.1 S.2.1 dX1_takeSum_190 rfl (lv_at hl 8 rfl) ?_
                            refine lv_i2l (v := lI (sg)) S.1 S.2.1 dX1_takeSum_191 (iI_l (by omega)) ?_
                            refine lv_aload_n S.1 S.2.1 dX1_takeSum_192 rfl (lv_at hl 7 rfl) ?_
                            refine gfX1_24 S hK hH hy0 dX1_takeSum_193 ?_
                            refine lv_iload S.1 S.2.1 dX1_takeSum_196 (lv_at hl 9 rfl) ?_
                            refine ald_i S hK hH hyb (by omega) (by omega) dX1_takeSum_198 ?_
                            refine tpi (x' := iI (cf Y j)) (hy7 j hj) ?_
                            refine lv_i2l (v := lI (cf Y j)) S.1 S.2.1 dX1_takeSum_199 (iI_l (by omega)) ?_
                            refine lv_lmul S.1 S.2.1 dX1_takeSum_200 ?_
                            refine tpl (x' := lI ((sg) * (cf Y j))) (lI_mul _ _) ?_
                            refine lv_ladd S.1 S.2.1 dX1_takeSum_201 ?_
                            refine tpl (x' := lI (((0) + (cf X i)) + ((sg) * (cf Y j)))) (lI_add _ _) ?_
                            refine lv_lstore (lv' := [(12, .long (lI (((0) + (cf X i)) + ((sg) * (cf Y j))))), (4, .int (nI (i + 1))), (10, .long (lN (cd X i))), (9, .int (nI 1)), (8, .int (nI 1)), (0, .ref (t)), (1, .ref (x)), (2, .ref (y)), (3, .int (iI sg)), (5, .int (nI j)), (6, .int (nI (X.length + Y.length))), (7, .int (nI u))]) S.1 S.2.1 dX1_takeSum_202 hl (by decide) rfl (fun ls hl => ?_)
                            refine lv_iinc (v := nI (j + 1)) (lv' := [(5, .int (nI (j + 1))), (12, .long (lI (((0) + (cf X i)) + ((sg) * (cf Y j))))), (4, .int (nI (i + 1))), (10, .long (lN (cd X i))), (9, .int (nI 1)), (8, .int (nI 1)), (0, .ref (t)), (1, .ref (x)), (2, .ref (y)), (3, .int (iI sg)), (6, .int (nI (X.length + Y.length))), (7, .int (nI u))]) S.1 S.2.1 dX1_takeSum_204 hl (k := 9) rfl (nI_inc _ 1) (by decide) rfl (fun ls hl => ?_)
                            refine lv_aload_n S.1 S.2.1 dX1_takeSum_207 rfl (lv_at hl 6 rfl) ?_
                            refine lv_lload S.1 S.2.1 dX1_takeSum_208 (lv_at hl 3 rfl) ?_
                            refine lv_lload S.1 S.2.1 dX1_takeSum_210 (lv_at hl 1 rfl) ?_
                            refine ck_i (run_V (As := [.long (lN (cd X i)), .long (lI (((0) + (cf X i)) + ((sg) * (cf Y j))))]) (rest := []) S hK hH (kX1_append t 60 (cd X i) acc (((0) + (cf X i)) + ((sg) * (cf Y j))) 0 tp hpc (by omega)) ceX1_append mW130 hpc.ob rfl rfl hl.1 rfl (Nat.le_of_ble_eq_true rfl) dX1_takeSum_212 ⟨rfl, rfl, by decide, by decide⟩ ⟨show 0 + 0 ≤ 0 by omega, show 0 + 0 ≤ 0 by omega⟩) hH (fun r212 w10 n10 H locs hp hH => ?_)
                            obtain ⟨hn1, hfr, hq⟩ := hp
                            rw [hn1] at hH
                            replace hx0 := (hfr (x) (by omega)).trans hx0
                            replace hxa := (hfr (x + 1) (by omega)).trans hxa
                            replace hxb := (hfr (x + 2) (by omega)).trans hxb
                            replace hy0 := (hfr (y) (by omega)).trans hy0
                            replace hya := (hfr (y + 1) (by omega)).trans hya
                            replace hyb := (hfr (y + 2) (by omega)).trans hyb
                            replace hF : ∀ b, b < t ∨ t + 3 ≤ b → w10 b = w b := fun b hb => (hfr b (by omega)).trans (hF b hb)
                            refine lv_if_ne (tgt := 220) S.1 S.2.1 dX1_takeSum_215 (by decide) (fun c215 => ?_) (fun c215 => ?_)
                            · skip
                              rcases hq with ⟨_, L', e1, hpc⟩ | ⟨e1, _⟩
                              rotate_left
                              · exact absurd e1 c215
                              refine lv_iinc (v := nI (u + 1)) (lv' := [(7, .int (nI (u + 1))), (5, .int (nI (j + 1))), (12, .long (lI (((0) + (cf X i)) + ((sg) * (cf Y j))))), (4, .int (nI (i + 1))), (10, .long (lN (cd X i))), (9, .int (nI 1)), (8, .int (nI 1)), (0, .ref (t)), (1, .ref (x)), (2, .ref (y)), (3, .int (iI sg)), (6, .int (nI (X.length + Y.length)))]) S.1 S.2.1 dX1_takeSum_220 hl (k := 11) rfl (nI_inc _ 1) (by decide) rfl (fun ls hl => ?_)
                              refine lv_goto (tgt := 24) S.1 S.2.1 dX1_takeSum_223 (by decide) ?_
                              exact ih24 _ _ _ _ (by omega) ⟨u + 1, i + 1, j + 1, L', w10, lv_sub hl [7, 8, 9, 10, 3, 1, 11, 0] rfl, hH, hx0, hxa, hxb, hy0, hya, hyb, hpc, hF, by omega, by omega, by omega, hts.trans (tsum_some c28 (by omega) (nxtD hi hj hc) e1), rfl⟩
                            · skip
                              rcases hq with ⟨e1, _⟩ | ⟨_, e1, e2⟩
                              · rw [e1] at c215; exact absurd c215 (by decide)
                              refine lv_iconst (v := nI 0) S.1 S.2.1 dX1_takeSum_218 (by decide) ?_
                              rw [← e2] at hpc
                              exact rt_z S hr hlk hH dX1_takeSum_219 (by decide) (⟨rfl, hF, Or.inr ⟨rfl, hts.trans (tsum_none c28 (by omega) (nxtD hi hj hc) e1), acc, hpc⟩⟩)
        · skip
          have hbx := okx i hi
          have hby := oky j hj
          have hbs := sg_b hsg hby.2
          refine lv_iload S.1 S.2.1 dX1_takeSum_49 (lv_at hl 4 rfl) ?_
          refine lv_aload_n S.1 S.2.1 dX1_takeSum_51 rfl (lv_at hl 1 rfl) ?_
          refine gfX1_28 S hK hH hx0 dX1_takeSum_52 ?_
          refine bn_ge (tgt := 89) S dX1_takeSum_55 (by decide) (by omega) (fun c55 => ?_) (fun c55 => ?_)
          · skip
            exfalso; omega
          · skip
            refine lv_iload S.1 S.2.1 dX1_takeSum_58 (lv_at hl 5 rfl) ?_
            refine lv_aload_n S.1 S.2.1 dX1_takeSum_60 rfl (lv_at hl 2 rfl) ?_
            refine gfX1_28 S hK hH hy0 dX1_takeSum_61 ?_
            refine bn_ge (tgt := 85) S dX1_takeSum_64 (by decide) (by omega) (fun c64 => ?_) (fun c64 => ?_)
            · skip
              exfalso; omega
            · skip
              refine lv_aload_n S.1 S.2.1 dX1_takeSum_67 rfl (lv_at hl 1 rfl) ?_
              refine gfX1_18 S hK hH hx0 dX1_takeSum_68 ?_
              refine lv_iload S.1 S.2.1 dX1_takeSum_71 (lv_at hl 4 rfl) ?_
              refine ald_l S hK hH hxa (by omega) (by omega) dX1_takeSum_73 ?_
              refine tpl (x' := lN (cd X i)) (hx6 i hi) ?_
              refine lv_aload_n S.1 S.2.1 dX1_takeSum_74 rfl (lv_at hl 2 rfl) ?_
              refine gfX1_18 S hK hH hy0 dX1_takeSum_75 ?_
              refine lv_iload S.1 S.2.1 dX1_takeSum_78 (lv_at hl 5 rfl) ?_
              refine ald_l S hK hH hya (by omega) (by omega) dX1_takeSum_80 ?_
              refine tpl (x' := lN (cd Y j)) (hy6 j hj) ?_
              refine bl_lt (tgt := 89) S dX1_takeSum_81 dX1_takeSum_82 (by decide) (fun c81 => ?_) (fun c81 => ?_)
              · skip
                refine lv_iconst (v := nI 0) S.1 S.2.1 dX1_takeSum_89 (by decide) ?_
                refine lv_istore (lv' := [(8, .int (nI 0)), (0, .ref (t)), (1, .ref (x)), (2, .ref (y)), (3, .int (iI sg)), (4, .int (nI i)), (5, .int (nI j)), (6, .int (nI (X.length + Y.length))), (7, .int (nI u))]) S.1 S.2.1 dX1_takeSum_90 hl (by decide) rfl (fun ls hl => ?_)
                refine lv_iload S.1 S.2.1 dX1_takeSum_92 (lv_at hl 6 rfl) ?_
                refine lv_aload_n S.1 S.2.1 dX1_takeSum_94 rfl (lv_at hl 3 rfl) ?_
                refine gfX1_28 S hK hH hy0 dX1_takeSum_95 ?_
                refine bn_ge (tgt := 132) S dX1_takeSum_98 (by decide) (by omega) (fun c98 => ?_) (fun c98 => ?_)
                · skip
                  exfalso; omega
                · skip
                  refine lv_iload S.1 S.2.1 dX1_takeSum_101 (lv_at hl 5 rfl) ?_
                  refine lv_aload_n S.1 S.2.1 dX1_takeSum_103 rfl (lv_at hl 2 rfl) ?_
                  refine gfX1_28 S hK hH hx0 dX1_takeSum_104 ?_
                  refine bn_ge (tgt := 128) S dX1_takeSum_107 (by decide) (by omega) (fun c107 => ?_) (fun c107 => ?_)
                  · skip
                    exfalso; omega
                  · skip
                    refine lv_aload_n S.1 S.2.1 dX1_takeSum_110 rfl (lv_at hl 3 rfl) ?_
                    refine gfX1_18 S hK hH hy0 dX1_takeSum_111 ?_
                    refine lv_iload S.1 S.2.1 dX1_takeSum_114 (lv_at hl 6 rfl) ?_
                    refine ald_l S hK hH hya (by omega) (by omega) dX1_takeSum_116 ?_
                    refine tpl (x' := lN (cd Y j)) (hy6 j hj) ?_
                    refine lv_aload_n S.1 S.2.1 dX1_takeSum_117 rfl (lv_at hl 2 rfl) ?_
                    refine gfX1_18 S hK hH hx0 dX1_takeSum_118 ?_
                    refine lv_iload S.1 S.2.1 dX1_takeSum_121 (lv_at hl 5 rfl) ?_
                    refine ald_l S hK hH hxa (by omega) (by omega) dX1_takeSum_123 ?_
                    refine tpl (x' := lN (cd X i)) (hx6 i hi) ?_
                    refine bl_lt (tgt := 132) S dX1_takeSum_124 dX1_takeSum_125 (by decide) (fun c124 => ?_) (fun c124 => ?_)
                    · skip
                      exfalso; rw [pk_lLT (by omega) (by omega)] at c124; omega
                    · skip
                      refine lv_iconst (v := nI 1) S.1 S.2.1 dX1_takeSum_128 (by decide) ?_
                      refine lv_goto (tgt := 133) S.1 S.2.1 dX1_takeSum_129 (by decide) ?_
                      refine lv_istore (lv' := [(9, .int (nI 1)), (8, .int (nI 0)), (0, .ref (t)), (1, .ref (x)), (2, .ref (y)), (3, .int (iI sg)), (4, .int (nI i)), (5, .int (nI j)), (6, .int (nI (X.length + Y.length))), (7, .int (nI u))]) S.1 S.2.1 dX1_takeSum_133 hl (by decide) rfl (fun ls hl => ?_)
                      refine lv_iload S.1 S.2.1 dX1_takeSum_135 (lv_at hl 1 rfl) ?_
                      refine lv_if_eq (tgt := 150) S.1 S.2.1 dX1_takeSum_137 (by decide) (fun c137 => ?_) (fun c137 => ?_)
                      · skip
                        refine lv_aload_n S.1 S.2.1 dX1_takeSum_150 rfl (lv_at hl 4 rfl) ?_
                        refine gfX1_18 S hK hH hy0 dX1_takeSum_151 ?_
                        refine lv_iload S.1 S.2.1 dX1_takeSum_154 (lv_at hl 7 rfl) ?_
                        refine ald_l S hK hH hya (by omega) (by omega) dX1_takeSum_156 ?_
                        refine tpl (x' := lN (cd Y j)) (hy6 j hj) ?_
                        refine lv_lstore (lv' := [(10, .long (lN (cd Y j))), (9, .int (nI 1)), (8, .int (nI 0)), (0, .ref (t)), (1, .ref (x)), (2, .ref (y)), (3, .int (iI sg)), (4, .int (nI i)), (5, .int (nI j)), (6, .int (nI (X.length + Y.length))), (7, .int (nI u))]) S.1 S.2.1 dX1_takeSum_157 hl (by decide) rfl (fun ls hl => ?_)
                        refine lv_lconst (v := lI 0) S.1 S.2.1 dX1_takeSum_159 (by decide) ?_
                        refine lv_lstore (lv' := [(12, .long (lI 0)), (10, .long (lN (cd Y j))), (9, .int (nI 1)), (8, .int (nI 0)), (0, .ref (t)), (1, .ref (x)), (2, .ref (y)), (3, .int (iI sg)), (4, .int (nI i)), (5, .int (nI j)), (6, .int (nI (X.length + Y.length))), (7, .int (nI u))]) S.1 S.2.1 dX1_takeSum_160 hl (by decide) rfl (fun ls hl => ?_)
                        refine lv_iload S.1 S.2.1 dX1_takeSum_162 (lv_at hl 3 rfl) ?_
                        refine lv_if_eq (tgt := 183) S.1 S.2.1 dX1_takeSum_164 (by decide) (fun c164 => ?_) (fun c164 => ?_)
                        · skip
                          refine lv_iload S.1 S.2.1 dX1_takeSum_183 (lv_at hl 2 rfl) ?_
                          refine lv_if_eq (tgt := 207) S.1 S.2.1 dX1_takeSum_185 (by decide) (fun c185 => ?_) (fun c185 => ?_)
                          · skip
                            first | exact absurd c185 (by decide) | exact absurd rfl c185
                          · skip
                            refine lv_lload S.1 S.2.1 dX1_takeSum_188 (lv_at hl 0 rfl) ?_
                            refine lv_iload_n S.1 S.2.1 dX1_takeSum_190 rfl (lv_at hl 7 rfl) ?_
                            refine lv_i2l (v := lI (sg)) S.1 S.2.1 dX1_takeSum_191 (iI_l (by omega)) ?_
                            refine lv_aload_n S.1 S.2.1 dX1_takeSum_192 rfl (lv_at hl 6 rfl) ?_
                            refine gfX1_24 S hK hH hy0 dX1_takeSum_193 ?_
                            refine lv_iload S.1 S.2.1 dX1_takeSum_196 (lv_at hl 9 rfl) ?_
                            refine ald_i S hK hH hyb (by omega) (by omega) dX1_takeSum_198 ?_
                            refine tpi (x' := iI (cf Y j)) (hy7 j hj) ?_
                            refine lv_i2l (v := lI (cf Y j)) S.1 S.2.1 dX1_takeSum_199 (iI_l (by omega)) ?_
                            refine lv_lmul S.1 S.2.1 dX1_takeSum_200 ?_
                            refine tpl (x' := lI ((sg) * (cf Y j))) (lI_mul _ _) ?_
                            refine lv_ladd S.1 S.2.1 dX1_takeSum_201 ?_
                            refine tpl (x' := lI ((0) + ((sg) * (cf Y j)))) (lI_add _ _) ?_
                            refine lv_lstore (lv' := [(12, .long (lI ((0) + ((sg) * (cf Y j))))), (10, .long (lN (cd Y j))), (9, .int (nI 1)), (8, .int (nI 0)), (0, .ref (t)), (1, .ref (x)), (2, .ref (y)), (3, .int (iI sg)), (4, .int (nI i)), (5, .int (nI j)), (6, .int (nI (X.length + Y.length))), (7, .int (nI u))]) S.1 S.2.1 dX1_takeSum_202 hl (by decide) rfl (fun ls hl => ?_)
                            refine lv_iinc (v := nI (j + 1)) (lv' := [(5, .int (nI (j + 1))), (12, .long (lI ((0) + ((sg) * (cf Y j))))), (10, .long (lN (cd Y j))), (9, .int (nI 1)), (8, .int (nI 0)), (0, .ref (t)), (1, .ref (x)), (2, .ref (y)), (3, .int (iI sg)), (4, .int (nI i)), (6, .int (nI (X.length + Y.length))), (7, .int (nI u))]) S.1 S.2.1 dX1_takeSum_204 hl (k := 9) rfl (nI_inc _ 1) (by decide) rfl (fun ls hl => ?_)
                            refine lv_aload_n S.1 S.2.1 dX1_takeSum_207 rfl (lv_at hl 5 rfl) ?_
                            refine lv_lload S.1 S.2.1 dX1_takeSum_208 (lv_at hl 2 rfl) ?_
                            refine lv_lload S.1 S.2.1 dX1_takeSum_210 (lv_at hl 1 rfl) ?_
                            refine ck_i (run_V (As := [.long (lN (cd Y j)), .long (lI ((0) + ((sg) * (cf Y j))))]) (rest := []) S hK hH (kX1_append t 60 (cd Y j) acc ((0) + ((sg) * (cf Y j))) 0 tp hpc (by omega)) ceX1_append mW130 hpc.ob rfl rfl hl.1 rfl (Nat.le_of_ble_eq_true rfl) dX1_takeSum_212 ⟨rfl, rfl, by decide, by decide⟩ ⟨show 0 + 0 ≤ 0 by omega, show 0 + 0 ≤ 0 by omega⟩) hH (fun r212 w11 n11 H locs hp hH => ?_)
                            obtain ⟨hn1, hfr, hq⟩ := hp
                            rw [hn1] at hH
                            replace hx0 := (hfr (x) (by omega)).trans hx0
                            replace hxa := (hfr (x + 1) (by omega)).trans hxa
                            replace hxb := (hfr (x + 2) (by omega)).trans hxb
                            replace hy0 := (hfr (y) (by omega)).trans hy0
                            replace hya := (hfr (y + 1) (by omega)).trans hya
                            replace hyb := (hfr (y + 2) (by omega)).trans hyb
                            replace hF : ∀ b, b < t ∨ t + 3 ≤ b → w11 b = w b := fun b hb => (hfr b (by omega)).trans (hF b hb)
                            refine lv_if_ne (tgt := 220) S.1 S.2.1 dX1_takeSum_215 (by decide) (fun c215 => ?_) (fun c215 => ?_)
                            · skip
                              rcases hq with ⟨_, L', e1, hpc⟩ | ⟨e1, _⟩
                              rotate_left
                              · exact absurd e1 c215
                              refine lv_iinc (v := nI (u + 1)) (lv' := [(7, .int (nI (u + 1))), (5, .int (nI (j + 1))), (12, .long (lI ((0) + ((sg) * (cf Y j))))), (10, .long (lN (cd Y j))), (9, .int (nI 1)), (8, .int (nI 0)), (0, .ref (t)), (1, .ref (x)), (2, .ref (y)), (3, .int (iI sg)), (4, .int (nI i)), (6, .int (nI (X.length + Y.length)))]) S.1 S.2.1 dX1_takeSum_220 hl (k := 11) rfl (nI_inc _ 1) (by decide) rfl (fun ls hl => ?_)
                              refine lv_goto (tgt := 24) S.1 S.2.1 dX1_takeSum_223 (by decide) ?_
                              exact ih24 _ _ _ _ (by omega) ⟨u + 1, i, j + 1, L', w11, lv_sub hl [6, 7, 8, 9, 10, 1, 11, 0] rfl, hH, hx0, hxa, hxb, hy0, hya, hyb, hpc, hF, by omega, by omega, by omega, hts.trans (tsum_some c28 (by omega) (nxtE hi hj hc) e1), rfl⟩
                            · skip
                              rcases hq with ⟨e1, _⟩ | ⟨_, e1, e2⟩
                              · rw [e1] at c215; exact absurd c215 (by decide)
                              refine lv_iconst (v := nI 0) S.1 S.2.1 dX1_takeSum_218 (by decide) ?_
                              rw [← e2] at hpc
                              exact rt_z S hr hlk hH dX1_takeSum_219 (by decide) (⟨rfl, hF, Or.inr ⟨rfl, hts.trans (tsum_none c28 (by omega) (nxtE hi hj hc) e1), acc, hpc⟩⟩)
                        · skip
                          first | exact absurd c164 (by decide) | exact absurd rfl c164
                      · skip
                        first | exact absurd c137 (by decide) | exact absurd rfl c137
              · skip
                exfalso; rw [pk_lLT (by omega) (by omega)] at c81; omega
end
section
/-- what a kept term is -/
def okL (L : PL) : Prop := ∀ j, j < L.length → cd L j < 4611686018427387904 ∧ cf L j ≠ 0 ∧ -99999999 ≤ cf L j ∧ cf L j ≤ 99999999
theorem okL.B {L : PL} (h : okL L) : ∀ j, j < L.length → cd L j < 4611686018427387904 ∧ -2147483648 ≤ cf L j ∧ cf L j < 2147483648 := fun j hj => by
  have := h j hj
  omega
theorem PolyC.len {G : Gx} {w : Wm} {a cap : Nat} {L : PL} {tk : Int32} {tp : Nat → Int32} (h : PolyC G w a cap L tk tp) : L.length ≤ 60 := by
  obtain ⟨f, g, h0, h1, h2, h3, h4, h5, -⟩ := h
  omega
/-- the greatest code that the first rows have yet to give -/
def gC (X Y : PL) (me : Nat → Nat) : Nat → Int
  | 0 => -1
  | i + 1 => if me i < Y.length then max (gC X Y me i) ((cd X i + cd Y (me i) : Nat) : Int) else gC X Y me i
def gK (X Y : PL) (me : Nat → Nat) (c : Nat) : Nat → Int
  | 0 => 0
  | i + 1 => if me i < Y.length ∧ cd X i + cd Y (me i) = c then gK X Y me c i + cf X i * cf Y (me i) else gK X Y me c i
def gM (X Y : PL) (me : Nat → Nat) (c bg : Nat) : Nat → Nat := fun u => if u < bg ∧ me u < Y.length ∧ cd X u + cd Y (me u) = c then me u + 1 else me u
def mrg (X Y : PL) : Nat → PL → (Nat → Nat) → Nat → Option PL
  | 0, acc, _, _ => some acc
  | f + 1, acc, me, bg => if gC X Y me bg < 0 then some acc else (app 60 acc (gC X Y me bg).toNat (gK X Y me (gC X Y me bg).toNat bg)).bind (fun a => mrg X Y f a (gM X Y me (gC X Y me bg).toNat bg) (if bg < X.length ∧ 0 < gM X Y me (gC X Y me bg).toNat bg (bg - 1) then bg + 1 else bg))
section GC
variable {X Y : PL} {me : Nat → Nat} {i c bg : Nat}
theorem gC_miss (h : Y.length ≤ me i) : gC X Y me (i + 1) = gC X Y me i := by rw [gC, if_neg (by omega)]
theorem gC_b (okx : okL X) (oky : okL Y) (me : Nat → Nat) (i : Nat) (hi : i ≤ X.length) : -1 ≤ gC X Y me i ∧ gC X Y me i < 9223372036854775807 := by
  induction i with
  | zero => simp [gC]
  | succ i ih =>
    have := ih (by omega)
    rw [gC]
    split
    · rename_i h
      have h1 := okx i (by omega)
      have h2 := oky _ h
      omega
    · exact this
theorem gC_hit (h : me i < Y.length) (hb : -1 ≤ gC X Y me i ∧ gC X Y me i < 9223372036854775807) (h2 : cd X i + cd Y (me i) < 9223372036854775808) : (if lN (cd X i + cd Y (me i)) < lI (gC X Y me i) then lI (gC X Y me i) else lN (cd X i + cd Y (me i))) = lI (gC X Y me (i + 1)) := by
  rw [gC, if_pos h, lN_lI]
  by_cases q : ((cd X i + cd Y (me i) : Nat) : Int) < gC X Y me i
  · rw [if_pos ((lI_lt (by omega) (by omega)).mpr q), Int.max_eq_left (by omega)]
  · rw [if_neg (fun r => q ((lI_lt (by omega) (by omega)).mp r)), Int.max_eq_right (by omega)]
theorem gK_miss (h : ¬ (me i < Y.length ∧ cd X i + cd Y (me i) = c)) : gK X Y me c (i + 1) = gK X Y me c i := by rw [gK, if_neg h]
theorem gK_hit (h : me i < Y.length ∧ cd X i + cd Y (me i) = c) : gK X Y me c (i + 1) = gK X Y me c i + cf X i * cf Y (me i) := by rw [gK, if_pos h]
theorem gM_at : gM X Y me c i i = me i := by simp [gM]
theorem gM_0 {u : Nat} : gM X Y me c 0 u = me u := by simp [gM]
theorem gM_miss {u : Nat} (h : ¬ (me i < Y.length ∧ cd X i + cd Y (me i) = c)) : gM X Y me c (i + 1) u = gM X Y me c i u := by
  unfold gM
  by_cases q : u = i
  · subst q
    rw [if_neg (fun r => h r.2), if_neg (fun r => h r.2)]
  · by_cases r : u < i
    · simp [r, Nat.lt_succ_of_lt r]
    · rw [if_neg (by omega), if_neg (by omega)]
theorem gM_hit {mg : Nat → Int32} (hm : ∀ u, u < X.length → mg u = nI (gM X Y me c i u)) (h : me i < Y.length ∧ cd X i + cd Y (me i) = c) : ∀ u, u < X.length → upd mg i (nI (me i + 1)) u = nI (gM X Y me c (i + 1) u) := by
  intro u hu
  by_cases q : u = i
  · subst q
    rw [pk_us]
    unfold gM
    rw [if_pos ⟨Nat.lt_succ_self _, h⟩]
  · rw [pk_un q, hm u hu]
    unfold gM
    by_cases r : u < i
    · simp [r, Nat.lt_succ_of_lt r]
    · rw [if_neg (by omega), if_neg (by omega)]
theorem pr_b {a b : Int} (ha : -99999999 ≤ a ∧ a ≤ 99999999) (hb : -99999999 ≤ b ∧ b ≤ 99999999) : -10000000000000000 ≤ a * b ∧ a * b ≤ 10000000000000000 := by
  have h : (a * b).natAbs ≤ 99999999 * 99999999 := by
    rw [Int.natAbs_mul]
    exact Nat.mul_le_mul (by omega) (by omega)
  omega
theorem gK_b0 (okx : okL X) (oky : okL Y) (me : Nat → Nat) (c : Nat) : ∀ i, i ≤ X.length → -(10000000000000000 * (i : Int)) ≤ gK X Y me c i ∧ gK X Y me c i ≤ 10000000000000000 * (i : Int) := by
  intro i
  induction i with
  | zero => intro _; simp [gK]
  | succ i ih =>
    intro hi
    have h0 := ih (by omega)
    rw [gK]
    split
    · rename_i h
      have h1 := okx i (by omega)
      have h2 := oky _ h.1
      have h3 := pr_b ⟨h1.2.2.1, h1.2.2.2⟩ ⟨h2.2.2.1, h2.2.2.2⟩
      omega
    · omega
theorem gK_b (okx : okL X) (oky : okL Y) (me : Nat → Nat) (c : Nat) (h : i ≤ X.length ∧ i ≤ 60) : -4611686018427387904 ≤ gK X Y me c i ∧ gK X Y me c i < 4611686018427387904 := by
  have := gK_b0 okx oky me c i h.1
  omega
theorem me_up (hly : Y.length ≤ 60) (h : ∀ i, i < X.length → me i ≤ Y.length) : ∀ i, i < X.length → gM X Y me c bg i ≤ Y.length ∧ gM X Y me c bg i ≤ 60 := by
  intro i hi
  have := h i hi
  unfold gM
  split <;> omega
theorem mrg_miss {u N : Nat} {acc L' : PL} (hu : u < N) (hg : 0 ≤ gC X Y me bg) (ha : app 60 acc (gC X Y me bg).toNat (gK X Y me (gC X Y me bg).toNat bg) = some L') (hb : ¬ (bg < X.length ∧ 0 < gM X Y me (gC X Y me bg).toNat bg (bg - 1))) : mrg X Y (N - u) acc me bg = mrg X Y (N - (u + 1)) L' (gM X Y me (gC X Y me bg).toNat bg) bg := by
  rw [show N - u = (N - (u + 1)) + 1 by omega, mrg, if_neg (by omega), ha, if_neg hb]; rfl
theorem mrg_hit {u N : Nat} {acc L' : PL} (hu : u < N) (hg : 0 ≤ gC X Y me bg) (ha : app 60 acc (gC X Y me bg).toNat (gK X Y me (gC X Y me bg).toNat bg) = some L') (hb : bg < X.length ∧ 0 < gM X Y me (gC X Y me bg).toNat bg (bg - 1)) : mrg X Y (N - u) acc me bg = mrg X Y (N - (u + 1)) L' (gM X Y me (gC X Y me bg).toNat bg) (bg + 1) := by
  rw [show N - u = (N - (u + 1)) + 1 by omega, mrg, if_neg (by omega), ha, if_pos hb]; rfl
theorem mrg_none {u N : Nat} {acc : PL} (hu : u < N) (hg : 0 ≤ gC X Y me bg) (ha : app 60 acc (gC X Y me bg).toNat (gK X Y me (gC X Y me bg).toNat bg) = none) : mrg X Y (N - u) acc me bg = none := by
  rw [show N - u = (N - (u + 1)) + 1 by omega, mrg, if_neg (by omega), ha]; rfl
theorem mrg_end {f : Nat} {acc : PL} (hg : gC X Y me bg < 0) : mrg X Y f acc me bg = some acc := by
  cases f with
  | zero => rfl
  | succ f => rw [mrg, if_pos hg]
end GC

set_option maxHeartbeats 4000000 in
set_option maxRecDepth 100000 in
theorem kX0_greatestCode {l : Launch} {G : Gx} {B : Nat} {w : Wm} {n : Nat} (q m x y cx cy : Nat) (X Y : PL) (kx ky : Int32) (px py : Nat → Int32) (v0 v1 v2 : Value) (bg : Nat) (me : Nat → Nat) (mf : Nat → Int32) (hq : w q = some (eO 0 [v0, v1, v2, .ref m, .int (nI bg)])) (hm : w m = some (eI G 60 mf)) (hx : PolyC G w x cx X kx px) (hy : PolyC G w y cy Y ky py) (okx : okL X) (oky : okL Y) (hbg : bg ≤ X.length) (hme : ∀ i, i < X.length → mf i = nI (me i) ∧ me i ≤ 60) : Met l yX0_greatestCode (wsM yX0_greatestCode cX0_greatestCode 6 (some .long)) ({ frames := 1, cells := 0, slots := 0, locals := 23 } : Room) (Pcx G B w n [.ref (q), .ref (x), .ref (y)]) (Ql G B (fun r w' n' => w' = w ∧ n' = n ∧ r = lI (gC X Y me bg))) 0 0 (FA B) := by
  refine en (by decide) (Nat.le_of_ble_eq_true rfl) ?_
  intro p ev s mm ag bl mt co S hr hlk hnm hK H hH ls hl
  have hl : lv_has ls 6 [(0, .ref (q)), (1, .ref (x)), (2, .ref (y))] := hl
  obtain ⟨fx, gx, hx0, hxa, hxb, hx3, hx4, hx5, hx6, hx7, hx8⟩ := hx
  obtain ⟨fy, gy, hy0, hya, hyb, hy3, hy4, hy5, hy6, hy7, hy8⟩ := hy
  refine lv_ldc2 S.1 S.2.1 S.2.2.2.1 (S.2.2.2.2 _ mW193) dX0_greatestCode_0 ?_
  refine tpl (x' := lI (-1)) (by decide) ?_
  refine tpl (x' := lI (gC X Y me 0)) (rfl) ?_
  refine lv_lstore_n (lv' := [(3, .long (lI (gC X Y me 0))), (0, .ref (q)), (1, .ref (x)), (2, .ref (y))]) S.1 S.2.1 dX0_greatestCode_3 rfl hl (by decide) rfl (fun ls hl => ?_)
  refine lv_iconst (v := nI 0) S.1 S.2.1 dX0_greatestCode_4 (by decide) ?_
  refine lv_istore (lv' := [(5, .int (nI 0)), (3, .long (lI (gC X Y me 0))), (0, .ref (q)), (1, .ref (x)), (2, .ref (y))]) S.1 S.2.1 dX0_greatestCode_5 hl (by decide) rfl (fun ls hl => ?_)
  refine wlp (P := fun k_ ls H' locs' => ∃ (i : Nat), lv_has ls 6 [(0, .ref (q)), (1, .ref (x)), (2, .ref (y)), (3, .long (lI (gC X Y me i))), (5, .int (nI i))] ∧ (H = H' ∧ [] = locs') ∧ (i ≤ bg) ∧ k_ = bg - i) ?_ (k0 := bg - (0)) ⟨0, lv_sub hl [2, 3, 4, 1, 0] rfl, ⟨rfl, rfl⟩, by omega, rfl⟩
  intro k7 ls H' locs' hP ih7
  obtain ⟨i, hl, ⟨rfl, rfl⟩, hi, hk7⟩ := hP
  refine lv_iload S.1 S.2.1 dX0_greatestCode_7 (lv_at hl 4 rfl) ?_
  refine lv_aload_n S.1 S.2.1 dX0_greatestCode_9 rfl (lv_at hl 0 rfl) ?_
  refine gfX0_30 S hK hH hq dX0_greatestCode_10 ?_
  refine bn_ge (tgt := 61) S dX0_greatestCode_13 (by decide) (by omega) (fun c13 => ?_) (fun c13 => ?_)
  · skip
    refine lv_lload_n S.1 S.2.1 dX0_greatestCode_61 rfl (lv_at hl 3 rfl) ?_
    exact rt_l S hr hlk hH dX0_greatestCode_62 (⟨rfl, rfl, by rw [show i = bg by omega]⟩)
  · skip
    have hmi := hme i (by omega)
    have hbx := okx i (by omega)
    refine lv_aload_n S.1 S.2.1 dX0_greatestCode_16 rfl (lv_at hl 0 rfl) ?_
    refine gfX0_26 S hK hH hq dX0_greatestCode_17 ?_
    refine lv_iload S.1 S.2.1 dX0_greatestCode_20 (lv_at hl 4 rfl) ?_
    refine ald_i S hK hH hm (by omega) (by omega) dX0_greatestCode_22 ?_
    refine tpi (x' := nI (me i)) (hmi.1) ?_
    refine lv_aload_n S.1 S.2.1 dX0_greatestCode_23 rfl (lv_at hl 2 rfl) ?_
    refine gfX0_49 S hK hH hy0 dX0_greatestCode_24 ?_
    refine bn_ge (tgt := 55) S dX0_greatestCode_27 (by decide) (by omega) (fun c27 => ?_) (fun c27 => ?_)
    · skip
      rw [← gC_miss (X := X) c27] at hl
      refine lv_iinc (v := nI (i + 1)) (lv' := [(5, .int (nI (i + 1))), (0, .ref (q)), (1, .ref (x)), (2, .ref (y)), (3, .long (lI (gC X Y me (i + 1))))]) S.1 S.2.1 dX0_greatestCode_55 hl (k := 4) rfl (nI_inc _ 1) (by decide) rfl (fun ls hl => ?_)
      refine lv_goto (tgt := 7) S.1 S.2.1 dX0_greatestCode_58 (by decide) ?_
      exact ih7 _ _ _ _ (by omega) ⟨i + 1, lv_sub hl [1, 2, 3, 4, 0] rfl, ⟨rfl, rfl⟩, by omega, rfl⟩
    · skip
      have hby := oky (me i) c27
      refine lv_lload_n S.1 S.2.1 dX0_greatestCode_30 rfl (lv_at hl 3 rfl) ?_
      refine lv_aload_n S.1 S.2.1 dX0_greatestCode_31 rfl (lv_at hl 1 rfl) ?_
      refine gfX0_69 S hK hH hx0 dX0_greatestCode_32 ?_
      refine lv_iload S.1 S.2.1 dX0_greatestCode_35 (lv_at hl 4 rfl) ?_
      refine ald_l S hK hH hxa (by omega) (by omega) dX0_greatestCode_37 ?_
      refine tpl (x' := lN (cd X i)) (hx6 i (by omega)) ?_
      refine lv_aload_n S.1 S.2.1 dX0_greatestCode_38 rfl (lv_at hl 2 rfl) ?_
      refine gfX0_69 S hK hH hy0 dX0_greatestCode_39 ?_
      refine lv_aload_n S.1 S.2.1 dX0_greatestCode_42 rfl (lv_at hl 0 rfl) ?_
      refine gfX0_26 S hK hH hq dX0_greatestCode_43 ?_
      refine lv_iload S.1 S.2.1 dX0_greatestCode_46 (lv_at hl 4 rfl) ?_
      refine ald_i S hK hH hm (by omega) (by omega) dX0_greatestCode_48 ?_
      refine tpi (x' := nI (me i)) (hmi.1) ?_
      refine ald_l S hK hH hya (by omega) (by omega) dX0_greatestCode_49 ?_
      refine tpl (x' := lN (cd Y (me i))) (hy6 _ c27) ?_
      refine lv_ladd S.1 S.2.1 dX0_greatestCode_50 ?_
      refine tpl (x' := lN (cd X i + cd Y (me i))) (lN_add _ _) ?_
      refine va_mmax_long S.1 S.2.1 (S.2.2.1.trans hl.1.symm) S.2.2.2.1 (S.2.2.2.2 _ mW194) (S.2.2.2.2 _ mW195) (S.2.2.2.2 _ mW3) (S.2.2.2.2 _ mW196) (by decide) (by simp [Value.category]) (show 0 ≤ 0 by omega) (show 0 ≤ 0 by omega) dX0_greatestCode_51 ?_
      refine tpl (x' := lI (gC X Y me (i + 1))) (gC_hit c27 (gC_b okx oky me i (by omega)) (by omega)) ?_
      refine lv_lstore_n (lv' := [(3, .long (lI (gC X Y me (i + 1)))), (0, .ref (q)), (1, .ref (x)), (2, .ref (y)), (5, .int (nI i))]) S.1 S.2.1 dX0_greatestCode_54 rfl hl (by decide) rfl (fun ls hl => ?_)
      refine lv_iinc (v := nI (i + 1)) (lv' := [(5, .int (nI (i + 1))), (3, .long (lI (gC X Y me (i + 1)))), (0, .ref (q)), (1, .ref (x)), (2, .ref (y))]) S.1 S.2.1 dX0_greatestCode_55 hl (k := 4) rfl (nI_inc _ 1) (by decide) rfl (fun ls hl => ?_)
      refine lv_goto (tgt := 7) S.1 S.2.1 dX0_greatestCode_58 (by decide) ?_
      exact ih7 _ _ _ _ (by omega) ⟨i + 1, lv_sub hl [2, 3, 4, 1, 0] rfl, ⟨rfl, rfl⟩, by omega, rfl⟩

set_option maxHeartbeats 4000000 in
set_option maxRecDepth 100000 in
theorem kX0_gather {l : Launch} {G : Gx} {B : Nat} {w : Wm} {n : Nat} (q m x y cx cy : Nat) (X Y : PL) (kx ky : Int32) (px py : Nat → Int32) (v0 v1 v2 : Value) (bg : Nat) (me : Nat → Nat) (mf : Nat → Int32) (c : Nat) (hq : w q = some (eO 0 [v0, v1, v2, .ref m, .int (nI bg)])) (hm : w m = some (eI G 60 mf)) (hx : PolyC G w x cx X kx px) (hy : PolyC G w y cy Y ky py) (okx : okL X) (oky : okL Y) (hbg : bg ≤ X.length) (hme : ∀ i, i < X.length → mf i = nI (me i) ∧ me i ≤ 60) (hmq : m ≠ q) (hmx : m < x ∨ x + 4 ≤ m) (hmy : m < y ∨ y + 4 ≤ m) (hc : c < 9223372036854775808) : Met l yX0_gather (wsM yX0_gather cX0_gather 9 (some .long)) ({ frames := 0, cells := 0, slots := 0, locals := 0 } : Room) (Pcx G B w n [.ref (q), .long (lN c), .ref (x), .ref (y)]) (Ql G B (fun r w' n' => n' = n ∧ (∀ b, b ≠ m → w' b = w b) ∧ r = lI (gK X Y me c bg) ∧ ∃ mf', w' m = some (eI G 60 mf') ∧ ∀ i, i < X.length → mf' i = nI (gM X Y me c bg i))) 0 0 (FA B) := by
  refine en (by decide) (Nat.le_of_ble_eq_true rfl) ?_
  intro p ev s mm ag bl mt co S hr hlk hnm hK H hH ls hl
  have hl : lv_has ls 9 [(0, .ref (q)), (1, .long (lN c)), (3, .ref (x)), (4, .ref (y))] := hl
  obtain ⟨fx, gx, hx0, hxa, hxb, hx3, hx4, hx5, hx6, hx7, hx8⟩ := hx
  obtain ⟨fy, gy, hy0, hya, hyb, hy3, hy4, hy5, hy6, hy7, hy8⟩ := hy
  have hF : ∀ b, b ≠ m → w b = w b := fun _ _ => rfl
  refine lv_lconst (v := lI 0) S.1 S.2.1 dX0_gather_0 (by decide) ?_
  refine tpl (x' := lI (gK X Y me c 0)) (rfl) ?_
  refine lv_lstore (lv' := [(5, .long (lI (gK X Y me c 0))), (0, .ref (q)), (1, .long (lN c)), (3, .ref (x)), (4, .ref (y))]) S.1 S.2.1 dX0_gather_1 hl (by decide) rfl (fun ls hl => ?_)
  refine lv_iconst (v := nI 0) S.1 S.2.1 dX0_gather_3 (by decide) ?_
  refine lv_istore (lv' := [(7, .int (nI 0)), (5, .long (lI (gK X Y me c 0))), (0, .ref (q)), (1, .long (lN c)), (3, .ref (x)), (4, .ref (y))]) S.1 S.2.1 dX0_gather_4 hl (by decide) rfl (fun ls hl => ?_)
  refine wlp (P := fun k_ ls H' locs' => ∃ (i : Nat) (mg : Nat → Int32) (v : Wm), lv_has ls 9 [(0, .ref (q)), (1, .long (lN c)), (3, .ref (x)), (4, .ref (y)), (5, .long (lI (gK X Y me c i))), (7, .int (nI i))] ∧ HS G B v (n) s H' locs' ∧ v (q) = some (eO 0 [v0, v1, v2, .ref (m), .int (nI bg)]) ∧ v (m) = some (eI G (60) (mg)) ∧ v (x) = some (eO 1 [.ref (x + 1), .ref (x + 2), .int (nI X.length), .ref (x + 3), .int (kx)]) ∧ v (x + 1) = some (eJ G (cx) (fx)) ∧ v (x + 2) = some (eI G (cx) (gx)) ∧ v (y) = some (eO 1 [.ref (y + 1), .ref (y + 2), .int (nI Y.length), .ref (y + 3), .int (ky)]) ∧ v (y + 1) = some (eJ G (cy) (fy)) ∧ v (y + 2) = some (eI G (cy) (gy)) ∧ (∀ b, b ≠ m → v b = w b) ∧ (i ≤ bg) ∧ (∀ u, u < X.length → mg u = nI (gM X Y me c i u)) ∧ k_ = bg - i) ?_ (k0 := bg - (0)) ⟨0, mf, w, lv_sub hl [2, 3, 4, 5, 1, 0] rfl, hH, hq, hm, hx0, hxa, hxb, hy0, hya, hyb, hF, by omega, fun u h => by rw [(hme u h).1, gM_0], rfl⟩
  intro k6 ls H locs hP ih6
  obtain ⟨i, mg, v, hl, hH, hq, hm, hx0, hxa, hxb, hy0, hya, hyb, hF, hi, hgm, hk6⟩ := hP
  refine lv_iload S.1 S.2.1 dX0_gather_6 (lv_at hl 5 rfl) ?_
  refine lv_aload_n S.1 S.2.1 dX0_gather_8 rfl (lv_at hl 0 rfl) ?_
  refine gfX0_30 S hK hH hq dX0_gather_9 ?_
  refine bn_ge (tgt := 95) S dX0_gather_12 (by decide) (by omega) (fun c12 => ?_) (fun c12 => ?_)
  · skip
    refine lv_lload S.1 S.2.1 dX0_gather_95 (lv_at hl 4 rfl) ?_
    exact rt_l S hr hlk hH dX0_gather_97 (⟨rfl, hF, by rw [show i = bg by omega], mg, hm, fun u h => by rw [hgm u h, show i = bg by omega]⟩)
  · skip
    have hmi := hme i (by omega)
    have hbx := okx i (by omega)
    refine lv_aload_n S.1 S.2.1 dX0_gather_15 rfl (lv_at hl 0 rfl) ?_
    refine gfX0_26 S hK hH hq dX0_gather_16 ?_
    refine lv_iload S.1 S.2.1 dX0_gather_19 (lv_at hl 5 rfl) ?_
    refine ald_i S hK hH hm (by omega) (by omega) dX0_gather_21 ?_
    refine tpi (x' := nI (me i)) (by rw [hgm i (by omega), gM_at]) ?_
    refine lv_istore (lv' := [(8, .int (nI (me i))), (0, .ref (q)), (1, .long (lN c)), (3, .ref (x)), (4, .ref (y)), (5, .long (lI (gK X Y me c i))), (7, .int (nI i))]) S.1 S.2.1 dX0_gather_22 hl (by decide) rfl (fun ls hl => ?_)
    refine lv_iload S.1 S.2.1 dX0_gather_24 (lv_at hl 0 rfl) ?_
    refine lv_aload S.1 S.2.1 dX0_gather_26 (lv_at hl 4 rfl) ?_
    refine gfX0_49 S hK hH hy0 dX0_gather_28 ?_
    refine bn_ge (tgt := 89) S dX0_gather_31 (by decide) (by omega) (fun c31 => ?_) (fun c31 => ?_)
    · skip
      have hmiss : ¬ (me i < Y.length ∧ cd X i + cd Y (me i) = c) := by omega
      rw [← gK_miss hmiss] at hl
      refine lv_iinc (v := nI (i + 1)) (lv' := [(7, .int (nI (i + 1))), (8, .int (nI (me i))), (0, .ref (q)), (1, .long (lN c)), (3, .ref (x)), (4, .ref (y)), (5, .long (lI (gK X Y me c (i + 1))))]) S.1 S.2.1 dX0_gather_89 hl (k := 6) rfl (nI_inc _ 1) (by decide) rfl (fun ls hl => ?_)
      refine lv_goto (tgt := 6) S.1 S.2.1 dX0_gather_92 (by decide) ?_
      exact ih6 _ _ _ _ (by omega) ⟨i + 1, _, v, lv_sub hl [2, 3, 4, 5, 6, 0] rfl, hH, hq, hm, hx0, hxa, hxb, hy0, hya, hyb, hF, by omega, fun u h => by rw [hgm u h, gM_miss hmiss], rfl⟩
    · skip
      have hby := oky (me i) c31
      refine lv_aload_n S.1 S.2.1 dX0_gather_34 rfl (lv_at hl 3 rfl) ?_
      refine gfX0_69 S hK hH hx0 dX0_gather_35 ?_
      refine lv_iload S.1 S.2.1 dX0_gather_38 (lv_at hl 6 rfl) ?_
      refine ald_l S hK hH hxa (by omega) (by omega) dX0_gather_40 ?_
      refine tpl (x' := lN (cd X i)) (hx6 i (by omega)) ?_
      refine lv_aload S.1 S.2.1 dX0_gather_41 (lv_at hl 4 rfl) ?_
      refine gfX0_69 S hK hH hy0 dX0_gather_43 ?_
      refine lv_iload S.1 S.2.1 dX0_gather_46 (lv_at hl 0 rfl) ?_
      refine ald_l S hK hH hya (by omega) (by omega) dX0_gather_48 ?_
      refine tpl (x' := lN (cd Y (me i))) (hy6 _ c31) ?_
      refine lv_ladd S.1 S.2.1 dX0_gather_49 ?_
      refine tpl (x' := lN (cd X i + cd Y (me i))) (lN_add _ _) ?_
      refine lv_lload_n S.1 S.2.1 dX0_gather_50 rfl (lv_at hl 2 rfl) ?_
      refine bl_ne (tgt := 89) S dX0_gather_51 dX0_gather_52 (by decide) (fun c51 => ?_) (fun c51 => ?_)
      · skip
        have c51 : cd X i + cd Y (me i) ≠ c := fun e => c51 (by rw [e])
        have hmiss : ¬ (me i < Y.length ∧ cd X i + cd Y (me i) = c) := fun e => c51 e.2
        rw [← gK_miss hmiss] at hl
        refine lv_iinc (v := nI (i + 1)) (lv' := [(7, .int (nI (i + 1))), (8, .int (nI (me i))), (0, .ref (q)), (1, .long (lN c)), (3, .ref (x)), (4, .ref (y)), (5, .long (lI (gK X Y me c (i + 1))))]) S.1 S.2.1 dX0_gather_89 hl (k := 6) rfl (nI_inc _ 1) (by decide) rfl (fun ls hl => ?_)
        refine lv_goto (tgt := 6) S.1 S.2.1 dX0_gather_92 (by decide) ?_
        exact ih6 _ _ _ _ (by omega) ⟨i + 1, _, v, lv_sub hl [2, 3, 4, 5, 6, 0] rfl, hH, hq, hm, hx0, hxa, hxb, hy0, hya, hyb, hF, by omega, fun u h => by rw [hgm u h, gM_miss hmiss], rfl⟩
      · skip
        have c51 : cd X i + cd Y (me i) = c := (pk_lEQ (by omega) (by omega)).mp c51
        refine lv_lload S.1 S.2.1 dX0_gather_55 (lv_at hl 5 rfl) ?_
        refine lv_aload_n S.1 S.2.1 dX0_gather_57 rfl (lv_at hl 3 rfl) ?_
        refine gfX0_79 S hK hH hx0 dX0_gather_58 ?_
        refine lv_iload S.1 S.2.1 dX0_gather_61 (lv_at hl 6 rfl) ?_
        refine ald_i S hK hH hxb (by omega) (by omega) dX0_gather_63 ?_
        refine tpi (x' := iI (cf X i)) (hx7 i (by omega)) ?_
        refine lv_i2l (v := lI (cf X i)) S.1 S.2.1 dX0_gather_64 (iI_l (by omega)) ?_
        refine lv_aload S.1 S.2.1 dX0_gather_65 (lv_at hl 4 rfl) ?_
        refine gfX0_79 S hK hH hy0 dX0_gather_67 ?_
        refine lv_iload S.1 S.2.1 dX0_gather_70 (lv_at hl 0 rfl) ?_
        refine ald_i S hK hH hyb (by omega) (by omega) dX0_gather_72 ?_
        refine tpi (x' := iI (cf Y (me i))) (hy7 _ c31) ?_
        refine lv_i2l (v := lI (cf Y (me i))) S.1 S.2.1 dX0_gather_73 (iI_l (by omega)) ?_
        refine lv_lmul S.1 S.2.1 dX0_gather_74 ?_
        refine tpl (x' := lI ((cf X i) * (cf Y (me i)))) (lI_mul _ _) ?_
        refine lv_ladd S.1 S.2.1 dX0_gather_75 ?_
        refine tpl (x' := lI (gK X Y me c (i + 1))) (by rw [lI_add, gK_hit ⟨c31, c51⟩]) ?_
        refine lv_lstore (lv' := [(5, .long (lI (gK X Y me c (i + 1)))), (8, .int (nI (me i))), (0, .ref (q)), (1, .long (lN c)), (3, .ref (x)), (4, .ref (y)), (7, .int (nI i))]) S.1 S.2.1 dX0_gather_76 hl (by decide) rfl (fun ls hl => ?_)
        refine lv_aload_n S.1 S.2.1 dX0_gather_78 rfl (lv_at hl 2 rfl) ?_
        refine gfX0_26 S hK hH hq dX0_gather_79 ?_
        refine lv_iload S.1 S.2.1 dX0_gather_82 (lv_at hl 6 rfl) ?_
        refine lv_iload S.1 S.2.1 dX0_gather_84 (lv_at hl 1 rfl) ?_
        refine lv_iconst (v := nI 1) S.1 S.2.1 dX0_gather_86 (by decide) ?_
        refine lv_iadd S.1 S.2.1 dX0_gather_87 ?_
        refine tpi (x' := nI (me i + 1)) (nI_add _ _) ?_
        refine ast_i S hK hH hm (by omega) (by omega) dX0_gather_88 (fun w1 H locs hm fr hH => ?_)
        replace hq := (fr (q) (by omega)).trans hq
        replace hx0 := (fr (x) (by omega)).trans hx0
        replace hxa := (fr (x + 1) (by omega)).trans hxa
        replace hxb := (fr (x + 2) (by omega)).trans hxb
        replace hy0 := (fr (y) (by omega)).trans hy0
        replace hya := (fr (y + 1) (by omega)).trans hya
        replace hyb := (fr (y + 2) (by omega)).trans hyb
        replace hF : ∀ b, b ≠ m → w1 b = w b := fun b hb => (fr b (by omega)).trans (hF b hb)
        refine lv_iinc (v := nI (i + 1)) (lv' := [(7, .int (nI (i + 1))), (5, .long (lI (gK X Y me c (i + 1)))), (8, .int (nI (me i))), (0, .ref (q)), (1, .long (lN c)), (3, .ref (x)), (4, .ref (y))]) S.1 S.2.1 dX0_gather_89 hl (k := 6) rfl (nI_inc _ 1) (by decide) rfl (fun ls hl => ?_)
        refine lv_goto (tgt := 6) S.1 S.2.1 dX0_gather_92 (by decide) ?_
        exact ih6 _ _ _ _ (by omega) ⟨i + 1, _, w1, lv_sub hl [3, 4, 5, 6, 1, 0] rfl, hH, hq, hm, hx0, hxa, hxb, hy0, hya, hyb, hF, by omega, gM_hit hgm ⟨c31, c51⟩, rfl⟩

set_option maxHeartbeats 4000000 in
set_option maxRecDepth 100000 in
theorem kX0_merge {l : Launch} {G : Gx} {B : Nat} {w : Wm} {n : Nat} (q m t x y cx cy : Nat) (X Y : PL) (kx ky tk : Int32) (px py tp : Nat → Int32) (v0 v1 v2 : Value) (bg : Int32) (mf : Nat → Int32) (hq : w q = some (eO 0 [v0, v1, v2, .ref m, .int bg])) (hm : w m = some (eI G 60 mf)) (ht : PolyC G w t 60 [] tk tp) (hx : PolyC G w x cx X kx px) (hy : PolyC G w y cy Y ky py) (okx : okL X) (oky : okL Y) (hX : 0 < X.length) (hmq : m ≠ q) (hmx : m < x ∨ x + 4 ≤ m) (hmy : m < y ∨ y + 4 ≤ m) (hmt : m < t ∨ t + 4 ≤ m) (hqx : q < x ∨ x + 4 ≤ q) (hqy : q < y ∨ y + 4 ≤ q) (hqt : q < t ∨ t + 4 ≤ q) (htx : t + 4 ≤ x ∨ x + 4 ≤ t) (hty : t + 4 ≤ y ∨ y + 4 ≤ t) : Met l yX0_merge (wsM yX0_merge cX0_merge 8 (some .boolean)) ({ frames := 2, cells := 0, slots := 0, locals := 48 } : Room) (Pcx G B w n [.ref (q), .ref (t), .ref (x), .ref (y)]) (Qi G B (fun r w' n' => n' = n ∧ (∀ b, (b ≠ q ∧ b ≠ m ∧ (b < t ∨ t + 3 ≤ b)) → w' b = w b) ∧ (∃ bg', w' q = some (eO 0 [v0, v1, v2, .ref m, .int bg'])) ∧ (∃ mf', w' m = some (eI G 60 mf')) ∧ ((r = 1 ∧ ∃ L', mrg X Y (X.length * Y.length) [] (fun _ => 0) 1 = some L' ∧ PolyC G w' t 60 L' tk tp) ∨ (r = 0 ∧ mrg X Y (X.length * Y.length) [] (fun _ => 0) 1 = none ∧ ∃ L', PolyC G w' t 60 L' tk tp)))) 0 0 (FA B) := by
  refine en (by decide) (Nat.le_of_ble_eq_true rfl) ?_
  intro p ev s mm ag bl mt co S hr hlk hnm hK H hH ls hl
  have hl : lv_has ls 8 [(0, .ref (q)), (1, .ref (t)), (2, .ref (x)), (3, .ref (y))] := hl
  have hlx : X.length ≤ 60 := hx.len
  have hly : Y.length ≤ 60 := hy.len
  have hmul : X.length * Y.length ≤ 60 * 60 := Nat.mul_le_mul hlx hly
  have hF : ∀ b, b ≠ q ∧ b ≠ m ∧ (b < t ∨ t + 3 ≤ b) → w b = w b := fun _ _ => rfl
  refine lv_iconst (v := nI 0) S.1 S.2.1 dX0_merge_0 (by decide) ?_
  refine lv_istore (lv' := [(4, .int (nI 0)), (0, .ref (q)), (1, .ref (t)), (2, .ref (x)), (3, .ref (y))]) S.1 S.2.1 dX0_merge_1 hl (by decide) rfl (fun ls hl => ?_)
  refine wlp (P := fun k_ ls H' locs' => ∃ (i : Nat) (mg : Nat → Int32) (v : Wm), lv_has ls 8 [(0, .ref (q)), (1, .ref (t)), (2, .ref (x)), (3, .ref (y)), (4, .int (nI i))] ∧ HS G B v (n) s H' locs' ∧ v (q) = some (eO 0 [v0, v1, v2, .ref (m), .int (bg)]) ∧ v (m) = some (eI G (60) (mg)) ∧ (PolyC G v t 60 [] tk tp) ∧ (PolyC G v x cx X kx px) ∧ (PolyC G v y cy Y ky py) ∧ (∀ b, b ≠ q ∧ b ≠ m ∧ (b < t ∨ t + 3 ≤ b) → v b = w b) ∧ (i ≤ X.length) ∧ (∀ u, u < i → mg u = nI 0) ∧ k_ = X.length - i) ?_ (k0 := X.length - (0)) ⟨0, mf, w, lv_sub hl [1, 2, 3, 4, 0] rfl, hH, hq, hm, ht, hx, hy, hF, by omega, fun u h => absurd h (Nat.not_lt_zero u), rfl⟩
  intro k3 ls H locs hP ih3
  obtain ⟨i, mg, v, hl, hH, hq, hm, ht, hx, hy, hF, hi, hz, hk3⟩ := hP
  refine lv_iload S.1 S.2.1 dX0_merge_3 (lv_at hl 4 rfl) ?_
  refine lv_aload_n S.1 S.2.1 dX0_merge_5 rfl (lv_at hl 2 rfl) ?_
  refine gfX0_49 S hK hH hx.ob dX0_merge_6 ?_
  refine bn_ge (tgt := 26) S dX0_merge_9 (by decide) (by omega) (fun c9 => ?_) (fun c9 => ?_)
  · skip
    refine lv_aload_n S.1 S.2.1 dX0_merge_26 rfl (lv_at hl 0 rfl) ?_
    refine lv_iconst (v := nI 1) S.1 S.2.1 dX0_merge_27 (by decide) ?_
    refine pfX0_30 S hK hH hq dX0_merge_28 (fun w1 H locs hq fr hH => ?_)
    replace hm := (fr (m) (by omega)).trans hm
    replace ht := ht.kept (fun b h1 h2 => fr b (by omega))
    replace hx := hx.kept (fun b h1 h2 => fr b (by omega))
    replace hy := hy.kept (fun b h1 h2 => fr b (by omega))
    replace hF : ∀ b, b ≠ q ∧ b ≠ m ∧ (b < t ∨ t + 3 ≤ b) → w1 b = w b := fun b hb => (fr b (by omega)).trans (hF b hb)
    refine lv_aload_n S.1 S.2.1 dX0_merge_31 rfl (lv_at hl 2 rfl) ?_
    refine gfX0_49 S hK hH hx.ob dX0_merge_32 ?_
    refine lv_aload_n S.1 S.2.1 dX0_merge_35 rfl (lv_at hl 3 rfl) ?_
    refine gfX0_49 S hK hH hy.ob dX0_merge_36 ?_
    refine lv_imul S.1 S.2.1 dX0_merge_39 ?_
    refine tpi (x' := nI ((X.length) * (Y.length))) (pk_mul _ _) ?_
    refine lv_istore (lv' := [(4, .int (nI ((X.length) * (Y.length)))), (0, .ref (q)), (1, .ref (t)), (2, .ref (x)), (3, .ref (y))]) S.1 S.2.1 dX0_merge_40 hl (by decide) rfl (fun ls hl => ?_)
    refine lv_iconst (v := nI 0) S.1 S.2.1 dX0_merge_42 (by decide) ?_
    refine lv_istore (lv' := [(5, .int (nI 0)), (4, .int (nI ((X.length) * (Y.length)))), (0, .ref (q)), (1, .ref (t)), (2, .ref (x)), (3, .ref (y))]) S.1 S.2.1 dX0_merge_43 hl (by decide) rfl (fun ls hl => ?_)
    refine wlp (P := fun k_ ls H' locs' => ∃ (u bg : Nat) (acc : PL) (me : Nat → Nat) (mg : Nat → Int32) (v : Wm), lv_has ls 8 [(0, .ref (q)), (1, .ref (t)), (2, .ref (x)), (3, .ref (y)), (4, .int (nI (X.length * Y.length))), (5, .int (nI u))] ∧ HS G B v (n) s H' locs' ∧ v (q) = some (eO 0 [v0, v1, v2, .ref (m), .int (nI bg)]) ∧ v (m) = some (eI G (60) (mg)) ∧ (PolyC G v t 60 acc tk tp) ∧ (PolyC G v x cx X kx px) ∧ (PolyC G v y cy Y ky py) ∧ (∀ b, b ≠ q ∧ b ≠ m ∧ (b < t ∨ t + 3 ≤ b) → v b = w b) ∧ (u ≤ X.length * Y.length) ∧ (bg ≤ X.length) ∧ (1 ≤ bg) ∧ (∀ i, i < X.length → mg i = nI (me i) ∧ me i ≤ 60) ∧ (∀ i, i < X.length → me i ≤ Y.length) ∧ (mrg X Y (X.length * Y.length) [] (fun _ => 0) 1 = mrg X Y (X.length * Y.length - u) acc me bg) ∧ k_ = X.length * Y.length - u) ?_ (k0 := X.length * Y.length - (0)) ⟨0, 1, [], fun _ => 0, mg, w1, lv_sub hl [2, 3, 4, 5, 1, 0] rfl, hH, hq, hm, ht, hx, hy, hF, by omega, by omega, by omega, fun i h => ⟨hz i (by omega), by show 0 ≤ 60; decide⟩, fun i h => Nat.zero_le _, rfl, rfl⟩
    intro k45 ls H locs hP ih45
    obtain ⟨u, bg, acc, me, mg, v, hl, hH, hq, hm, ht, hx, hy, hF, hu, hbg, hbg1, hme, hmy2, hmr, hk45⟩ := hP
    refine lv_iload S.1 S.2.1 dX0_merge_45 (lv_at hl 5 rfl) ?_
    refine lv_iload S.1 S.2.1 dX0_merge_47 (lv_at hl 4 rfl) ?_
    refine bn_ge (tgt := 129) S dX0_merge_49 (by decide) (by omega) (fun c49 => ?_) (fun c49 => ?_)
    · skip
      refine lv_iconst (v := nI 1) S.1 S.2.1 dX0_merge_129 (by decide) ?_
      exact rt_z S hr hlk hH dX0_merge_130 (by decide) (⟨rfl, hF, ⟨_, hq⟩, ⟨_, hm⟩, Or.inl ⟨rfl, acc, by rw [hmr, show X.length * Y.length - u = 0 by omega]; rfl, ht⟩⟩)
    · skip
      refine lv_aload_n S.1 S.2.1 dX0_merge_52 rfl (lv_at hl 0 rfl) ?_
      refine lv_aload_n S.1 S.2.1 dX0_merge_53 rfl (lv_at hl 2 rfl) ?_
      refine lv_aload_n S.1 S.2.1 dX0_merge_54 rfl (lv_at hl 3 rfl) ?_
      refine ck_lp (run_V (As := [.ref (x), .ref (y)]) (rest := []) S hK hH (kX0_greatestCode q m x y cx cy X Y kx ky px py v0 v1 v2 bg me mg hq hm hx hy okx oky hbg hme) ceX0_greatestCode mW189 hq rfl rfl hl.1 rfl (Nat.le_of_ble_eq_true rfl) dX0_merge_55 ⟨rfl, rfl, by decide, by decide⟩ ⟨show 0 + 0 ≤ 0 by omega, show 0 + 0 ≤ 0 by omega⟩) hH (fun r55 H locs hp hH => ?_)
      obtain rfl := hp
      refine lv_lstore (lv' := [(6, .long (lI (gC X Y me bg))), (0, .ref (q)), (1, .ref (t)), (2, .ref (x)), (3, .ref (y)), (4, .int (nI (X.length * Y.length))), (5, .int (nI u))]) S.1 S.2.1 dX0_merge_58 hl (by decide) rfl (fun ls hl => ?_)
      refine lv_lload S.1 S.2.1 dX0_merge_60 (lv_at hl 0 rfl) ?_
      refine lv_lconst (v := lI 0) S.1 S.2.1 dX0_merge_62 (by decide) ?_
      refine bl_ge (tgt := 69) S dX0_merge_63 dX0_merge_64 (by decide) (fun c63 => ?_) (fun c63 => ?_)
      · skip
        have hgb := gC_b okx oky me bg hbg
        have c63 : 0 ≤ gC X Y me bg := (lI_le (by omega) (by omega)).mp c63
        have hgn : lI (gC X Y me bg) = lN (gC X Y me bg).toNat := by rw [lN_lI, Int.toNat_of_nonneg c63]
        refine lv_aload_n S.1 S.2.1 dX0_merge_69 rfl (lv_at hl 2 rfl) ?_
        refine lv_lload S.1 S.2.1 dX0_merge_70 (lv_at hl 0 rfl) ?_
        refine tpl (x' := lN (gC X Y me bg).toNat) (hgn) ?_
        refine lv_aload_n S.1 S.2.1 dX0_merge_72 rfl (lv_at hl 1 rfl) ?_
        refine lv_lload S.1 S.2.1 dX0_merge_73 (lv_at hl 0 rfl) ?_
        refine tpl (x' := lN (gC X Y me bg).toNat) (hgn) ?_
        refine lv_aload_n S.1 S.2.1 dX0_merge_75 rfl (lv_at hl 3 rfl) ?_
        refine lv_aload_n S.1 S.2.1 dX0_merge_76 rfl (lv_at hl 4 rfl) ?_
        refine ck_l (run_V (As := [.long (lN (gC X Y me bg).toNat), .ref (x), .ref (y)]) (rest := [.long (lN (gC X Y me bg).toNat), .ref (t)]) S hK hH (kX0_gather q m x y cx cy X Y kx ky px py v0 v1 v2 bg me mg (gC X Y me bg).toNat hq hm hx hy okx oky hbg hme hmq hmx hmy (by omega)) ceX0_gather mW197 hq rfl rfl hl.1 rfl (Nat.le_of_ble_eq_true rfl) dX0_merge_77 ⟨rfl, rfl, by decide, by decide⟩ ⟨show 0 + 0 ≤ 0 by omega, show 0 + 0 ≤ 0 by omega⟩) hH (fun r77 w3 n3 H locs hp hH => ?_)
        obtain ⟨hn1, hfr, ⟨rfl, mg', hm, hgm⟩⟩ := hp
        rw [hn1] at hH
        replace hq := (hfr (q) (by omega)).trans hq
        replace ht := ht.kept (fun b h1 h2 => hfr b (by omega))
        replace hx := hx.kept (fun b h1 h2 => hfr b (by omega))
        replace hy := hy.kept (fun b h1 h2 => hfr b (by omega))
        replace hF : ∀ b, b ≠ q ∧ b ≠ m ∧ (b < t ∨ t + 3 ≤ b) → w3 b = w b := fun b hb => (hfr b (by omega)).trans (hF b hb)
        refine ck_i (run_VN (As := [.long (lN (gC X Y me bg).toNat), .long (lI (gK X Y me (gC X Y me bg).toNat bg))]) (rest := []) S hK hH (kX1_append t 60 (gC X Y me bg).toNat acc (gK X Y me (gC X Y me bg).toNat bg) tk tp ht (gK_b okx oky me _ (by omega))) ceX1_append mN114 ht.ob rfl rfl hl.1 rfl (Nat.le_of_ble_eq_true rfl) dX0_merge_80 ⟨rfl, rfl, by decide, by decide⟩ ⟨show 0 + 0 ≤ 0 by omega, show 0 + 0 ≤ 0 by omega⟩) hH (fun r80 w4 n4 H locs hp hH => ?_)
        obtain ⟨hn1, hfr, hqq⟩ := hp
        rw [hn1] at hH
        replace hq := (hfr (q) (by omega)).trans hq
        replace hm := (hfr (m) (by omega)).trans hm
        replace hx := hx.kept (fun b h1 h2 => hfr b (by omega))
        replace hy := hy.kept (fun b h1 h2 => hfr b (by omega))
        replace hF : ∀ b, b ≠ q ∧ b ≠ m ∧ (b < t ∨ t + 3 ≤ b) → w4 b = w b := fun b hb => (hfr b (by omega)).trans (hF b hb)
        refine lv_if_ne (tgt := 88) S.1 S.2.1 dX0_merge_83 (by decide) (fun c83 => ?_) (fun c83 => ?_)
        · skip
          rcases hqq with ⟨_, L', e1, ht⟩ | ⟨e1, _⟩
          rotate_left
          · exact absurd e1 c83
          have hme2 := me_up (c := (gC X Y me bg).toNat) (bg := bg) hly hmy2
          refine lv_aload_n S.1 S.2.1 dX0_merge_88 rfl (lv_at hl 1 rfl) ?_
          refine gfX0_30 S hK hH hq dX0_merge_89 ?_
          refine lv_aload_n S.1 S.2.1 dX0_merge_92 rfl (lv_at hl 3 rfl) ?_
          refine gfX0_49 S hK hH hx.ob dX0_merge_93 ?_
          refine bn_ge (tgt := 123) S dX0_merge_96 (by decide) (by omega) (fun c96 => ?_) (fun c96 => ?_)
          · skip
            have hnb : ¬ (bg < X.length ∧ 0 < gM X Y me (gC X Y me bg).toNat bg (bg - 1)) := by omega
            refine lv_iinc (v := nI (u + 1)) (lv' := [(5, .int (nI (u + 1))), (6, .long (lI (gC X Y me bg))), (0, .ref (q)), (1, .ref (t)), (2, .ref (x)), (3, .ref (y)), (4, .int (nI (X.length * Y.length)))]) S.1 S.2.1 dX0_merge_123 hl (k := 6) rfl (nI_inc _ 1) (by decide) rfl (fun ls hl => ?_)
            refine lv_goto (tgt := 45) S.1 S.2.1 dX0_merge_126 (by decide) ?_
            exact ih45 _ _ _ _ (by omega) ⟨u + 1, bg, L', _, mg', w4, lv_sub hl [2, 3, 4, 5, 6, 0] rfl, hH, hq, hm, ht, hx, hy, hF, c49, by omega, by omega, fun i h => ⟨hgm i h, (hme2 i h).2⟩, fun i h => (hme2 i h).1, hmr.trans (mrg_miss c49 c63 e1 hnb), rfl⟩
          · skip
            refine lv_aload_n S.1 S.2.1 dX0_merge_99 rfl (lv_at hl 1 rfl) ?_
            refine gfX0_26 S hK hH hq dX0_merge_100 ?_
            refine lv_aload_n S.1 S.2.1 dX0_merge_103 rfl (lv_at hl 1 rfl) ?_
            refine gfX0_30 S hK hH hq dX0_merge_104 ?_
            refine lv_iconst (v := nI 1) S.1 S.2.1 dX0_merge_107 (by decide) ?_
            refine lv_isub S.1 S.2.1 dX0_merge_108 ?_
            refine tpi (x' := nI (bg - 1)) (pk_sub (by omega)) ?_
            refine ald_i S hK hH hm (by omega) (by omega) dX0_merge_109 ?_
            refine tpi (x' := nI (gM X Y me (gC X Y me bg).toNat bg (bg - 1))) (hgm _ (by omega)) ?_
            have hmb := hme2 (bg - 1) (by omega)
            refine lv_if_le (tgt := 123) S.1 S.2.1 dX0_merge_110 (by decide) (fun c110 => ?_) (fun c110 => ?_)
            · skip
              have hnb : ¬ (bg < X.length ∧ 0 < gM X Y me (gC X Y me bg).toNat bg (bg - 1)) := fun e => absurd c110 (nI_nle e.2 (by omega))
              refine lv_iinc (v := nI (u + 1)) (lv' := [(5, .int (nI (u + 1))), (6, .long (lI (gC X Y me bg))), (0, .ref (q)), (1, .ref (t)), (2, .ref (x)), (3, .ref (y)), (4, .int (nI (X.length * Y.length)))]) S.1 S.2.1 dX0_merge_123 hl (k := 6) rfl (nI_inc _ 1) (by decide) rfl (fun ls hl => ?_)
              refine lv_goto (tgt := 45) S.1 S.2.1 dX0_merge_126 (by decide) ?_
              exact ih45 _ _ _ _ (by omega) ⟨u + 1, bg, L', _, mg', w4, lv_sub hl [2, 3, 4, 5, 6, 0] rfl, hH, hq, hm, ht, hx, hy, hF, c49, by omega, by omega, fun i h => ⟨hgm i h, (hme2 i h).2⟩, fun i h => (hme2 i h).1, hmr.trans (mrg_miss c49 c63 e1 hnb), rfl⟩
            · skip
              have hnb : bg < X.length ∧ 0 < gM X Y me (gC X Y me bg).toNat bg (bg - 1) := by
                refine ⟨c96, ?_⟩
                rcases Nat.eq_zero_or_pos (gM X Y me (gC X Y me bg).toNat bg (bg - 1)) with e | e
                · rw [e] at c110; exact absurd (by decide) c110
                · exact e
              refine lv_aload_n S.1 S.2.1 dX0_merge_113 rfl (lv_at hl 1 rfl) ?_
              refine lv_dup S.1 S.2.1 dX0_merge_114 rfl ?_
              refine gfX0_30 S hK hH hq dX0_merge_115 ?_
              refine lv_iconst (v := nI 1) S.1 S.2.1 dX0_merge_118 (by decide) ?_
              refine lv_iadd S.1 S.2.1 dX0_merge_119 ?_
              refine tpi (x' := nI (bg + 1)) (nI_add _ _) ?_
              refine pfX0_30 S hK hH hq dX0_merge_120 (fun w5 H locs hq fr hH => ?_)
              replace hm := (fr (m) (by omega)).trans hm
              replace ht := ht.kept (fun b h1 h2 => fr b (by omega))
              replace hx := hx.kept (fun b h1 h2 => fr b (by omega))
              replace hy := hy.kept (fun b h1 h2 => fr b (by omega))
              replace hF : ∀ b, b ≠ q ∧ b ≠ m ∧ (b < t ∨ t + 3 ≤ b) → w5 b = w b := fun b hb => (fr b (by omega)).trans (hF b hb)
              refine lv_iinc (v := nI (u + 1)) (lv' := [(5, .int (nI (u + 1))), (6, .long (lI (gC X Y me bg))), (0, .ref (q)), (1, .ref (t)), (2, .ref (x)), (3, .ref (y)), (4, .int (nI (X.length * Y.length)))]) S.1 S.2.1 dX0_merge_123 hl (k := 6) rfl (nI_inc _ 1) (by decide) rfl (fun ls hl => ?_)
              refine lv_goto (tgt := 45) S.1 S.2.1 dX0_merge_126 (by decide) ?_
              exact ih45 _ _ _ _ (by omega) ⟨u + 1, bg + 1, L', _, mg', w5, lv_sub hl [2, 3, 4, 5, 6, 0] rfl, hH, hq, hm, ht, hx, hy, hF, c49, by omega, by omega, fun i h => ⟨hgm i h, (hme2 i h).2⟩, fun i h => (hme2 i h).1, hmr.trans (mrg_hit c49 c63 e1 hnb), rfl⟩
        · skip
          rcases hqq with ⟨e1, _⟩ | ⟨_, e1, e2⟩
          · rw [e1] at c83; exact absurd c83 (by decide)
          rw [← e2] at ht
          refine lv_iconst (v := nI 0) S.1 S.2.1 dX0_merge_86 (by decide) ?_
          exact rt_z S hr hlk hH dX0_merge_87 (by decide) (⟨rfl, hF, ⟨_, hq⟩, ⟨_, hm⟩, Or.inr ⟨rfl, hmr.trans (mrg_none c49 c63 e1), acc, ht⟩⟩)
      · skip
        have hgb := gC_b okx oky me bg hbg
        have c63 : gC X Y me bg < 0 := Int.lt_of_not_ge (fun e => c63 ((lI_le (by omega) (by omega)).mpr e))
        refine lv_iconst (v := nI 1) S.1 S.2.1 dX0_merge_67 (by decide) ?_
        exact rt_z S hr hlk hH dX0_merge_68 (by decide) (⟨rfl, hF, ⟨_, hq⟩, ⟨_, hm⟩, Or.inl ⟨rfl, acc, by rw [hmr]; exact mrg_end c63, ht⟩⟩)
  · skip
    refine lv_aload_n S.1 S.2.1 dX0_merge_12 rfl (lv_at hl 0 rfl) ?_
    refine gfX0_26 S hK hH hq dX0_merge_13 ?_
    refine lv_iload S.1 S.2.1 dX0_merge_16 (lv_at hl 4 rfl) ?_
    refine lv_iconst (v := nI 0) S.1 S.2.1 dX0_merge_18 (by decide) ?_
    refine ast_i S hK hH hm (by omega) (by omega) dX0_merge_19 (fun w6 H locs hm fr hH => ?_)
    replace hq := (fr (q) (by omega)).trans hq
    replace ht := ht.kept (fun b h1 h2 => fr b (by omega))
    replace hx := hx.kept (fun b h1 h2 => fr b (by omega))
    replace hy := hy.kept (fun b h1 h2 => fr b (by omega))
    replace hF : ∀ b, b ≠ q ∧ b ≠ m ∧ (b < t ∨ t + 3 ≤ b) → w6 b = w b := fun b hb => (fr b (by omega)).trans (hF b hb)
    refine lv_iinc (v := nI (i + 1)) (lv' := [(4, .int (nI (i + 1))), (0, .ref (q)), (1, .ref (t)), (2, .ref (x)), (3, .ref (y))]) S.1 S.2.1 dX0_merge_20 hl (k := 4) rfl (nI_inc _ 1) (by decide) rfl (fun ls hl => ?_)
    refine lv_goto (tgt := 3) S.1 S.2.1 dX0_merge_23 (by decide) ?_
    exact ih3 _ _ _ _ (by omega) ⟨i + 1, _, w6, lv_sub hl [1, 2, 3, 4, 0] rfl, hH, hq, hm, ht, hx, hy, hF, c9, lt_s (fun u h => by rw [pk_un (by omega)]; exact hz u h) pk_us, rfl⟩
end
section
/-! ===== sums of terms, as functions of codes ===== -/
def co : PL → Nat → Int
  | [], _ => 0
  | t :: L, c => (if t.1 = c then t.2 else 0) + co L c
def Srt (L : PL) : Prop := L.Pairwise (fun a b => b.1 < a.1)
theorem srt_nil : Srt [] := List.Pairwise.nil
theorem srt_cons {t : Nat × Int} {L : PL} : Srt (t :: L) ↔ (∀ s ∈ L, s.1 < t.1) ∧ Srt L := List.pairwise_cons
theorem co_out {L : PL} {c : Nat} (h : ∀ t ∈ L, t.1 ≠ c) : co L c = 0 := by
  induction L with
  | nil => rfl
  | cons t L ih =>
    rw [co, if_neg (h t List.mem_cons_self), ih (fun s hs => h s (List.mem_cons_of_mem _ hs))]
    rfl
theorem co_head {t : Nat × Int} {L : PL} (h : Srt (t :: L)) : co (t :: L) t.1 = t.2 := by
  rw [co, if_pos rfl, co_out (fun s hs => Nat.ne_of_lt ((srt_cons.mp h).1 s hs))]
  omega
theorem co_mem {L : PL} {t : Nat × Int} (hs : Srt L) (ht : t ∈ L) : co L t.1 = t.2 := by
  induction L with
  | nil => cases ht
  | cons s L ih =>
    rcases List.mem_cons.mp ht with rfl | h
    · exact co_head hs
    · have h1 := (srt_cons.mp hs).1 t h
      rw [co, if_neg (by omega), ih (srt_cons.mp hs).2 h]
      omega
theorem co_ne {L : PL} {c : Nat} (h : co L c ≠ 0) : ∃ t ∈ L, t.1 = c := by
  apply Classical.byContradiction
  intro q
  exact h (co_out (fun t ht e => q ⟨t, ht, e⟩))
/-- a sorted list without noughts is known by its coefficients -/
theorem srt_uniq : ∀ {L M : PL}, Srt L → (∀ t ∈ L, t.2 ≠ 0) → Srt M → (∀ t ∈ M, t.2 ≠ 0) → (∀ c, co L c = co M c) → L = M
  | [], [], _, _, _, _, _ => rfl
  | [], s :: M, _, _, h3, h4, h => by
    have := h s.1
    rw [co_head h3] at this
    exact absurd this.symm (h4 s List.mem_cons_self)
  | t :: L, [], h1, h2, _, _, h => by
    have := h t.1
    rw [co_head h1] at this
    exact absurd this (h2 t List.mem_cons_self)
  | t :: L, s :: M, h1, h2, h3, h4, h => by
    have e1 := h t.1
    have e2 := h s.1
    rw [co_head h1] at e1
    rw [co_head h3] at e2
    have n1 := h2 t List.mem_cons_self
    have n2 := h4 s List.mem_cons_self
    have hc : t.1 = s.1 := by
      rcases Nat.lt_trichotomy t.1 s.1 with q | q | q
      · have : co (t :: L) s.1 = 0 := co_out (fun x hx => by
          rcases List.mem_cons.mp hx with rfl | hx
          · omega
          · have := (srt_cons.mp h1).1 x hx
            omega)
        omega
      · exact q
      · have : co (s :: M) t.1 = 0 := co_out (fun x hx => by
          rcases List.mem_cons.mp hx with rfl | hx
          · omega
          · have := (srt_cons.mp h3).1 x hx
            omega)
        omega
    have hv : t.2 = s.2 := by
      rw [e1, hc, co_head h3]
    have hts : t = s := Prod.ext hc hv
    subst hts
    have hL : L = M := srt_uniq (srt_cons.mp h1).2 (fun x hx => h2 x (List.mem_cons_of_mem _ hx)) (srt_cons.mp h3).2 (fun x hx => h4 x (List.mem_cons_of_mem _ hx)) (fun c => by
      have := h c
      rw [co, co] at this
      omega)
    rw [hL]
theorem srt_cd {L : PL} (h : Srt L) {i j : Nat} (hij : i < j) (hj : j < L.length) : cd L j < cd L i := by
  have e1 : L.getD i (0, 0) = L[i]'(by omega) := by simp [List.getD_eq_getElem?_getD, Nat.lt_trans hij hj]
  have e2 : L.getD j (0, 0) = L[j] := by simp [List.getD_eq_getElem?_getD, hj]
  unfold cd
  rw [e1, e2]
  exact List.pairwise_iff_getElem.mp h i j (by omega) hj hij
theorem srt_cd_le {L : PL} (h : Srt L) {i j : Nat} (hij : i ≤ j) (hj : j < L.length) : cd L j ≤ cd L i := by
  rcases Nat.lt_or_ge i j with q | q
  · exact Nat.le_of_lt (srt_cd h q hj)
  · rw [show i = j by omega]; exact Nat.le_refl _
theorem mem_cd {L : PL} {t : Nat × Int} (h : t ∈ L) : ∃ j, j < L.length ∧ t = (cd L j, cf L j) := by
  obtain ⟨j, hj, e⟩ := List.getElem_of_mem h
  refine ⟨j, hj, ?_⟩
  have e1 : L.getD j (0, 0) = L[j] := by simp [List.getD_eq_getElem?_getD, hj]
  unfold cd cf
  rw [e1, e]
/-! ===== what is put together one by one ===== -/
def nz (T : PL) : PL := T.filter (fun t => decide (t.2 ≠ 0))
def inB (t : Nat × Int) : Bool := decide (-99999999 ≤ t.2 ∧ t.2 ≤ 99999999)
/-- a list that fits, or nothing -/
def cut (cap : Nat) (L : PL) : Option PL := if L.length ≤ cap ∧ L.all inB = true then some L else none
def appAll (cap : Nat) : PL → PL → Option PL
  | acc, [] => some acc
  | acc, t :: T => (app cap acc t.1 t.2).bind (fun a => appAll cap a T)
theorem appAll_eq {cap : Nat} : ∀ {T acc : PL}, acc.length ≤ cap → acc.all inB = true → appAll cap acc T = cut cap (acc ++ nz T)
  | [], acc, h1, h2 => by
    rw [appAll, nz, List.filter_nil, List.append_nil, cut, if_pos ⟨h1, h2⟩]
  | t :: T, acc, h1, h2 => by
    rw [appAll, app]
    by_cases h0 : t.2 = 0
    · rw [if_pos h0, Option.bind_some, appAll_eq h1 h2]
      simp [nz, h0]
    · have hz : nz (t :: T) = t :: nz T := by simp [nz, h0]
      rw [if_neg h0, hz]
      by_cases hb : 99999999 < t.2 ∨ t.2 < -99999999 ∨ cap ≤ acc.length
      · rw [if_pos hb, cut, if_neg]
        · rfl
        · rintro ⟨q1, q2⟩
          rw [List.length_append, List.length_cons] at q1
          rw [List.all_append, List.all_cons] at q2
          have q3 : inB t = true := by
            cases e : inB t
            · rw [e] at q2; simp at q2
            · rfl
          have q4 := of_decide_eq_true q3
          omega
      · rw [if_neg hb, Option.bind_some, appAll_eq (by rw [List.length_append]; simp; omega) (by
          rw [List.all_append, h2]
          have : inB t = true := decide_eq_true (by omega)
          simp [this])]
        rw [List.append_assoc]; rfl
theorem co_nz (T : PL) (c : Nat) : co (nz T) c = co T c := by
  induction T with
  | nil => rfl
  | cons t T ih =>
    by_cases h0 : t.2 = 0
    · have hz : nz (t :: T) = nz T := by simp [nz, h0]
      rw [hz, ih, co, h0]; simp
    · have hz : nz (t :: T) = t :: nz T := by simp [nz, h0]
      rw [hz, co, co, ih]
theorem srt_nz {T : PL} (h : Srt T) : Srt (nz T) := List.Pairwise.sublist List.filter_sublist h
theorem nz_ne {T : PL} : ∀ t ∈ nz T, t.2 ≠ 0 := fun t h => by
  have := (List.mem_filter.mp h).2
  exact of_decide_eq_true this
theorem cut_some {cap : Nat} {L M : PL} (h : cut cap L = some M) : M = L ∧ L.length ≤ cap ∧ ∀ t ∈ L, -99999999 ≤ t.2 ∧ t.2 ≤ 99999999 := by
  unfold cut at h
  split at h
  · rename_i q
    cases h
    exact ⟨rfl, q.1, fun t ht => of_decide_eq_true (List.all_eq_true.mp q.2 t ht)⟩
  · cases h
/-! ===== the sum ===== -/
def tstr (sg : Int) : Nat → PL → PL → PL
  | 0, _, _ => []
  | f + 1, X, Y => if X.length = 0 ∧ Y.length = 0 then [] else (nxt sg X Y).1 :: tstr sg f (nxt sg X Y).2.1 (nxt sg X Y).2.2
theorem tsum_str (cap : Nat) (sg : Int) : ∀ (f : Nat) (acc X Y : PL), tsum cap sg f acc X Y = appAll cap acc (tstr sg f X Y)
  | 0, acc, X, Y => rfl
  | f + 1, acc, X, Y => by
    rw [tsum, tstr]
    by_cases h : X.length = 0 ∧ Y.length = 0
    · rw [if_pos h, if_pos h]; rfl
    · rw [if_neg h, if_neg h, appAll]
      congr 1
      funext a
      exact tsum_str cap sg f a _ _
theorem tstr_ok (sg : Int) : ∀ (f : Nat) (X Y : PL), Srt X → Srt Y → X.length + Y.length ≤ f → (∀ b, (∀ t ∈ X, t.1 < b) → (∀ t ∈ Y, t.1 < b) → ∀ t ∈ tstr sg f X Y, t.1 < b) ∧ Srt (tstr sg f X Y) ∧ (∀ c, co (tstr sg f X Y) c = co X c + sg * co Y c) ∧ ∀ t ∈ tstr sg f X Y, (∃ s ∈ X, s.1 = t.1) ∨ ∃ s ∈ Y, s.1 = t.1
  | 0, X, Y, hX, hY, hf => by
    have h1 : X = [] := List.eq_nil_of_length_eq_zero (by omega)
    have h2 : Y = [] := List.eq_nil_of_length_eq_zero (by omega)
    subst h1; subst h2
    exact ⟨fun b _ _ t h => (by cases h), srt_nil, fun c => (by simp [tstr, co]), fun t h => (by cases h)⟩
  | f + 1, [], [], hX, hY, hf => by
    rw [tstr, if_pos ⟨rfl, rfl⟩]
    exact ⟨fun b _ _ t h => (by cases h), srt_nil, fun c => (by simp [co]), fun t h => (by cases h)⟩
  | f + 1, x :: X, [], hX, hY, hf => by
    rw [tstr, if_neg (by simp)]
    show (∀ b, _ → _ → ∀ t ∈ (x.1, 0 + x.2) :: tstr sg f X [], t.1 < b) ∧ Srt ((x.1, 0 + x.2) :: tstr sg f X []) ∧ (∀ c, co ((x.1, 0 + x.2) :: tstr sg f X []) c = _) ∧ ∀ t ∈ (x.1, 0 + x.2) :: tstr sg f X [], _
    obtain ⟨h1, h2⟩ := srt_cons.mp hX
    obtain ⟨i1, i2, i3, i4⟩ := tstr_ok sg f X [] h2 hY (by simp at hf ⊢; omega)
    refine ⟨fun b q1 q2 t ht => ?_, srt_cons.mpr ⟨fun s hs => i1 x.1 h1 (fun t h => by cases h) s hs, i2⟩, fun c => ?_, fun t ht => ?_⟩
    · rcases List.mem_cons.mp ht with rfl | ht
      · exact q1 x List.mem_cons_self
      · exact i1 b (fun s hs => q1 s (List.mem_cons_of_mem _ hs)) q2 t ht
    · rw [co, co, i3]
      simp only [co, Int.mul_zero]
      split <;> omega
    · rcases List.mem_cons.mp ht with rfl | ht
      · exact Or.inl ⟨x, List.mem_cons_self, rfl⟩
      · rcases i4 t ht with ⟨s, hs, e⟩ | ⟨s, hs, e⟩
        · exact Or.inl ⟨s, List.mem_cons_of_mem _ hs, e⟩
        · cases hs
  | f + 1, [], y :: Y, hX, hY, hf => by
    rw [tstr, if_neg (by simp)]
    show (∀ b, _ → _ → ∀ t ∈ (y.1, 0 + sg * y.2) :: tstr sg f [] Y, t.1 < b) ∧ Srt ((y.1, 0 + sg * y.2) :: tstr sg f [] Y) ∧ (∀ c, co ((y.1, 0 + sg * y.2) :: tstr sg f [] Y) c = _) ∧ ∀ t ∈ (y.1, 0 + sg * y.2) :: tstr sg f [] Y, _
    obtain ⟨h1, h2⟩ := srt_cons.mp hY
    obtain ⟨i1, i2, i3, i4⟩ := tstr_ok sg f [] Y hX h2 (by simp at hf ⊢; omega)
    refine ⟨fun b q1 q2 t ht => ?_, srt_cons.mpr ⟨fun s hs => i1 y.1 (fun t h => by cases h) h1 s hs, i2⟩, fun c => ?_, fun t ht => ?_⟩
    · rcases List.mem_cons.mp ht with rfl | ht
      · exact q2 y List.mem_cons_self
      · exact i1 b q1 (fun s hs => q2 s (List.mem_cons_of_mem _ hs)) t ht
    · rw [co, co, i3]
      show (if y.1 = c then 0 + sg * y.2 else 0) + (co [] c + sg * co Y c) = co [] c + sg * ((if y.1 = c then y.2 else 0) + co Y c)
      split <;> simp [co, Int.mul_add]
    · rcases List.mem_cons.mp ht with rfl | ht
      · exact Or.inr ⟨y, List.mem_cons_self, rfl⟩
      · rcases i4 t ht with ⟨s, hs, e⟩ | ⟨s, hs, e⟩
        · cases hs
        · exact Or.inr ⟨s, List.mem_cons_of_mem _ hs, e⟩
  | f + 1, x :: X, y :: Y, hX, hY, hf => by
    rw [tstr, if_neg (by simp)]
    obtain ⟨h1, h2⟩ := srt_cons.mp hX
    obtain ⟨h3, h4⟩ := srt_cons.mp hY
    by_cases e : x.1 = y.1
    · have hn : nxt sg (x :: X) (y :: Y) = ((x.1, 0 + x.2 + sg * y.2), X, Y) := by simp only [nxt]; rw [if_pos e]
      rw [hn]
      obtain ⟨i1, i2, i3, i4⟩ := tstr_ok sg f X Y h2 h4 (by simp at hf ⊢; omega)
      refine ⟨fun b q1 q2 t ht => ?_, srt_cons.mpr ⟨fun s hs => i1 x.1 h1 (fun t ht => by rw [e]; exact h3 t ht) s hs, i2⟩, fun c => ?_, fun t ht => ?_⟩
      · rcases List.mem_cons.mp ht with rfl | ht
        · exact q1 x List.mem_cons_self
        · exact i1 b (fun s hs => q1 s (List.mem_cons_of_mem _ hs)) (fun s hs => q2 s (List.mem_cons_of_mem _ hs)) t ht
      · rw [co, co, co, i3, ← e]
        show (if x.1 = c then 0 + x.2 + sg * y.2 else 0) + (co X c + sg * co Y c) = (if x.1 = c then x.2 else 0) + co X c + sg * ((if x.1 = c then y.2 else 0) + co Y c)
        split
        · rw [Int.mul_add]; omega
        · simp
      · rcases List.mem_cons.mp ht with rfl | ht
        · exact Or.inl ⟨x, List.mem_cons_self, rfl⟩
        · rcases i4 t ht with ⟨s, hs, e⟩ | ⟨s, hs, e⟩
          · exact Or.inl ⟨s, List.mem_cons_of_mem _ hs, e⟩
          · exact Or.inr ⟨s, List.mem_cons_of_mem _ hs, e⟩
    · by_cases g : y.1 < x.1
      · have hn : nxt sg (x :: X) (y :: Y) = ((x.1, 0 + x.2), X, y :: Y) := by simp only [nxt]; rw [if_neg e, if_pos g]
        rw [hn]
        obtain ⟨i1, i2, i3, i4⟩ := tstr_ok sg f X (y :: Y) h2 hY (by simp at hf ⊢; omega)
        refine ⟨fun b q1 q2 t ht => ?_, srt_cons.mpr ⟨fun s hs => i1 x.1 h1 (fun t ht => by
          rcases List.mem_cons.mp ht with rfl | ht
          · exact g
          · exact Nat.lt_trans (h3 t ht) g) s hs, i2⟩, fun c => ?_, fun t ht => ?_⟩
        · rcases List.mem_cons.mp ht with rfl | ht
          · exact q1 x List.mem_cons_self
          · exact i1 b (fun s hs => q1 s (List.mem_cons_of_mem _ hs)) q2 t ht
        · rw [co, i3]
          show (if x.1 = c then 0 + x.2 else 0) + (co X c + sg * co (y :: Y) c) = ((if x.1 = c then x.2 else 0) + co X c) + sg * co (y :: Y) c
          split <;> omega
        · rcases List.mem_cons.mp ht with rfl | ht
          · exact Or.inl ⟨x, List.mem_cons_self, rfl⟩
          · rcases i4 t ht with ⟨s, hs, e⟩ | ⟨s, hs, e⟩
            · exact Or.inl ⟨s, List.mem_cons_of_mem _ hs, e⟩
            · exact Or.inr ⟨s, hs, e⟩
      · have hn : nxt sg (x :: X) (y :: Y) = ((y.1, 0 + sg * y.2), x :: X, Y) := by simp only [nxt]; rw [if_neg e, if_neg g]
        rw [hn]
        obtain ⟨i1, i2, i3, i4⟩ := tstr_ok sg f (x :: X) Y hX h4 (by simp at hf ⊢; omega)
        refine ⟨fun b q1 q2 t ht => ?_, srt_cons.mpr ⟨fun s hs => i1 y.1 (fun t ht => by
          rcases List.mem_cons.mp ht with rfl | ht
          · omega
          · have := h1 t ht
            omega) h3 s hs, i2⟩, fun c => ?_, fun t ht => ?_⟩
        · rcases List.mem_cons.mp ht with rfl | ht
          · exact q2 y List.mem_cons_self
          · exact i1 b q1 (fun s hs => q2 s (List.mem_cons_of_mem _ hs)) t ht
        · rw [co, i3]
          show (if y.1 = c then 0 + sg * y.2 else 0) + (co (x :: X) c + sg * co Y c) = co (x :: X) c + sg * ((if y.1 = c then y.2 else 0) + co Y c)
          split
          · rw [Int.mul_add]; omega
          · simp
        · rcases List.mem_cons.mp ht with rfl | ht
          · exact Or.inr ⟨y, List.mem_cons_self, rfl⟩
          · rcases i4 t ht with ⟨s, hs, e⟩ | ⟨s, hs, e⟩
            · exact Or.inl ⟨s, hs, e⟩
            · exact Or.inr ⟨s, List.mem_cons_of_mem _ hs, e⟩
end
section
/-! ===== the product ===== -/
def sumN (f : Nat → Int) : Nat → Int
  | 0 => 0
  | n + 1 => sumN f n + f n
theorem sumN_congr {f g : Nat → Int} {n : Nat} (h : ∀ i, i < n → f i = g i) : sumN f n = sumN g n := by
  induction n with
  | zero => rfl
  | succ n ih => rw [sumN, sumN, ih (fun i hi => h i (by omega)), h n (by omega)]
theorem sumN_zero {f : Nat → Int} {n : Nat} (h : ∀ i, i < n → f i = 0) : sumN f n = 0 := by
  induction n with
  | zero => rfl
  | succ n ih => rw [sumN, ih (fun i hi => h i (by omega)), h n (by omega)]; rfl
theorem sumN_cut {f : Nat → Int} {m n : Nat} (hmn : m ≤ n) (h : ∀ i, m ≤ i → i < n → f i = 0) : sumN f n = sumN f m := by
  induction n with
  | zero => rw [show m = 0 by omega]
  | succ n ih =>
    rcases Nat.lt_or_ge m (n + 1) with q | q
    · rw [sumN, ih (by omega) (fun i h1 h2 => h i h1 (by omega)), h n (by omega) (by omega)]; omega
    · rw [show m = n + 1 by omega]
def pr1 (t : Nat × Int) : PL → Nat → Int
  | [], _ => 0
  | s :: Y, c => (if t.1 + s.1 = c then t.2 * s.2 else 0) + pr1 t Y c
def pc : PL → PL → Nat → Int
  | [], _, _ => 0
  | t :: X, Y, c => pr1 t Y c + pc X Y c
theorem pr1_out {t : Nat × Int} {Y : PL} {c : Nat} (h : ∀ s ∈ Y, t.1 + s.1 ≠ c) : pr1 t Y c = 0 := by
  induction Y with
  | nil => rfl
  | cons s Y ih => rw [pr1, if_neg (h s List.mem_cons_self), ih (fun u hu => h u (List.mem_cons_of_mem _ hu))]; rfl
theorem pr1_at {t : Nat × Int} {Y : PL} {m c : Nat} (h : m < Y.length) : pr1 t (Y.drop m) c = (if t.1 + cd Y m = c then t.2 * cf Y m else 0) + pr1 t (Y.drop (m + 1)) c := by
  rw [drop_cd h, pr1]
theorem drop_mem {Y : PL} {m : Nat} {s : Nat × Int} (h : s ∈ Y.drop m) : ∃ j, m ≤ j ∧ j < Y.length ∧ s = (cd Y j, cf Y j) := by
  obtain ⟨j, hj, e⟩ := List.getElem_of_mem h
  rw [List.length_drop] at hj
  refine ⟨m + j, by omega, by omega, ?_⟩
  rw [List.getElem_drop] at e
  have e1 : Y.getD (m + j) (0, 0) = Y[m + j]'(by omega) := by simp [List.getD_eq_getElem?_getD, show m + j < Y.length by omega]
  unfold cd cf
  rw [e1, e]
theorem pr1_zero {t : Nat × Int} {Y : PL} {m c : Nat} (h : ∀ j, m ≤ j → j < Y.length → t.1 + cd Y j ≠ c) : pr1 t (Y.drop m) c = 0 :=
  pr1_out (fun s hs => by
    obtain ⟨j, h1, h2, rfl⟩ := drop_mem hs
    exact h j h1 h2)
def pcR (X Y : PL) (me : Nat → Nat) (c : Nat) : Int := sumN (fun i => pr1 (cd X i, cf X i) (Y.drop (me i)) c) X.length
theorem cd_cons {t : Nat × Int} {X : PL} {i : Nat} : cd (t :: X) (i + 1) = cd X i ∧ cf (t :: X) (i + 1) = cf X i := ⟨rfl, rfl⟩
theorem sumN_shift (f : Nat → Int) (n : Nat) : sumN f (n + 1) = f 0 + sumN (fun i => f (i + 1)) n := by
  induction n with
  | zero => simp [sumN]
  | succ n ih => rw [sumN, ih, sumN]; omega
theorem pcR_0 (X Y : PL) (c : Nat) : pcR X Y (fun _ => 0) c = pc X Y c := by
  unfold pcR
  induction X with
  | nil => rfl
  | cons t X ih =>
    rw [List.length_cons, sumN_shift, pc, ← ih]
    simp [cd_cons.1, cd_cons.2]
    rfl
/-- what holds between the steps of a merge -/
def MInv (X Y : PL) (me : Nat → Nat) (bg : Nat) : Prop := 1 ≤ bg ∧ bg ≤ X.length ∧ (∀ i, i < X.length → me i ≤ Y.length) ∧ (∀ i, bg ≤ i → i < X.length → me i = 0) ∧ (bg = X.length ∨ me (bg - 1) = 0)
def mstr (X Y : PL) : Nat → (Nat → Nat) → Nat → PL
  | 0, _, _ => []
  | f + 1, me, bg => if gC X Y me bg < 0 then [] else ((gC X Y me bg).toNat, gK X Y me (gC X Y me bg).toNat bg) :: mstr X Y f (gM X Y me (gC X Y me bg).toNat bg) (if bg < X.length ∧ 0 < gM X Y me (gC X Y me bg).toNat bg (bg - 1) then bg + 1 else bg)
theorem mrg_str (X Y : PL) : ∀ (f : Nat) (acc : PL) (me : Nat → Nat) (bg : Nat), mrg X Y f acc me bg = appAll 60 acc (mstr X Y f me bg)
  | 0, _, _, _ => rfl
  | f + 1, acc, me, bg => by
    rw [mrg, mstr]
    by_cases h : gC X Y me bg < 0
    · rw [if_pos h, if_pos h]; rfl
    · rw [if_neg h, if_neg h, appAll]
      congr 1
      funext a
      exact mrg_str X Y f a _ _
theorem gC_le {X Y : PL} {me : Nat → Nat} : ∀ {bg i : Nat}, i < bg → me i < Y.length → ((cd X i + cd Y (me i) : Nat) : Int) ≤ gC X Y me bg
  | bg + 1, i, h1, h2 => by
    rw [gC]
    rcases Nat.lt_or_ge i bg with q | q
    · have := gC_le (X := X) q h2
      split <;> omega
    · have e : i = bg := by omega
      subst e
      rw [if_pos h2]
      omega
theorem gC_is {X Y : PL} {me : Nat → Nat} : ∀ {bg : Nat}, gC X Y me bg = -1 ∨ ∃ i, i < bg ∧ me i < Y.length ∧ gC X Y me bg = ((cd X i + cd Y (me i) : Nat) : Int)
  | 0 => Or.inl rfl
  | bg + 1 => by
    rw [gC]
    split
    · rename_i h
      rcases Int.le_total (gC X Y me bg) ((cd X bg + cd Y (me bg) : Nat) : Int) with q | q
      · exact Or.inr ⟨bg, by omega, h, Int.max_eq_right q⟩
      · rcases gC_is (X := X) (Y := Y) (me := me) (bg := bg) with e | ⟨i, h1, h2, e⟩
        · omega
        · exact Or.inr ⟨i, by omega, h2, by rw [Int.max_eq_left q]; exact e⟩
    · rcases gC_is (X := X) (Y := Y) (me := me) (bg := bg) with e | ⟨i, h1, h2, e⟩
      · exact Or.inl e
      · exact Or.inr ⟨i, by omega, h2, e⟩
theorem gC_all {X Y : PL} {me : Nat → Nat} {bg : Nat} (hX : Srt X) (hY : Srt Y) (h : MInv X Y me bg) {i j : Nat} (hi : i < X.length) (h1 : me i ≤ j) (h2 : j < Y.length) : ((cd X i + cd Y j : Nat) : Int) ≤ gC X Y me bg ∧ (bg ≤ i → ((cd X i + cd Y j : Nat) : Int) < gC X Y me bg) := by
  obtain ⟨g1, g2, g3, g4, g5⟩ := h
  rcases Nat.lt_or_ge i bg with q | q
  · have e1 := gC_le (X := X) (Y := Y) (me := me) q (by omega)
    have e2 := srt_cd_le hY h1 h2
    exact ⟨by omega, fun r => by omega⟩
  · have e0 : me (bg - 1) = 0 := by
      rcases g5 with r | r
      · omega
      · exact r
    have e1 := gC_le (X := X) (Y := Y) (me := me) (bg := bg) (i := bg - 1) (by omega) (by omega)
    rw [e0] at e1
    have e2 := srt_cd_le hY (Nat.zero_le j) h2
    have e3 := srt_cd hX (show bg - 1 < i by omega) hi
    exact ⟨by omega, fun r => by omega⟩
theorem gK_sum {X Y : PL} {me : Nat → Nat} {c : Nat} : ∀ {bg : Nat}, gK X Y me c bg = sumN (fun i => if me i < Y.length ∧ cd X i + cd Y (me i) = c then cf X i * cf Y (me i) else 0) bg
  | 0 => rfl
  | bg + 1 => by
    rw [gK, sumN, ← gK_sum]
    split <;> omega
def left (X Y : PL) (me : Nat → Nat) : Int := sumN (fun i => ((Y.length - me i : Nat) : Int)) X.length
theorem sumN_le {f g : Nat → Int} {n : Nat} (h : ∀ i, i < n → f i ≤ g i) : sumN f n ≤ sumN g n := by
  induction n with
  | zero => exact Int.le_refl _
  | succ n ih =>
    have := ih (fun i hi => h i (by omega))
    have := h n (by omega)
    rw [sumN, sumN]; omega
theorem sumN_lt {f g : Nat → Int} {n k : Nat} (h : ∀ i, i < n → f i ≤ g i) (hk : k < n) (hl : f k < g k) : sumN f n < sumN g n := by
  induction n with
  | zero => omega
  | succ n ih =>
    have h1 := h n (by omega)
    rw [sumN, sumN]
    rcases Nat.lt_or_ge k n with q | q
    · have := ih (fun i hi => h i (by omega)) q
      omega
    · rw [show k = n by omega] at hl
      have := sumN_le (f := f) (g := g) (n := n) (fun i hi => h i (by omega))
      omega
theorem sumN_nn {f : Nat → Int} {n : Nat} (h : ∀ i, i < n → 0 ≤ f i) : 0 ≤ sumN f n := by
  have := sumN_le (f := fun _ => 0) (g := f) (n := n) h
  rw [sumN_zero (fun _ _ => rfl)] at this
  exact this
theorem sumN_pos {f : Nat → Int} {n : Nat} (h : ∀ i, i < n → 0 ≤ f i) (hs : sumN f n ≤ 0) : ∀ i, i < n → f i = 0 := by
  intro i hi
  apply Classical.byContradiction
  intro q
  have hf := h i hi
  have := sumN_lt (f := fun _ => 0) (g := f) (n := n) h hi (show (0 : Int) < f i by omega)
  rw [sumN_zero (fun _ _ => rfl)] at this
  omega
theorem mstr_ok {X Y : PL} (hX : Srt X) (hY : Srt Y) : ∀ (f : Nat) (me : Nat → Nat) (bg : Nat), MInv X Y me bg → left X Y me ≤ f → (∀ b : Nat, (∀ i j, i < X.length → me i ≤ j → j < Y.length → cd X i + cd Y j < b) → ∀ t ∈ mstr X Y f me bg, t.1 < b) ∧ Srt (mstr X Y f me bg) ∧ (∀ c, co (mstr X Y f me bg) c = pcR X Y me c) ∧ ∀ t ∈ mstr X Y f me bg, ∃ i j, i < X.length ∧ j < Y.length ∧ t.1 = cd X i + cd Y j
  | 0, me, bg, hM, hf => by
    have hz := sumN_pos (f := fun i => ((Y.length - me i : Nat) : Int)) (n := X.length) (fun i _ => by omega) hf
    refine ⟨fun b _ t h => (by cases h), srt_nil, fun c => ?_, fun t h => (by cases h)⟩
    unfold pcR
    rw [sumN_zero]
    · rfl
    · intro i hi
      apply pr1_zero
      intro j h1 h2
      have h3 : ((Y.length - me i : Nat) : Int) = 0 := hz i hi
      omega
  | f + 1, me, bg, hM, hf => by
    rw [mstr]
    by_cases hg : gC X Y me bg < 0
    · rw [if_pos hg]
      have hno : ∀ i j, i < X.length → me i ≤ j → j < Y.length → False := by
        intro i j h1 h2 h3
        have := (gC_all hX hY hM h1 h2 h3).1
        omega
      refine ⟨fun b _ t h => (by cases h), srt_nil, fun c => ?_, fun t h => (by cases h)⟩
      unfold pcR
      rw [sumN_zero]
      · rfl
      · intro i hi
        apply pr1_zero
        intro j h1 h2
        exact absurd (hno i j hi h1 h2) id
    · rw [if_neg hg]
      obtain ⟨c0, hc0⟩ : ∃ c0, c0 = (gC X Y me bg).toNat := ⟨_, rfl⟩
      have hcg : (c0 : Int) = gC X Y me bg := by rw [hc0]; omega
      rw [← hc0]
      obtain ⟨me', hme'⟩ : ∃ me', me' = gM X Y me c0 bg := ⟨_, rfl⟩
      rw [← hme']
      have hM0 := hM
      obtain ⟨g1, g2, g3, g4, g5⟩ := hM
      have hall : ∀ i j, i < X.length → me i ≤ j → j < Y.length → cd X i + cd Y j ≤ c0 ∧ (bg ≤ i → cd X i + cd Y j < c0) := by
        intro i j h1 h2 h3
        have := gC_all hX hY hM0 h1 h2 h3
        omega
      have hge : ∀ i, me i ≤ me' i := by
        intro i
        rw [hme']; unfold gM
        split <;> omega
      have hlow : ∀ i, bg ≤ i → me' i = me i := by
        intro i hi
        rw [hme']; unfold gM
        rw [if_neg (by omega)]
      have hhit : ∀ i, i < bg → me i < Y.length → cd X i + cd Y (me i) = c0 → me' i = me i + 1 := by
        intro i h1 h2 h3
        rw [hme']; unfold gM
        rw [if_pos ⟨h1, h2, h3⟩]
      have hmis : ∀ i, ¬ (i < bg ∧ me i < Y.length ∧ cd X i + cd Y (me i) = c0) → me' i = me i := by
        intro i h
        rw [hme']; unfold gM
        rw [if_neg h]
      have hM' : MInv X Y me' (if bg < X.length ∧ 0 < me' (bg - 1) then bg + 1 else bg) := by
        have q3 : ∀ i, i < X.length → me' i ≤ Y.length := by
          intro i hi
          have := g3 i hi
          rw [hme']; unfold gM
          split <;> omega
        split
        · rename_i h
          refine ⟨by omega, by omega, q3, fun i h1 h2 => by rw [hlow i (by omega)]; exact g4 i (by omega) h2, Or.inr ?_⟩
          rw [show bg + 1 - 1 = bg by omega, hlow bg (Nat.le_refl _)]
          exact g4 bg (Nat.le_refl _) h.1
        · rename_i h
          refine ⟨g1, g2, q3, fun i h1 h2 => by rw [hlow i h1]; exact g4 i h1 h2, ?_⟩
          rcases Nat.lt_or_ge bg X.length with r | r
          · exact Or.inr (by omega)
          · exact Or.inl (by omega)
      have hrest : ∀ i j, i < X.length → me' i ≤ j → j < Y.length → cd X i + cd Y j < c0 := by
        intro i j h1 h2 h3
        have h4 := hge i
        have h5 := hall i j h1 (by omega) h3
        rcases Nat.lt_or_ge i bg with q | q
        · rcases Nat.lt_or_ge (cd X i + cd Y j) c0 with r | r
          · exact r
          · have e1 : me i < Y.length := by omega
            have e2 := (hall i (me i) h1 (Nat.le_refl _) e1).1
            have e3 := srt_cd_le hY (show me i ≤ j by omega) h3
            have e4 := hhit i q e1 (by omega)
            have e5 := srt_cd hY (show me i < j by omega) h3
            omega
        · exact h5.2 q
      have hlt : left X Y me' < left X Y me := by
        rcases gC_is (X := X) (Y := Y) (me := me) (bg := bg) with e | ⟨i, h1, h2, e⟩
        · omega
        · refine sumN_lt (k := i) (fun k _ => ?_) (by omega) ?_
          · have := hge k
            show ((Y.length - me' k : Nat) : Int) ≤ ((Y.length - me k : Nat) : Int)
            omega
          · have := hhit i h1 h2 (by omega)
            show ((Y.length - me' i : Nat) : Int) < ((Y.length - me i : Nat) : Int)
            omega
      obtain ⟨i1, i2, i3, i4⟩ := mstr_ok hX hY f me' _ hM' (by omega)
      refine ⟨fun b hb t ht => ?_, srt_cons.mpr ⟨fun t ht => i1 c0 hrest t ht, i2⟩, fun c => ?_, fun t ht => ?_⟩
      · rcases List.mem_cons.mp ht with rfl | ht
        · rcases gC_is (X := X) (Y := Y) (me := me) (bg := bg) with e | ⟨i, h1, h2, e⟩
          · omega
          · have := hb i (me i) (by omega) (Nat.le_refl _) h2
            show c0 < b
            omega
        · exact i1 b (fun i j h1 h2 h3 => hb i j h1 (Nat.le_trans (hge i) h2) h3) t ht
      · rw [co, i3]
        unfold pcR
        by_cases hc : c0 = c
        · subst hc
          rw [if_pos rfl, sumN_zero (f := fun i => pr1 (cd X i, cf X i) (Y.drop (me' i)) c0), Int.add_zero, gK_sum]
          · symm
            rw [sumN_cut g2]
            · apply sumN_congr
              intro i hi
              have hi' : i < X.length := by omega
              by_cases q : me i < Y.length
              · rw [pr1_at q]
                have : pr1 (cd X i, cf X i) (Y.drop (me i + 1)) c0 = 0 := by
                  apply pr1_zero
                  intro j h1 h2
                  have e1 := (hall i (me i) hi' (Nat.le_refl _) q).1
                  have e2 := srt_cd hY (show me i < j by omega) h2
                  show cd X i + cd Y j ≠ c0
                  omega
                rw [this, Int.add_zero]
                by_cases r : cd X i + cd Y (me i) = c0
                · rw [if_pos r, if_pos ⟨q, r⟩]
                · rw [if_neg r, if_neg (fun z => r z.2)]
              · rw [if_neg (fun z => q z.1)]
                apply pr1_zero
                intro j h1 h2
                omega
            · intro i h1 h2
              apply pr1_zero
              intro j h3 h4
              have := (hall i j h2 h3 h4).2 h1
              show cd X i + cd Y j ≠ c0
              omega
          · intro i hi
            apply pr1_zero
            intro j h1 h2
            have := hrest i j hi h1 h2
            show cd X i + cd Y j ≠ c0
            omega
        · rw [if_neg hc, Int.zero_add]
          apply sumN_congr
          intro i hi
          by_cases q : i < bg ∧ me i < Y.length ∧ cd X i + cd Y (me i) = c0
          · rw [hhit i q.1 q.2.1 q.2.2, pr1_at q.2.1, if_neg (by show cd X i + cd Y (me i) ≠ c; omega), Int.zero_add]
          · rw [hmis i q]
      · rcases List.mem_cons.mp ht with rfl | ht
        · rcases gC_is (X := X) (Y := Y) (me := me) (bg := bg) with e | ⟨i, h1, h2, e⟩
          · omega
          · exact ⟨i, me i, by omega, h2, by show c0 = _; omega⟩
        · exact i4 t ht
/-- the whole product, in order, before it is cut -/
def fp (X Y : PL) : PL := nz (mstr X Y (X.length * Y.length) (fun _ => 0) 1)
theorem left_0 (X Y : PL) : left X Y (fun _ => 0) = ((X.length * Y.length : Nat) : Int) := by
  unfold left
  generalize X.length = n
  induction n with
  | zero => simp [sumN]
  | succ n ih => rw [sumN, ih, Nat.succ_mul]; simp
theorem fp_ok {X Y : PL} (hX : Srt X) (hY : Srt Y) (h0 : 0 < X.length) : Srt (fp X Y) ∧ (∀ t ∈ fp X Y, t.2 ≠ 0) ∧ (∀ c, co (fp X Y) c = pc X Y c) ∧ ∀ t ∈ fp X Y, ∃ i j, i < X.length ∧ j < Y.length ∧ t.1 = cd X i + cd Y j := by
  have hM : MInv X Y (fun _ => 0) 1 := ⟨Nat.le_refl _, h0, fun _ _ => Nat.zero_le _, fun _ _ _ => rfl, Or.inr rfl⟩
  obtain ⟨-, i2, i3, i4⟩ := mstr_ok hX hY (X.length * Y.length) _ 1 hM (by rw [left_0]; exact Int.le_refl _)
  exact ⟨srt_nz i2, nz_ne, fun c => by rw [fp, co_nz, i3, pcR_0], fun t ht => i4 t (List.mem_filter.mp ht).1⟩
theorem mrg_fp {X Y : PL} : mrg X Y (X.length * Y.length) [] (fun _ => 0) 1 = cut 60 (fp X Y) := by
  rw [mrg_str, appAll_eq (Nat.zero_le _) rfl]; rfl
theorem pr1_swap (t s : Nat × Int) (c : Nat) : (if t.1 + s.1 = c then t.2 * s.2 else 0) = (if s.1 + t.1 = c then s.2 * t.2 else 0) := by
  rw [Nat.add_comm, Int.mul_comm]
theorem pc_nil (X : PL) (c : Nat) : pc X [] c = 0 := by
  induction X with
  | nil => rfl
  | cons t X ih => rw [pc, ih]; rfl
theorem pc_cons (X : PL) (s : Nat × Int) (Y : PL) (c : Nat) : pc X (s :: Y) c = pr1 s X c + pc X Y c := by
  induction X with
  | nil => rfl
  | cons t X ih => rw [pc, pc, ih, pr1, pr1, pr1_swap]; omega
theorem pc_comm (X Y : PL) (c : Nat) : pc X Y c = pc Y X c := by
  induction Y with
  | nil => rw [pc_nil]; rfl
  | cons s Y ih => rw [pc_cons, ih, pc]
theorem pc_ne {X Y : PL} {c : Nat} (h : pc X Y c ≠ 0) : ∃ t ∈ X, ∃ s ∈ Y, t.1 + s.1 = c := by
  induction X with
  | nil => exact absurd rfl h
  | cons t X ih =>
    rw [pc] at h
    by_cases q : pr1 t Y c = 0
    · rw [q] at h
      obtain ⟨u, hu, s, hs, e⟩ := ih (by omega)
      exact ⟨u, List.mem_cons_of_mem _ hu, s, hs, e⟩
    · apply Classical.byContradiction
      intro r
      exact q (pr1_out (fun s hs e => r ⟨t, List.mem_cons_self, s, hs, e⟩))
theorem fp_comm {X Y : PL} (hX : Srt X) (hY : Srt Y) (h0 : 0 < X.length) (h1 : 0 < Y.length) : fp X Y = fp Y X := by
  obtain ⟨a1, a2, a3, -⟩ := fp_ok hX hY h0
  obtain ⟨b1, b2, b3, -⟩ := fp_ok hY hX h1
  exact srt_uniq a1 a2 b1 b2 (fun c => by rw [a3, b3, pc_comm])
end
section
/-! ===== codes: sixteen digits and their sum ===== -/
def dp (p c : Nat) : Nat := c / 10 ^ p % 10
theorem dig_dp (c t : Nat) : dig c t = dp (15 - t) c := rfl
theorem dp_lt (p c : Nat) : dp p c < 10 := Nat.mod_lt _ (by decide)
/-- the sum of the last n digits -/
def dsm (c : Nat) : Nat → Nat
  | 0 => 0
  | n + 1 => dsm c n + dp n c
/-- a code: the sum of its sixteen digits stands ahead of them -/
def vC (c : Nat) : Prop := c / 10 ^ 16 = dsm c 16
theorem dsm_le (c : Nat) : ∀ n, dsm c n ≤ 9 * n
  | 0 => Nat.le_refl _
  | n + 1 => by
    have h1 := dsm_le c n
    have h2 := dp_lt n c
    rw [dsm]; omega
theorem vC_lt {c : Nat} (h : vC c) : c < 1460000000000000000 := by
  have h1 := dsm_le c 16
  unfold vC at h
  have h2 : c / 10000000000000000 ≤ 144 := by
    have : (10 : Nat) ^ 16 = 10000000000000000 := by decide
    rw [this] at h
    omega
  omega
theorem pow10_succ (p : Nat) : (10 : Nat) ^ (p + 1) = 10 ^ p * 10 := Nat.pow_succ 10 p
/-- no carry: the heads are added -/
theorem add_hd {a b : Nat} : ∀ {p : Nat}, (∀ q, q < p → dp q a + dp q b ≤ 9) → (a + b) / 10 ^ p = a / 10 ^ p + b / 10 ^ p
  | 0, _ => by simp
  | p + 1, h => by
    have ih := add_hd (p := p) (fun q hq => h q (by omega))
    have hp := h p (by omega)
    unfold dp at hp
    rw [pow10_succ, ← Nat.div_div_eq_div_mul, ← Nat.div_div_eq_div_mul, ← Nat.div_div_eq_div_mul, ih]
    omega
theorem add_dp {a b p : Nat} (h : ∀ q, q ≤ p → dp q a + dp q b ≤ 9) : dp p (a + b) = dp p a + dp p b := by
  have h1 := add_hd (p := p) (fun q hq => h q (by omega))
  have h2 := h p (Nat.le_refl _)
  unfold dp at h2 ⊢
  rw [h1]
  omega
theorem add_dsm {a b : Nat} : ∀ {n : Nat}, (∀ q, q < n → dp q a + dp q b ≤ 9) → dsm (a + b) n = dsm a n + dsm b n
  | 0, _ => rfl
  | n + 1, h => by
    rw [dsm, dsm, dsm, add_dsm (fun q hq => h q (by omega)), add_dp (fun q hq => h q (by omega))]
    omega
theorem add_vC {a b : Nat} (ha : vC a) (hb : vC b) (h : ∀ q, q < 16 → dp q a + dp q b ≤ 9) : vC (a + b) := by
  unfold vC at ha hb ⊢
  rw [add_hd h, add_dsm h, ha, hb]
theorem add_dig {a b : Nat} (h : ∀ u, u < 16 → dig a u + dig b u ≤ 9) (u : Nat) : dig (a + b) u = dig a u + dig b u := by
  rw [dig_dp, dig_dp, dig_dp]
  apply add_dp
  intro q hq
  have := h (15 - q) (by omega)
  rw [dig_dp, dig_dp, show 15 - (15 - q) = q by omega] at this
  exact this
theorem dp_of_dig {a b : Nat} (h : ∀ u, u < 16 → dig a u + dig b u ≤ 9) : ∀ q, q < 16 → dp q a + dp q b ≤ 9 := by
  intro q hq
  have := h (15 - q) (by omega)
  rw [dig_dp, dig_dp, show 15 - (15 - q) = q by omega] at this
  exact this
/-- what a poly is -/
def okP (L : PL) : Prop := Srt L ∧ L.length ≤ 60 ∧ ∀ t ∈ L, vC t.1 ∧ t.2 ≠ 0 ∧ -99999999 ≤ t.2 ∧ t.2 ≤ 99999999
theorem okP.ok {L : PL} (h : okP L) : okL L := fun j hj => by
  have h1 := h.2.2 _ (cd_mem hj)
  have h2 := vC_lt h1.1
  refine ⟨?_, h1.2⟩
  show cd L j < _
  have h3 : cd L j < 1460000000000000000 := h2
  omega
theorem okP_nil : okP [] := ⟨srt_nil, Nat.zero_le _, fun t h => (by cases h)⟩
theorem top_ge {L : PL} {t : Nat × Int} (u : Nat) (h : t ∈ L) : dig t.1 u ≤ top L u := by
  have key : ∀ (L : PL) (m : Nat), m ≤ L.foldl (fun m x => max m (dig x.1 u)) m ∧ ∀ t ∈ L, dig t.1 u ≤ L.foldl (fun m x => max m (dig x.1 u)) m := by
    intro L
    induction L with
    | nil => intro m; exact ⟨Nat.le_refl _, fun t h => (by cases h)⟩
    | cons s L ih =>
      intro m
      have h1 := ih (max m (dig s.1 u))
      refine ⟨Nat.le_trans (Nat.le_max_left _ _) h1.1, fun t ht => ?_⟩
      rcases List.mem_cons.mp ht with rfl | ht
      · exact Nat.le_trans (Nat.le_max_right _ _) h1.1
      · exact h1.2 t ht
  exact (key L 0).2 t h
theorem top_is {L : PL} (u : Nat) (h : L ≠ []) : ∃ t ∈ L, dig t.1 u = top L u := by
  have key : ∀ (L : PL) (m : Nat), L.foldl (fun m x => max m (dig x.1 u)) m = m ∨ ∃ t ∈ L, dig t.1 u = L.foldl (fun m x => max m (dig x.1 u)) m := by
    intro L
    induction L with
    | nil => intro m; exact Or.inl rfl
    | cons s L ih =>
      intro m
      rcases ih (max m (dig s.1 u)) with e | ⟨t, ht, e⟩
      · rcases Nat.le_total m (dig s.1 u) with q | q
        · refine Or.inr ⟨s, List.mem_cons_self, ?_⟩
          show dig s.1 u = L.foldl (fun m x => max m (dig x.1 u)) (max m (dig s.1 u))
          rw [e]; omega
        · refine Or.inl ?_
          show L.foldl (fun m x => max m (dig x.1 u)) (max m (dig s.1 u)) = m
          rw [e]; omega
      · exact Or.inr ⟨t, List.mem_cons_of_mem _ ht, e⟩
  rcases key L 0 with e | e
  · cases L with
    | nil => exact absurd rfl h
    | cons s L =>
      refine ⟨s, List.mem_cons_self, ?_⟩
      have h1 := top_ge (L := s :: L) u (t := s) List.mem_cons_self
      unfold top at h1 ⊢
      omega
  · exact e
theorem top_le {L : PL} {u m : Nat} (h : ∀ t ∈ L, dig t.1 u ≤ m) (h0 : L ≠ []) : top L u ≤ m := by
  obtain ⟨t, ht, e⟩ := top_is u h0
  rw [← e]; exact h t ht
/-- of the terms with the greatest power of u, that with the greatest code -/
theorem top_lead {L : PL} (u : Nat) (h : L ≠ []) : ∃ t ∈ L, dig t.1 u = top L u ∧ ∀ s ∈ L, dig s.1 u = top L u → s.1 ≤ t.1 := by
  have key : ∀ (M : PL), (∃ t ∈ M, dig t.1 u = top L u) → ∃ t ∈ M, dig t.1 u = top L u ∧ ∀ s ∈ M, dig s.1 u = top L u → s.1 ≤ t.1 := by
    intro M
    induction M with
    | nil => rintro ⟨t, ht, _⟩; cases ht
    | cons a M ih =>
      rintro ⟨t, ht, e⟩
      by_cases q : ∃ t ∈ M, dig t.1 u = top L u
      · obtain ⟨b, hb, e1, e2⟩ := ih q
        by_cases r : dig a.1 u = top L u ∧ b.1 < a.1
        · refine ⟨a, List.mem_cons_self, r.1, fun s hs hd => ?_⟩
          rcases List.mem_cons.mp hs with rfl | hs
          · exact Nat.le_refl _
          · have := e2 s hs hd
            omega
        · refine ⟨b, List.mem_cons_of_mem _ hb, e1, fun s hs hd => ?_⟩
          rcases List.mem_cons.mp hs with rfl | hs
          · rcases Nat.lt_or_ge b.1 s.1 with z | z
            · exact absurd ⟨hd, z⟩ r
            · exact z
          · exact e2 s hs hd
      · refine ⟨a, List.mem_cons_self, ?_, fun s hs hd => ?_⟩
        · rcases List.mem_cons.mp ht with rfl | ht
          · exact e
          · exact absurd ⟨t, ht, e⟩ q
        · rcases List.mem_cons.mp hs with rfl | hs
          · exact Nat.le_refl _
          · exact absurd ⟨s, hs, hd⟩ q
  exact key L (top_is u h)
theorem pr1_one {t s : Nat × Int} {Y : PL} {c : Nat} (hY : Srt Y) (hs : s ∈ Y) (h : t.1 + s.1 = c) : pr1 t Y c = t.2 * s.2 := by
  induction Y with
  | nil => cases hs
  | cons a Y ih =>
    obtain ⟨h1, h2⟩ := srt_cons.mp hY
    rcases List.mem_cons.mp hs with rfl | hs
    · rw [pr1, if_pos h, pr1_out (fun b hb => by have := h1 b hb; omega)]; omega
    · rw [pr1, if_neg (by have := h1 s hs; omega), ih h2 hs]; omega
theorem pc_one {X Y : PL} {t s : Nat × Int} {c : Nat} (hX : Srt X) (hY : Srt Y) (ht : t ∈ X) (hs : s ∈ Y) (h : t.1 + s.1 = c) (hu : ∀ a ∈ X, ∀ b ∈ Y, a.1 + b.1 = c → a.1 = t.1) : pc X Y c = t.2 * s.2 := by
  induction X with
  | nil => cases ht
  | cons a X ih =>
    obtain ⟨h1, h2⟩ := srt_cons.mp hX
    rw [pc]
    rcases List.mem_cons.mp ht with rfl | ht
    · rw [pr1_one hY hs h]
      have : pc X Y c = 0 := by
        apply Classical.byContradiction
        intro q
        obtain ⟨x, hx, y, hy, e⟩ := pc_ne q
        have e1 := hu x (List.mem_cons_of_mem _ hx) y hy e
        have e2 := h1 x hx
        omega
      omega
    · have h0 : pr1 a Y c = 0 := pr1_out (fun b hb e => by
        have e1 := hu a List.mem_cons_self b hb e
        have e2 := h1 t ht
        omega)
      rw [h0, ih h2 ht (fun x hx => hu x (List.mem_cons_of_mem _ hx))]
      omega
/-- the tops of a product: whole numbers have no divisors of nought -/
theorem top_fp {X Y : PL} (hX : okP X) (hY : okP Y) (h0 : 0 < X.length) (h1 : 0 < Y.length) (hd : ∀ u, u < 16 → top X u + top Y u ≤ 9) {u : Nat} (hu : u < 16) : top (fp X Y) u = top X u + top Y u := by
  obtain ⟨f1, f2, f3, f4⟩ := fp_ok hX.1 hY.1 h0
  have nX : X ≠ [] := by intro e; rw [e] at h0; exact absurd h0 (Nat.lt_irrefl 0)
  have nY : Y ≠ [] := by intro e; rw [e] at h1; exact absurd h1 (Nat.lt_irrefl 0)
  have hsum : ∀ a ∈ X, ∀ b ∈ Y, dig (a.1 + b.1) u = dig a.1 u + dig b.1 u := by
    intro a ha b hb
    apply add_dig
    intro v hv
    have := hd v hv
    have := top_ge v ha
    have := top_ge v hb
    omega
  obtain ⟨a, ha, ea, la⟩ := top_lead u nX
  obtain ⟨b, hb, eb, lb⟩ := top_lead u nY
  have hone : pc X Y (a.1 + b.1) = a.2 * b.2 := by
    refine pc_one hX.1 hY.1 ha hb rfl (fun x hx y hy e => ?_)
    have e1 := hsum x hx y hy
    have e2 := hsum a ha b hb
    rw [e, e2] at e1
    have e3 := top_ge u hx
    have e4 := top_ge u hy
    have e5 := la x hx (by omega)
    have e6 := lb y hy (by omega)
    omega
  have hne : co (fp X Y) (a.1 + b.1) ≠ 0 := by
    rw [f3, hone]
    exact Int.mul_ne_zero (hX.2.2 a ha).2.1 (hY.2.2 b hb).2.1
  obtain ⟨t, ht, et⟩ := co_ne hne
  apply Nat.le_antisymm
  · refine top_le (fun s hs => ?_) (fun e => by rw [e] at ht; cases ht)
    obtain ⟨i, j, hi, hj, e⟩ := f4 s hs
    have e1 := hsum _ (cd_mem hi) _ (cd_mem hj)
    have e2 := top_ge u (cd_mem hi)
    have e3 := top_ge u (cd_mem hj)
    rw [e]
    show dig (cd X i + cd Y j) u ≤ _
    have e4 : dig (cd X i + cd Y j) u = dig (cd X i) u + dig (cd Y j) u := e1
    have e5 : dig (cd X i) u ≤ top X u := e2
    have e6 : dig (cd Y j) u ≤ top Y u := e3
    omega
  · have e1 := top_ge u ht
    rw [et, hsum a ha b hb] at e1
    omega
theorem fp_ne {X Y : PL} (hX : okP X) (hY : okP Y) (h0 : 0 < X.length) (h1 : 0 < Y.length) (hd : ∀ u, u < 16 → top X u + top Y u ≤ 9) {M : PL} (hc : cut 60 (fp X Y) = some M) : okP M := by
  obtain ⟨f1, f2, f3, f4⟩ := fp_ok hX.1 hY.1 h0
  obtain ⟨rfl, c1, c2⟩ := cut_some hc
  refine ⟨f1, c1, fun t ht => ⟨?_, f2 t ht, c2 t ht⟩⟩
  obtain ⟨i, j, hi, hj, e⟩ := f4 t ht
  rw [e]
  refine add_vC (hX.2.2 _ (cd_mem hi)).1 (hY.2.2 _ (cd_mem hj)).1 (dp_of_dig (fun v hv => ?_))
  have a1 := hd v hv
  have a2 := top_ge v (cd_mem hi)
  have a3 := top_ge v (cd_mem hj)
  show dig (cd X i) v + dig (cd Y j) v ≤ 9
  have a4 : dig (cd X i) v ≤ top X v := a2
  have a5 : dig (cd Y j) v ≤ top Y v := a3
  omega
/-- the product; none: too big -/
def pmul (X Y : PL) : Option PL := if X.length = 0 ∨ Y.length = 0 then some [] else if (List.range 16).any (fun u => decide (9 < top X u + top Y u)) = true then none else cut 60 (fp X Y)
theorem far_iff {X Y : PL} : (List.range 16).any (fun u => decide (9 < top X u + top Y u)) = true ↔ ∃ u, u < 16 ∧ 9 < top X u + top Y u := by
  rw [List.any_eq_true]
  constructor
  · rintro ⟨u, h1, h2⟩
    exact ⟨u, List.mem_range.mp h1, of_decide_eq_true h2⟩
  · rintro ⟨u, h1, h2⟩
    exact ⟨u, List.mem_range.mpr h1, decide_eq_true h2⟩
theorem pmul_nil {X Y : PL} (h : X.length = 0 ∨ Y.length = 0) : pmul X Y = some [] := by rw [pmul, if_pos h]
theorem pmul_far {X Y : PL} (h0 : 0 < X.length) (h1 : 0 < Y.length) (h : ∃ u, u < 16 ∧ 9 < top X u + top Y u) : pmul X Y = none := by
  rw [pmul, if_neg (by omega), if_pos (far_iff.mpr h)]
theorem pmul_cut {X Y : PL} (h0 : 0 < X.length) (h1 : 0 < Y.length) (h : ∀ u, u < 16 → top X u + top Y u ≤ 9) : pmul X Y = cut 60 (fp X Y) := by
  rw [pmul, if_neg (by omega), if_neg]
  intro q
  obtain ⟨u, h2, h3⟩ := far_iff.mp q
  have := h u h2
  omega
theorem pmul_ok {X Y M : PL} (hX : okP X) (hY : okP Y) (h : pmul X Y = some M) : okP M := by
  unfold pmul at h
  split at h
  · cases h; exact okP_nil
  · split at h
    · cases h
    · rename_i h0 h1
      refine fp_ne hX hY (by omega) (by omega) (fun u hu => ?_) h
      rcases Nat.lt_or_ge 9 (top X u + top Y u) with q | q
      · exact absurd (far_iff.mpr ⟨u, hu, q⟩) h1
      · exact q
/-- the sum with a sign; none: too big -/
def padd (sg : Int) (X Y : PL) : Option PL := tsum 60 sg (X.length + Y.length) [] X Y
theorem padd_cut (sg : Int) (X Y : PL) : padd sg X Y = cut 60 (nz (tstr sg (X.length + Y.length) X Y)) := by
  rw [padd, tsum_str, appAll_eq (Nat.zero_le _) rfl]; rfl
theorem padd_ok {sg : Int} {X Y M : PL} (hX : okP X) (hY : okP Y) (h : padd sg X Y = some M) : okP M := by
  rw [padd_cut] at h
  obtain ⟨-, i2, i3, i4⟩ := tstr_ok sg (X.length + Y.length) X Y hX.1 hY.1 (Nat.le_refl _)
  obtain ⟨rfl, c1, c2⟩ := cut_some h
  refine ⟨srt_nz i2, c1, fun t ht => ⟨?_, nz_ne t ht, c2 t ht⟩⟩
  rcases i4 t (List.mem_filter.mp ht).1 with ⟨s, hs, e⟩ | ⟨s, hs, e⟩
  · rw [← e]; exact (hX.2.2 s hs).1
  · rw [← e]; exact (hY.2.2 s hs).1
end
section
theorem nI_z {a : Nat} (h : a < 2 ^ 31) : nI a = 0 ↔ a = 0 := nI_eq h (by decide)
/-- a Poly of the bench, whatever it holds -/
def PolyR (G : Gx) (w : Wm) (a : Nat) : Prop := ∃ (L : PL) (tk : Int32) (tp : Nat → Int32), PolyC G w a 60 L tk tp
theorem PolyR.kept {G : Gx} {w w' : Wm} {a : Nat} (h : PolyR G w a) (hf : ∀ b, a ≤ b → b < a + 4 → w' b = w b) : PolyR G w' a := by
  obtain ⟨L, k, q, h1⟩ := h
  exact ⟨L, k, q, h1.kept hf⟩
theorem PolyAt.raw {G : Gx} {w : Wm} {a : Nat} {L : PL} (h : PolyAt G w a 60 L) : PolyR G w a := by
  obtain ⟨k, q, h1, -⟩ := h
  exact ⟨L, k, q, h1⟩
def one (c : Nat) (k : Int) : PL := if k = 0 then [] else [(c, k)]
theorem one_post {G : Gx} {w' w : Wm} {P c : Nat} {k : Int} {tp : Nat → Int32} {r : Int32} (hk : -99999999 ≤ k ∧ k ≤ 99999999) (h : (r = 1 ∧ ∃ L', app 60 [] c k = some L' ∧ PolyC G w' P 60 L' 0 tp) ∨ (r = 0 ∧ app 60 [] c k = none ∧ w' = w)) : PolyAt G w' P 60 (one c k) := by
  have e : app 60 [] c k = some (one c k) := by
    unfold app one
    by_cases h0 : k = 0
    · rw [if_pos h0, if_pos h0]
    · rw [if_neg h0, if_neg h0, if_neg (by simp; omega)]; rfl
  rcases h with ⟨_, L', e1, e2⟩ | ⟨_, e1, _⟩
  · rw [e] at e1
    cases e1
    exact ⟨_, _, e2, fun z => absurd z (by decide)⟩
  · rw [e] at e1; cases e1
theorem fill_a {G : Gx} {w' : Wm} {t : Nat} {X Y : PL} {tq : Nat → Int32} {r : Int32} (hX : okP X) (hY : okP Y) (h0 : 0 < X.length) (h1 : 0 < Y.length) (hd : ∀ u, u < 16 → top X u + top Y u ≤ 9) (ht : ∀ u, u < 16 → tq u = nI (top X u + top Y u)) (h : (r = 1 ∧ ∃ L', mrg X Y (X.length * Y.length) [] (fun _ => 0) 1 = some L' ∧ PolyC G w' t 60 L' 1 tq) ∨ (r = 0 ∧ mrg X Y (X.length * Y.length) [] (fun _ => 0) 1 = none ∧ ∃ L', PolyC G w' t 60 L' 1 tq)) : (r = 1 ∧ ∃ M, pmul X Y = some M ∧ PolyAt G w' t 60 M) ∨ (r = 0 ∧ pmul X Y = none ∧ PolyR G w' t) := by
  rw [mrg_fp, ← pmul_cut h0 h1 hd] at h
  rcases h with ⟨e, M, e1, e2⟩ | ⟨e, e1, M, e2⟩
  · refine Or.inl ⟨e, M, e1, _, _, e2, fun _ u hu => ?_⟩
    rw [pmul_cut h0 h1 hd] at e1
    rw [ht u hu, (cut_some e1).1, top_fp hX hY h0 h1 hd hu]
  · exact Or.inr ⟨e, e1, _, _, _, e2⟩
theorem fill_b {G : Gx} {w' : Wm} {t : Nat} {X Y : PL} {tq : Nat → Int32} {r : Int32} (hX : okP X) (hY : okP Y) (h0 : 0 < X.length) (h1 : 0 < Y.length) (hd : ∀ u, u < 16 → top X u + top Y u ≤ 9) (ht : ∀ u, u < 16 → tq u = nI (top X u + top Y u)) (h : (r = 1 ∧ ∃ L', mrg Y X (Y.length * X.length) [] (fun _ => 0) 1 = some L' ∧ PolyC G w' t 60 L' 1 tq) ∨ (r = 0 ∧ mrg Y X (Y.length * X.length) [] (fun _ => 0) 1 = none ∧ ∃ L', PolyC G w' t 60 L' 1 tq)) : (r = 1 ∧ ∃ M, pmul X Y = some M ∧ PolyAt G w' t 60 M) ∨ (r = 0 ∧ pmul X Y = none ∧ PolyR G w' t) := by
  rw [mrg_fp, ← fp_comm hX.1 hY.1 h0 h1, ← pmul_cut h0 h1 hd] at h
  rcases h with ⟨e, M, e1, e2⟩ | ⟨e, e1, M, e2⟩
  · refine Or.inl ⟨e, M, e1, _, _, e2, fun _ u hu => ?_⟩
    rw [pmul_cut h0 h1 hd] at e1
    rw [ht u hu, (cut_some e1).1, top_fp hX hY h0 h1 hd hu]
  · exact Or.inr ⟨e, e1, _, _, _, e2⟩
theorem fill_k {G : Gx} {w w' : Wm} {t : Nat} {o : Option PL} {r : Int32} (h : (r = 1 ∧ ∃ M, o = some M ∧ PolyAt G w t 60 M) ∨ (r = 0 ∧ o = none ∧ PolyR G w t)) (hf : ∀ b, t ≤ b → b < t + 4 → w' b = w b) : (r = 1 ∧ ∃ M, o = some M ∧ PolyAt G w' t 60 M) ∨ (r = 0 ∧ o = none ∧ PolyR G w' t) := by
  rcases h with ⟨e, M, e1, e2⟩ | ⟨e, e1, e2⟩
  · exact Or.inl ⟨e, M, e1, e2.kept hf⟩
  · exact Or.inr ⟨e, e1, e2.kept hf⟩
theorem sum_post {G : Gx} {w : Wm} {t : Nat} {sg : Int} {X Y : PL} {tp : Nat → Int32} {r : Int32} (h : (r = 1 ∧ ∃ L', tsum 60 sg (X.length + Y.length) [] X Y = some L' ∧ PolyC G w t 60 L' 0 tp) ∨ (r = 0 ∧ tsum 60 sg (X.length + Y.length) [] X Y = none ∧ ∃ L', PolyC G w t 60 L' 0 tp)) : (r = 1 ∧ ∃ M, padd sg X Y = some M ∧ PolyAt G w t 60 M) ∨ (r = 0 ∧ padd sg X Y = none ∧ PolyR G w t) := by
  rcases h with ⟨e, M, e1, e2⟩ | ⟨e, e1, M, e2⟩
  · exact Or.inl ⟨e, M, e1, _, _, e2, fun z => absurd z (by decide)⟩
  · exact Or.inr ⟨e, e1, _, _, _, e2⟩

set_option maxHeartbeats 4000000 in
set_option maxRecDepth 100000 in
theorem kX0_fillProduct {l : Launch} {G : Gx} {B : Nat} {w : Wm} {n : Nat} (q m t x y cx cy : Nat) (L X Y : PL) (tk : Int32) (tp : Nat → Int32) (v0 v1 v2 : Value) (bg : Int32) (mf : Nat → Int32) (hq : w q = some (eO 0 [v0, v1, v2, .ref m, .int bg])) (hm : w m = some (eI G 60 mf)) (ht : PolyC G w t 60 L tk tp) (hx : PolyAt G w x cx X) (hy : PolyAt G w y cy Y) (okx : okP X) (oky : okP Y) (hmq : m ≠ q) (hmx : m < x ∨ x + 4 ≤ m) (hmy : m < y ∨ y + 4 ≤ m) (hmt : m < t ∨ t + 4 ≤ m) (hqx : q < x ∨ x + 4 ≤ q) (hqy : q < y ∨ y + 4 ≤ q) (hqt : q < t ∨ t + 4 ≤ q) (htx : t + 4 ≤ x ∨ x + 4 ≤ t) (hty : t + 4 ≤ y ∨ y + 4 ≤ t) (hxy : (x = y ∧ cx = cy ∧ X = Y) ∨ x + 4 ≤ y ∨ y + 4 ≤ x) : Met l yX0_fillProduct (wsM yX0_fillProduct cX0_fillProduct 4 (some .boolean)) ({ frames := 3, cells := 0, slots := 0, locals := 75 } : Room) (Pcx G B w n [.ref (q), .ref (t), .ref (x), .ref (y)]) (Qi G B (fun r w' n' => n' = n ∧ (∀ b, (b ≠ q ∧ b ≠ m ∧ (b < t ∨ t + 4 ≤ b) ∧ b ≠ x ∧ b ≠ x + 3 ∧ b ≠ y ∧ b ≠ y + 3) → w' b = w b) ∧ (∃ bg', w' q = some (eO 0 [v0, v1, v2, .ref m, .int bg'])) ∧ (∃ mf', w' m = some (eI G 60 mf')) ∧ PolyAt G w' x cx X ∧ PolyAt G w' y cy Y ∧ ((r = 1 ∧ ∃ M, pmul X Y = some M ∧ PolyAt G w' t 60 M) ∨ (r = 0 ∧ pmul X Y = none ∧ PolyR G w' t)))) 0 0 (FA B) := by
  refine en (by decide) (Nat.le_of_ble_eq_true rfl) ?_
  intro p ev s mm ag bl mt co S hr hlk hnm hK H hH ls hl
  have hl : lv_has ls 4 [(0, .ref (q)), (1, .ref (t)), (2, .ref (x)), (3, .ref (y))] := hl
  obtain ⟨kx, px, hx1, hx2⟩ := hx
  obtain ⟨ky, py, hy1, hy2⟩ := hy
  have hlx := hx1.len
  have hly := hy1.len
  have hF : ∀ b, b ≠ q ∧ b ≠ m ∧ (b < t ∨ t + 4 ≤ b) ∧ b ≠ x ∧ b ≠ x + 3 ∧ b ≠ y ∧ b ≠ y + 3 → w b = w b := fun _ _ => rfl
  refine lv_aload_n S.1 S.2.1 dX0_fillProduct_0 rfl (lv_at hl 1 rfl) ?_
  refine ck_v (run_VN (As := []) (rest := []) S hK hH (kX1_clear t 60 L tk tp ht) ceX1_clear mN110 ht.ob rfl rfl hl.1 rfl (Nat.le_of_ble_eq_true rfl) dX0_fillProduct_1 ⟨rfl, rfl, by decide, by decide⟩ ⟨show 0 + 0 ≤ 0 by omega, show 0 + 0 ≤ 0 by omega⟩) hH (fun w1 n1 H locs hp hH => ?_)
  obtain ⟨hn1, hfr, ht⟩ := hp
  rw [hn1] at hH
  replace hq := (hfr (q) (by omega)).trans hq
  replace hm := (hfr (m) (by omega)).trans hm
  replace hx1 := hx1.kept (fun b h1 h2 => hfr b (by omega))
  replace hy1 := hy1.kept (fun b h1 h2 => hfr b (by omega))
  replace hF : ∀ b, b ≠ q ∧ b ≠ m ∧ (b < t ∨ t + 4 ≤ b) ∧ b ≠ x ∧ b ≠ x + 3 ∧ b ≠ y ∧ b ≠ y + 3 → w1 b = w b := fun b hb => (hfr b (by omega)).trans (hF b hb)
  refine lv_aload_n S.1 S.2.1 dX0_fillProduct_4 rfl (lv_at hl 2 rfl) ?_
  refine gfX0_49 S hK hH hx1.ob dX0_fillProduct_5 ?_
  refine lv_if_eq (tgt := 18) S.1 S.2.1 dX0_fillProduct_8 (by decide) (fun c8 => ?_) (fun c8 => ?_)
  · skip
    have c8 : X.length = 0 := (nI_z (by omega)).mp c8
    refine lv_iconst (v := nI 1) S.1 S.2.1 dX0_fillProduct_18 (by decide) ?_
    exact rt_z S hr hlk hH dX0_fillProduct_19 (by decide) (⟨rfl, hF, ⟨_, hq⟩, ⟨_, hm⟩, ⟨_, _, hx1, hx2⟩, ⟨_, _, hy1, hy2⟩, Or.inl ⟨rfl, [], pmul_nil (Or.inl c8), _, _, ht, fun e => absurd e (by decide)⟩⟩)
  · skip
    have c8 : 0 < X.length := Nat.pos_of_ne_zero (fun e => c8 ((nI_z (by omega)).mpr e))
    refine lv_aload_n S.1 S.2.1 dX0_fillProduct_11 rfl (lv_at hl 3 rfl) ?_
    refine gfX0_49 S hK hH hy1.ob dX0_fillProduct_12 ?_
    refine lv_if_ne (tgt := 20) S.1 S.2.1 dX0_fillProduct_15 (by decide) (fun c15 => ?_) (fun c15 => ?_)
    · skip
      have c15 : 0 < Y.length := Nat.pos_of_ne_zero (fun e => c15 ((nI_z (by omega)).mpr e))
      refine lv_aload_n S.1 S.2.1 dX0_fillProduct_20 rfl (lv_at hl 1 rfl) ?_
      refine lv_aload_n S.1 S.2.1 dX0_fillProduct_21 rfl (lv_at hl 2 rfl) ?_
      refine lv_aload_n S.1 S.2.1 dX0_fillProduct_22 rfl (lv_at hl 3 rfl) ?_
      refine ck_i (run_VN (As := [.ref (x), .ref (y)]) (rest := []) S hK hH (kX1_takeTops t x y 60 cx cy [] X Y 0 tp ht ⟨kx, px, hx1, hx2⟩ ⟨ky, py, hy1, hy2⟩ htx hty hxy (fun j hj => (okx.ok j hj).1) (fun j hj => (oky.ok j hj).1)) ceX1_takeTops mN176 ht.ob rfl rfl hl.1 rfl (Nat.le_of_ble_eq_true rfl) dX0_fillProduct_23 ⟨rfl, rfl, by decide, by decide⟩ ⟨show 0 + 0 ≤ 0 by omega, show 0 + 0 ≤ 0 by omega⟩) hH (fun r23 w2 n2 H locs hp hH => ?_)
      obtain ⟨hn1, hfr, ⟨hx, hy, hq2⟩⟩ := hp
      rw [hn1] at hH
      obtain ⟨kx, px, hx1, hx2⟩ := hx
      obtain ⟨ky, py, hy1, hy2⟩ := hy
      replace hq := (hfr (q) (by omega)).trans hq
      replace hm := (hfr (m) (by omega)).trans hm
      replace hF : ∀ b, b ≠ q ∧ b ≠ m ∧ (b < t ∨ t + 4 ≤ b) ∧ b ≠ x ∧ b ≠ x + 3 ∧ b ≠ y ∧ b ≠ y + 3 → w2 b = w b := fun b hb => (hfr b (by omega)).trans (hF b hb)
      refine lv_if_ne (tgt := 31) S.1 S.2.1 dX0_fillProduct_26 (by decide) (fun c26 => ?_) (fun c26 => ?_)
      · skip
        rcases hq2 with ⟨_, hd, tq, ht, htq⟩ | ⟨e, _⟩
        rotate_left
        · exact absurd e c26
        refine lv_aload_n S.1 S.2.1 dX0_fillProduct_31 rfl (lv_at hl 2 rfl) ?_
        refine gfX0_49 S hK hH hx1.ob dX0_fillProduct_32 ?_
        refine lv_aload_n S.1 S.2.1 dX0_fillProduct_35 rfl (lv_at hl 3 rfl) ?_
        refine gfX0_49 S hK hH hy1.ob dX0_fillProduct_36 ?_
        refine bn_gt (tgt := 52) S dX0_fillProduct_39 (by decide) (by omega) (fun c39 => ?_) (fun c39 => ?_)
        · skip
          refine lv_aload_n S.1 S.2.1 dX0_fillProduct_52 rfl (lv_at hl 0 rfl) ?_
          refine lv_aload_n S.1 S.2.1 dX0_fillProduct_53 rfl (lv_at hl 1 rfl) ?_
          refine lv_aload_n S.1 S.2.1 dX0_fillProduct_54 rfl (lv_at hl 3 rfl) ?_
          refine lv_aload_n S.1 S.2.1 dX0_fillProduct_55 rfl (lv_at hl 2 rfl) ?_
          refine ck_i (run_V (As := [.ref (t), .ref (y), .ref (x)]) (rest := []) S hK hH (kX0_merge q m t y x cy cx Y X ky kx 1 py px tq v0 v1 v2 bg mf hq hm ht hy1 hx1 oky.ok okx.ok (by omega) hmq hmy hmx hmt hqy hqx hqt hty htx) ceX0_merge mW185 hq rfl rfl hl.1 rfl (Nat.le_of_ble_eq_true rfl) dX0_fillProduct_56 ⟨rfl, rfl, by decide, by decide⟩ ⟨show 0 + 0 ≤ 0 by omega, show 0 + 0 ≤ 0 by omega⟩) hH (fun r56 w3 n3 H locs hp hH => ?_)
          obtain ⟨hn1, hfr, ⟨⟨bg1, hq1⟩, ⟨mf1, hm1⟩, hq3⟩⟩ := hp
          rw [hn1] at hH
          replace hx1 := hx1.kept (fun b h1 h2 => hfr b (by omega))
          replace hy1 := hy1.kept (fun b h1 h2 => hfr b (by omega))
          replace hF : ∀ b, b ≠ q ∧ b ≠ m ∧ (b < t ∨ t + 4 ≤ b) ∧ b ≠ x ∧ b ≠ x + 3 ∧ b ≠ y ∧ b ≠ y + 3 → w3 b = w b := fun b hb => (hfr b (by omega)).trans (hF b hb)
          exact rt_z S hr hlk hH dX0_fillProduct_59 (by rcases hq3 with ⟨e, _⟩ | ⟨e, _⟩ <;> simp [e]) (⟨rfl, hF, ⟨_, hq1⟩, ⟨_, hm1⟩, ⟨_, _, hx1, hx2⟩, ⟨_, _, hy1, hy2⟩, fill_b okx oky c8 c15 hd htq hq3⟩)
        · skip
          refine lv_aload_n S.1 S.2.1 dX0_fillProduct_42 rfl (lv_at hl 0 rfl) ?_
          refine lv_aload_n S.1 S.2.1 dX0_fillProduct_43 rfl (lv_at hl 1 rfl) ?_
          refine lv_aload_n S.1 S.2.1 dX0_fillProduct_44 rfl (lv_at hl 2 rfl) ?_
          refine lv_aload_n S.1 S.2.1 dX0_fillProduct_45 rfl (lv_at hl 3 rfl) ?_
          refine ck_i (run_V (As := [.ref (t), .ref (x), .ref (y)]) (rest := []) S hK hH (kX0_merge q m t x y cx cy X Y kx ky 1 px py tq v0 v1 v2 bg mf hq hm ht hx1 hy1 okx.ok oky.ok (by omega) hmq hmx hmy hmt hqx hqy hqt htx hty) ceX0_merge mW185 hq rfl rfl hl.1 rfl (Nat.le_of_ble_eq_true rfl) dX0_fillProduct_46 ⟨rfl, rfl, by decide, by decide⟩ ⟨show 0 + 0 ≤ 0 by omega, show 0 + 0 ≤ 0 by omega⟩) hH (fun r46 w4 n4 H locs hp hH => ?_)
          obtain ⟨hn1, hfr, ⟨⟨bg1, hq1⟩, ⟨mf1, hm1⟩, hq3⟩⟩ := hp
          rw [hn1] at hH
          replace hx1 := hx1.kept (fun b h1 h2 => hfr b (by omega))
          replace hy1 := hy1.kept (fun b h1 h2 => hfr b (by omega))
          replace hF : ∀ b, b ≠ q ∧ b ≠ m ∧ (b < t ∨ t + 4 ≤ b) ∧ b ≠ x ∧ b ≠ x + 3 ∧ b ≠ y ∧ b ≠ y + 3 → w4 b = w b := fun b hb => (hfr b (by omega)).trans (hF b hb)
          refine lv_goto (tgt := 59) S.1 S.2.1 dX0_fillProduct_49 (by decide) ?_
          exact rt_z S hr hlk hH dX0_fillProduct_59 (by rcases hq3 with ⟨e, _⟩ | ⟨e, _⟩ <;> simp [e]) (⟨rfl, hF, ⟨_, hq1⟩, ⟨_, hm1⟩, ⟨_, _, hx1, hx2⟩, ⟨_, _, hy1, hy2⟩, fill_a okx oky c8 c15 hd htq hq3⟩)
      · skip
        rcases hq2 with ⟨e, _⟩ | ⟨_, hfar, tq, ht⟩
        · rw [e] at c26; exact absurd c26 (by decide)
        refine lv_iconst (v := nI 0) S.1 S.2.1 dX0_fillProduct_29 (by decide) ?_
        exact rt_z S hr hlk hH dX0_fillProduct_30 (by decide) (⟨rfl, hF, ⟨_, hq⟩, ⟨_, hm⟩, ⟨_, _, hx1, hx2⟩, ⟨_, _, hy1, hy2⟩, Or.inr ⟨rfl, pmul_far c8 c15 hfar, _, _, _, ht⟩⟩)
    · skip
      have c15 : Y.length = 0 := (nI_z (by omega)).mp c15
      refine lv_iconst (v := nI 1) S.1 S.2.1 dX0_fillProduct_18 (by decide) ?_
      exact rt_z S hr hlk hH dX0_fillProduct_19 (by decide) (⟨rfl, hF, ⟨_, hq⟩, ⟨_, hm⟩, ⟨_, _, hx1, hx2⟩, ⟨_, _, hy1, hy2⟩, Or.inl ⟨rfl, [], pmul_nil (Or.inr c15), _, _, ht, fun e => absurd e (by decide)⟩⟩)

set_option maxHeartbeats 4000000 in
set_option maxRecDepth 100000 in
theorem kX0_multiplyBy {l : Launch} {G : Gx} {B : Nat} {w : Wm} {n : Nat} (q m P T Z x cx : Nat) (A X : PL) (bg : Int32) (mf : Nat → Int32) (hq : w q = some (eO 0 [.ref P, .ref T, .ref Z, .ref m, .int bg])) (hm : w m = some (eI G 60 mf)) (hP : PolyAt G w P 60 A) (hS : PolyR G w Z) (hx : PolyAt G w x cx X) (oka : okP A) (okx : okP X) (hmq : m ≠ q) (hqP : q < P ∨ P + 4 ≤ q) (hqZ : q < Z ∨ Z + 4 ≤ q) (hqx : q < x ∨ x + 4 ≤ q) (hmP : m < P ∨ P + 4 ≤ m) (hmZ : m < Z ∨ Z + 4 ≤ m) (hmx : m < x ∨ x + 4 ≤ m) (hPZ : P + 4 ≤ Z ∨ Z + 4 ≤ P) (hPx : P + 4 ≤ x ∨ x + 4 ≤ P) (hZx : Z + 4 ≤ x ∨ x + 4 ≤ Z) : Met l yX0_multiplyBy (wsM yX0_multiplyBy cX0_multiplyBy 4 (some .boolean)) ({ frames := 4, cells := 0, slots := 0, locals := 98 } : Room) (Pcx G B w n [.ref (q), .ref (x)]) (Qi G B (fun r w' n' => n' = n ∧ (∀ b, (b ≠ q ∧ b ≠ m ∧ (b < P ∨ P + 4 ≤ b) ∧ (b < Z ∨ Z + 4 ≤ b) ∧ b ≠ x ∧ b ≠ x + 3) → w' b = w b) ∧ (∃ bg', w' q = some (eO 0 [.ref Z, .ref T, .ref P, .ref m, .int bg'])) ∧ (∃ mf', w' m = some (eI G 60 mf')) ∧ PolyAt G w' x cx X ∧ PolyR G w' P ∧ ((r = 1 ∧ ∃ M, pmul A X = some M ∧ PolyAt G w' Z 60 M) ∨ (r = 0 ∧ pmul A X = none ∧ PolyR G w' Z)))) 0 0 (FA B) := by
  refine en (by decide) (Nat.le_of_ble_eq_true rfl) ?_
  intro p ev s mm ag bl mt co S hr hlk hnm hK H hH ls hl
  have hl : lv_has ls 4 [(0, .ref (q)), (1, .ref (x))] := hl
  obtain ⟨LS, kS, pS, hS1⟩ := hS
  have hF : ∀ b, b ≠ q ∧ b ≠ m ∧ (b < P ∨ P + 4 ≤ b) ∧ (b < Z ∨ Z + 4 ≤ b) ∧ b ≠ x ∧ b ≠ x + 3 → w b = w b := fun _ _ => rfl
  refine lv_aload_n S.1 S.2.1 dX0_multiplyBy_0 rfl (lv_at hl 0 rfl) ?_
  refine lv_aload_n S.1 S.2.1 dX0_multiplyBy_1 rfl (lv_at hl 0 rfl) ?_
  refine gfX0_23 S hK hH hq dX0_multiplyBy_2 ?_
  refine lv_aload_n S.1 S.2.1 dX0_multiplyBy_5 rfl (lv_at hl 0 rfl) ?_
  refine gfX0_14 S hK hH hq dX0_multiplyBy_6 ?_
  refine lv_aload_n S.1 S.2.1 dX0_multiplyBy_9 rfl (lv_at hl 1 rfl) ?_
  refine ck_i (run_V (As := [.ref (Z), .ref (P), .ref (x)]) (rest := []) S hK hH (kX0_fillProduct q m Z P x 60 cx LS A X kS pS (.ref P) (.ref T) (.ref Z) bg mf hq hm hS1 hP hx oka okx hmq hmP hmx hmZ hqP hqx hqZ (by omega) (by omega) (Or.inr (by omega))) ceX0_fillProduct mW172 hq rfl rfl hl.1 rfl (Nat.le_of_ble_eq_true rfl) dX0_multiplyBy_10 ⟨rfl, rfl, by decide, by decide⟩ ⟨show 0 + 0 ≤ 0 by omega, show 0 + 0 ≤ 0 by omega⟩) hH (fun r10 w1 n1 H locs hp hH => ?_)
  obtain ⟨hn1, hfr, ⟨⟨bg1, hq⟩, ⟨mf1, hm⟩, hP, hx, hq3⟩⟩ := hp
  rw [hn1] at hH
  replace hF : ∀ b, b ≠ q ∧ b ≠ m ∧ (b < P ∨ P + 4 ≤ b) ∧ (b < Z ∨ Z + 4 ≤ b) ∧ b ≠ x ∧ b ≠ x + 3 → w1 b = w b := fun b hb => (hfr b (by omega)).trans (hF b hb)
  refine lv_istore_n (lv' := [(2, .int (r10)), (0, .ref (q)), (1, .ref (x))]) S.1 S.2.1 dX0_multiplyBy_13 rfl hl (by decide) rfl (fun ls hl => ?_)
  refine lv_aload_n S.1 S.2.1 dX0_multiplyBy_14 rfl (lv_at hl 1 rfl) ?_
  refine gfX0_14 S hK hH hq dX0_multiplyBy_15 ?_
  refine lv_astore_n (lv' := [(3, .ref (P)), (2, .int (r10)), (0, .ref (q)), (1, .ref (x))]) S.1 S.2.1 dX0_multiplyBy_18 rfl hl (by decide) rfl (fun ls hl => ?_)
  refine lv_aload_n S.1 S.2.1 dX0_multiplyBy_19 rfl (lv_at hl 2 rfl) ?_
  refine lv_aload_n S.1 S.2.1 dX0_multiplyBy_20 rfl (lv_at hl 2 rfl) ?_
  have hq3 : (r10 = 1 ∧ ∃ M, pmul A X = some M ∧ PolyAt G w1 Z 60 M) ∨ (r10 = 0 ∧ pmul A X = none ∧ PolyR G w1 Z) := hq3
  refine gfX0_23 S hK hH hq dX0_multiplyBy_21 ?_
  refine pfX0_14 S hK hH hq dX0_multiplyBy_24 (fun w2 H locs hq fr hH => ?_)
  replace hm := (fr (m) (by omega)).trans hm
  replace hP := hP.kept (fun b h1 h2 => fr b (by omega))
  replace hx := hx.kept (fun b h1 h2 => fr b (by omega))
  replace hF : ∀ b, b ≠ q ∧ b ≠ m ∧ (b < P ∨ P + 4 ≤ b) ∧ (b < Z ∨ Z + 4 ≤ b) ∧ b ≠ x ∧ b ≠ x + 3 → w2 b = w b := fun b hb => (fr b (by omega)).trans (hF b hb)
  replace hq3 := fill_k hq3 (fun b h1 h2 => fr b (by omega))
  refine lv_aload_n S.1 S.2.1 dX0_multiplyBy_27 rfl (lv_at hl 2 rfl) ?_
  refine lv_aload_n S.1 S.2.1 dX0_multiplyBy_28 rfl (lv_at hl 0 rfl) ?_
  refine pfX0_23 S hK hH hq dX0_multiplyBy_29 (fun w3 H locs hq fr hH => ?_)
  replace hm := (fr (m) (by omega)).trans hm
  replace hP := hP.kept (fun b h1 h2 => fr b (by omega))
  replace hx := hx.kept (fun b h1 h2 => fr b (by omega))
  replace hF : ∀ b, b ≠ q ∧ b ≠ m ∧ (b < P ∨ P + 4 ≤ b) ∧ (b < Z ∨ Z + 4 ≤ b) ∧ b ≠ x ∧ b ≠ x + 3 → w3 b = w b := fun b hb => (fr b (by omega)).trans (hF b hb)
  replace hq3 := fill_k hq3 (fun b h1 h2 => fr b (by omega))
  refine lv_iload_n S.1 S.2.1 dX0_multiplyBy_32 rfl (lv_at hl 1 rfl) ?_
  exact rt_z S hr hlk hH dX0_multiplyBy_33 (by rcases hq3 with ⟨e, _⟩ | ⟨e, _⟩ <;> simp [e]) (⟨rfl, hF, ⟨_, hq⟩, ⟨_, hm⟩, hx, hP.raw, hq3⟩)

set_option maxHeartbeats 4000000 in
set_option maxRecDepth 100000 in
theorem kX0_addProduct {l : Launch} {G : Gx} {B : Nat} {w : Wm} {n : Nat} (q m P T Z : Nat) (A C : PL) (bg : Int32) (hq : w q = some (eO 0 [.ref P, .ref T, .ref Z, .ref m, .int bg])) (hT : PolyAt G w T 60 A) (hP : PolyAt G w P 60 C) (hS : PolyR G w Z) (oka : okP A) (okc : okP C) (hqP : q < P ∨ P + 4 ≤ q) (hqT : q < T ∨ T + 4 ≤ q) (hqZ : q < Z ∨ Z + 4 ≤ q) (hPZ : P + 4 ≤ Z ∨ Z + 4 ≤ P) (hTZ : T + 4 ≤ Z ∨ Z + 4 ≤ T) : Met l yX0_addProduct (wsM yX0_addProduct cX0_addProduct 3 (some .boolean)) ({ frames := 2, cells := 0, slots := 0, locals := 57 } : Room) (Pcx G B w n [.ref (q)]) (Qi G B (fun r w' n' => n' = n ∧ (∀ b, (b ≠ q ∧ (b < Z ∨ Z + 3 ≤ b)) → w' b = w b) ∧ (∃ bg', w' q = some (eO 0 [.ref P, .ref Z, .ref T, .ref m, .int bg'])) ∧ ((r = 1 ∧ ∃ M, padd 1 A C = some M ∧ PolyAt G w' Z 60 M) ∨ (r = 0 ∧ padd 1 A C = none ∧ PolyR G w' Z)))) 0 0 (FA B) := by
  refine en (by decide) (Nat.le_of_ble_eq_true rfl) ?_
  intro p ev s mm ag bl mt co S hr hlk hnm hK H hH ls hl
  have hl : lv_has ls 3 [(0, .ref (q))] := hl
  obtain ⟨LS, kS, pS, hS1⟩ := hS
  obtain ⟨kT, pT, hT1, _⟩ := hT
  obtain ⟨kP, pP, hP1, _⟩ := hP
  have hF : ∀ b, b ≠ q ∧ (b < Z ∨ Z + 3 ≤ b) → w b = w b := fun _ _ => rfl
  refine lv_aload_n S.1 S.2.1 dX0_addProduct_0 rfl (lv_at hl 0 rfl) ?_
  refine gfX0_23 S hK hH hq dX0_addProduct_1 ?_
  refine lv_aload_n S.1 S.2.1 dX0_addProduct_4 rfl (lv_at hl 0 rfl) ?_
  refine gfX0_20 S hK hH hq dX0_addProduct_5 ?_
  refine lv_aload_n S.1 S.2.1 dX0_addProduct_8 rfl (lv_at hl 0 rfl) ?_
  refine gfX0_14 S hK hH hq dX0_addProduct_9 ?_
  refine lv_iconst (v := nI 1) S.1 S.2.1 dX0_addProduct_12 (by decide) ?_
  refine ck_i (run_VN (As := [.ref (T), .ref (P), .int (iI 1)]) (rest := []) S hK hH (kX1_takeSum Z T P 60 60 LS A C 1 kS kT kP pS pT pP hS1 hT1 hP1 (by omega) (by omega) oka.ok.B okc.ok.B (Or.inl rfl)) ceX1_takeSum mN155 hS1.ob rfl rfl hl.1 rfl (Nat.le_of_ble_eq_true rfl) dX0_addProduct_13 ⟨rfl, rfl, by decide, by decide⟩ ⟨show 0 + 0 ≤ 0 by omega, show 0 + 0 ≤ 0 by omega⟩) hH (fun r13 w1 n1 H locs hp hH => ?_)
  obtain ⟨hn1, hfr, hq3⟩ := hp
  rw [hn1] at hH
  replace hq := (hfr (q) (by omega)).trans hq
  replace hF : ∀ b, b ≠ q ∧ (b < Z ∨ Z + 3 ≤ b) → w1 b = w b := fun b hb => (hfr b (by omega)).trans (hF b hb)
  replace hq3 := sum_post hq3
  refine lv_istore_n (lv' := [(1, .int (r13)), (0, .ref (q))]) S.1 S.2.1 dX0_addProduct_16 rfl hl (by decide) rfl (fun ls hl => ?_)
  refine lv_aload_n S.1 S.2.1 dX0_addProduct_17 rfl (lv_at hl 1 rfl) ?_
  refine gfX0_20 S hK hH hq dX0_addProduct_18 ?_
  refine lv_astore_n (lv' := [(2, .ref (T)), (1, .int (r13)), (0, .ref (q))]) S.1 S.2.1 dX0_addProduct_21 rfl hl (by decide) rfl (fun ls hl => ?_)
  refine lv_aload_n S.1 S.2.1 dX0_addProduct_22 rfl (lv_at hl 2 rfl) ?_
  refine lv_aload_n S.1 S.2.1 dX0_addProduct_23 rfl (lv_at hl 2 rfl) ?_
  refine gfX0_23 S hK hH hq dX0_addProduct_24 ?_
  refine pfX0_20 S hK hH hq dX0_addProduct_27 (fun w2 H locs hq fr hH => ?_)
  replace hF : ∀ b, b ≠ q ∧ (b < Z ∨ Z + 3 ≤ b) → w2 b = w b := fun b hb => (fr b (by omega)).trans (hF b hb)
  replace hq3 := fill_k hq3 (fun b h1 h2 => fr b (by omega))
  refine lv_aload_n S.1 S.2.1 dX0_addProduct_30 rfl (lv_at hl 2 rfl) ?_
  refine lv_aload_n S.1 S.2.1 dX0_addProduct_31 rfl (lv_at hl 0 rfl) ?_
  refine pfX0_23 S hK hH hq dX0_addProduct_32 (fun w3 H locs hq fr hH => ?_)
  replace hF : ∀ b, b ≠ q ∧ (b < Z ∨ Z + 3 ≤ b) → w3 b = w b := fun b hb => (fr b (by omega)).trans (hF b hb)
  replace hq3 := fill_k hq3 (fun b h1 h2 => fr b (by omega))
  refine lv_iload_n S.1 S.2.1 dX0_addProduct_35 rfl (lv_at hl 1 rfl) ?_
  exact rt_z S hr hlk hH dX0_addProduct_36 (by rcases hq3 with ⟨e, _⟩ | ⟨e, _⟩ <;> simp [e]) (⟨rfl, hF, ⟨_, hq⟩, hq3⟩)

set_option maxHeartbeats 4000000 in
set_option maxRecDepth 100000 in
theorem kX0_makeProduct {l : Launch} {G : Gx} {B : Nat} {w : Wm} {n : Nat} (q m P T Z x y cx cy : Nat) (X Y : PL) (bg : Int32) (mf : Nat → Int32) (hq : w q = some (eO 0 [.ref P, .ref T, .ref Z, .ref m, .int bg])) (hm : w m = some (eI G 60 mf)) (hP : PolyR G w P) (hx : PolyAt G w x cx X) (hy : PolyAt G w y cy Y) (okx : okP X) (oky : okP Y) (hmq : m ≠ q) (hqP : q < P ∨ P + 4 ≤ q) (hqx : q < x ∨ x + 4 ≤ q) (hqy : q < y ∨ y + 4 ≤ q) (hmP : m < P ∨ P + 4 ≤ m) (hmx : m < x ∨ x + 4 ≤ m) (hmy : m < y ∨ y + 4 ≤ m) (hPx : P + 4 ≤ x ∨ x + 4 ≤ P) (hPy : P + 4 ≤ y ∨ y + 4 ≤ P) (hxy : (x = y ∧ cx = cy ∧ X = Y) ∨ x + 4 ≤ y ∨ y + 4 ≤ x) : Met l yX0_makeProduct (wsM yX0_makeProduct cX0_makeProduct 3 (some .boolean)) ({ frames := 4, cells := 0, slots := 0, locals := 98 } : Room) (Pcx G B w n [.ref (q), .ref (x), .ref (y)]) (Qi G B (fun r w' n' => n' = n ∧ (∀ b, (b ≠ q ∧ b ≠ m ∧ (b < P ∨ P + 4 ≤ b) ∧ b ≠ x ∧ b ≠ x + 3 ∧ b ≠ y ∧ b ≠ y + 3) → w' b = w b) ∧ (∃ bg', w' q = some (eO 0 [.ref P, .ref T, .ref Z, .ref m, .int bg'])) ∧ (∃ mf', w' m = some (eI G 60 mf')) ∧ PolyAt G w' x cx X ∧ PolyAt G w' y cy Y ∧ ((r = 1 ∧ ∃ M, pmul X Y = some M ∧ PolyAt G w' P 60 M) ∨ (r = 0 ∧ pmul X Y = none ∧ PolyR G w' P)))) 0 0 (FA B) := by
  refine en (by decide) (Nat.le_of_ble_eq_true rfl) ?_
  intro p ev s mm ag bl mt co S hr hlk hnm hK H hH ls hl
  have hl : lv_has ls 3 [(0, .ref (q)), (1, .ref (x)), (2, .ref (y))] := hl
  obtain ⟨LP, kP, pP, hP1⟩ := hP
  have hF : ∀ b, b ≠ q ∧ b ≠ m ∧ (b < P ∨ P + 4 ≤ b) ∧ b ≠ x ∧ b ≠ x + 3 ∧ b ≠ y ∧ b ≠ y + 3 → w b = w b := fun _ _ => rfl
  refine lv_aload_n S.1 S.2.1 dX0_makeProduct_0 rfl (lv_at hl 0 rfl) ?_
  refine lv_aload_n S.1 S.2.1 dX0_makeProduct_1 rfl (lv_at hl 0 rfl) ?_
  refine gfX0_14 S hK hH hq dX0_makeProduct_2 ?_
  refine lv_aload_n S.1 S.2.1 dX0_makeProduct_5 rfl (lv_at hl 1 rfl) ?_
  refine lv_aload_n S.1 S.2.1 dX0_makeProduct_6 rfl (lv_at hl 2 rfl) ?_
  refine ck_i (run_V (As := [.ref (P), .ref (x), .ref (y)]) (rest := []) S hK hH (kX0_fillProduct q m P x y cx cy LP X Y kP pP (.ref P) (.ref T) (.ref Z) bg mf hq hm hP1 hx hy okx oky hmq hmx hmy hmP hqx hqy hqP hPx hPy hxy) ceX0_fillProduct mW172 hq rfl rfl hl.1 rfl (Nat.le_of_ble_eq_true rfl) dX0_makeProduct_7 ⟨rfl, rfl, by decide, by decide⟩ ⟨show 0 + 0 ≤ 0 by omega, show 0 + 0 ≤ 0 by omega⟩) hH (fun r7 w1 n1 H locs hp hH => ?_)
  obtain ⟨hn1, hfr, ⟨⟨bg1, hq⟩, ⟨mf1, hm⟩, hx, hy, hq3⟩⟩ := hp
  rw [hn1] at hH
  replace hF : ∀ b, b ≠ q ∧ b ≠ m ∧ (b < P ∨ P + 4 ≤ b) ∧ b ≠ x ∧ b ≠ x + 3 ∧ b ≠ y ∧ b ≠ y + 3 → w1 b = w b := fun b hb => (hfr b (by omega)).trans (hF b hb)
  exact rt_z S hr hlk hH dX0_makeProduct_10 (by rcases hq3 with ⟨e, _⟩ | ⟨e, _⟩ <;> simp [e]) (⟨rfl, hF, ⟨_, hq⟩, ⟨_, hm⟩, hx, hy, hq3⟩)

set_option maxHeartbeats 4000000 in
set_option maxRecDepth 100000 in
theorem kX0_makeTotal {l : Launch} {G : Gx} {B : Nat} {w : Wm} {n : Nat} (q T x y cx cy : Nat) (X Y : PL) (sg : Int) (v0 v2 v3 v4 : Value) (hq : w q = some (eO 0 [v0, .ref T, v2, v3, v4])) (hT : PolyR G w T) (hx : PolyAt G w x cx X) (hy : PolyAt G w y cy Y) (okx : okP X) (oky : okP Y) (hsg : sg = 1 ∨ sg = -1) (hTx : T + 4 ≤ x ∨ x + 4 ≤ T) (hTy : T + 4 ≤ y ∨ y + 4 ≤ T) : Met l yX0_makeTotal (wsM yX0_makeTotal cX0_makeTotal 4 (some .boolean)) ({ frames := 2, cells := 0, slots := 0, locals := 57 } : Room) (Pcx G B w n [.ref (q), .ref (x), .ref (y), .int (iI sg)]) (Qi G B (fun r w' n' => n' = n ∧ (∀ b, (b < T ∨ T + 3 ≤ b) → w' b = w b) ∧ ((r = 1 ∧ ∃ M, padd sg X Y = some M ∧ PolyAt G w' T 60 M) ∨ (r = 0 ∧ padd sg X Y = none ∧ PolyR G w' T)))) 0 0 (FA B) := by
  refine en (by decide) (Nat.le_of_ble_eq_true rfl) ?_
  intro p ev s mm ag bl mt co S hr hlk hnm hK H hH ls hl
  have hl : lv_has ls 4 [(0, .ref (q)), (1, .ref (x)), (2, .ref (y)), (3, .int (iI sg))] := hl
  obtain ⟨LT, kT, pT, hT1⟩ := hT
  obtain ⟨kx, px, hx1, _⟩ := hx
  obtain ⟨ky, py, hy1, _⟩ := hy
  have hF : ∀ b, b < T ∨ T + 3 ≤ b → w b = w b := fun _ _ => rfl
  refine lv_aload_n S.1 S.2.1 dX0_makeTotal_0 rfl (lv_at hl 0 rfl) ?_
  refine gfX0_20 S hK hH hq dX0_makeTotal_1 ?_
  refine lv_aload_n S.1 S.2.1 dX0_makeTotal_4 rfl (lv_at hl 1 rfl) ?_
  refine lv_aload_n S.1 S.2.1 dX0_makeTotal_5 rfl (lv_at hl 2 rfl) ?_
  refine lv_iload_n S.1 S.2.1 dX0_makeTotal_6 rfl (lv_at hl 3 rfl) ?_
  refine ck_i (run_VN (As := [.ref (x), .ref (y), .int (iI sg)]) (rest := []) S hK hH (kX1_takeSum T x y cx cy LT X Y sg kT kx ky pT px py hT1 hx1 hy1 hTx hTy okx.ok.B oky.ok.B hsg) ceX1_takeSum mN155 hT1.ob rfl rfl hl.1 rfl (Nat.le_of_ble_eq_true rfl) dX0_makeTotal_7 ⟨rfl, rfl, by decide, by decide⟩ ⟨show 0 + 0 ≤ 0 by omega, show 0 + 0 ≤ 0 by omega⟩) hH (fun r7 w1 n1 H locs hp hH => ?_)
  obtain ⟨hn1, hfr, hq3⟩ := hp
  rw [hn1] at hH
  replace hF : ∀ b, b < T ∨ T + 3 ≤ b → w1 b = w b := fun b hb => (hfr b (by omega)).trans (hF b hb)
  replace hq3 := sum_post hq3
  exact rt_z S hr hlk hH dX0_makeTotal_10 (by rcases hq3 with ⟨e, _⟩ | ⟨e, _⟩ <;> simp [e]) (⟨rfl, hF, hq3⟩)

set_option maxHeartbeats 4000000 in
set_option maxRecDepth 100000 in
theorem kX0_beginTotal {l : Launch} {G : Gx} {B : Nat} {w : Wm} {n : Nat} (q T : Nat) (v0 v2 v3 v4 : Value) (hq : w q = some (eO 0 [v0, .ref T, v2, v3, v4])) (hT : PolyR G w T) : Met l yX0_beginTotal (wsM yX0_beginTotal cX0_beginTotal 1 none) ({ frames := 1, cells := 0, slots := 0, locals := 20 } : Room) (Pcx G B w n [.ref (q)]) (Qv G B (fun w' n' => n' = n ∧ (∀ b, b ≠ T → w' b = w b) ∧ PolyAt G w' T 60 [])) 0 0 (FA B) := by
  refine en (by decide) (Nat.le_of_ble_eq_true rfl) ?_
  intro p ev s mm ag bl mt co S hr hlk hnm hK H hH ls hl
  have hl : lv_has ls 1 [(0, .ref (q))] := hl
  obtain ⟨LT, kT, pT, hT1⟩ := hT
  have hF : ∀ b, b ≠ T → w b = w b := fun _ _ => rfl
  refine lv_aload_n S.1 S.2.1 dX0_beginTotal_0 rfl (lv_at hl 0 rfl) ?_
  refine gfX0_20 S hK hH hq dX0_beginTotal_1 ?_
  refine ck_v (run_VN (As := []) (rest := []) S hK hH (kX1_clear T 60 LT kT pT hT1) ceX1_clear mN110 hT1.ob rfl rfl hl.1 rfl (Nat.le_of_ble_eq_true rfl) dX0_beginTotal_4 ⟨rfl, rfl, by decide, by decide⟩ ⟨show 0 + 0 ≤ 0 by omega, show 0 + 0 ≤ 0 by omega⟩) hH (fun w1 n1 H locs hp hH => ?_)
  obtain ⟨hn1, hfr, hT2⟩ := hp
  rw [hn1] at hH
  replace hF : ∀ b, b ≠ T → w1 b = w b := fun b hb => (hfr b (by omega)).trans (hF b hb)
  exact rt_v S hr hlk hH dX0_beginTotal_7 (⟨rfl, hF, _, _, hT2, fun e => absurd e (by decide)⟩)

set_option maxHeartbeats 4000000 in
set_option maxRecDepth 100000 in
theorem kX0_beginProduct {l : Launch} {G : Gx} {B : Nat} {w : Wm} {n : Nat} (q P c : Nat) (k : Int) (v1 v2 v3 v4 : Value) (hq : w q = some (eO 0 [.ref P, v1, v2, v3, v4])) (hP : PolyR G w P) (hk : -99999999 ≤ k ∧ k ≤ 99999999) (hqP : q < P ∨ P + 4 ≤ q) : Met l yX0_beginProduct (wsM yX0_beginProduct cX0_beginProduct 4 none) ({ frames := 1, cells := 0, slots := 0, locals := 24 } : Room) (Pcx G B w n [.ref (q), .long (lN c), .int (iI k)]) (Qv G B (fun w' n' => n' = n ∧ (∀ b, (b < P ∨ P + 3 ≤ b) → w' b = w b) ∧ PolyAt G w' P 60 (one c k))) 0 0 (FA B) := by
  refine en (by decide) (Nat.le_of_ble_eq_true rfl) ?_
  intro p ev s mm ag bl mt co S hr hlk hnm hK H hH ls hl
  have hl : lv_has ls 4 [(0, .ref (q)), (1, .long (lN c)), (3, .int (iI k))] := hl
  obtain ⟨LP, kP, pP, hP1⟩ := hP
  have hF : ∀ b, b < P ∨ P + 3 ≤ b → w b = w b := fun _ _ => rfl
  refine lv_aload_n S.1 S.2.1 dX0_beginProduct_0 rfl (lv_at hl 0 rfl) ?_
  refine gfX0_14 S hK hH hq dX0_beginProduct_1 ?_
  refine ck_v (run_VN (As := []) (rest := []) S hK hH (kX1_clear P 60 LP kP pP hP1) ceX1_clear mN110 hP1.ob rfl rfl hl.1 rfl (Nat.le_of_ble_eq_true rfl) dX0_beginProduct_4 ⟨rfl, rfl, by decide, by decide⟩ ⟨show 0 + 0 ≤ 0 by omega, show 0 + 0 ≤ 0 by omega⟩) hH (fun w1 n1 H locs hp hH => ?_)
  obtain ⟨hn1, hfr, hP2⟩ := hp
  rw [hn1] at hH
  replace hq := (hfr (q) (by omega)).trans hq
  replace hF : ∀ b, b < P ∨ P + 3 ≤ b → w1 b = w b := fun b hb => (hfr b (by omega)).trans (hF b hb)
  refine lv_aload_n S.1 S.2.1 dX0_beginProduct_7 rfl (lv_at hl 0 rfl) ?_
  refine gfX0_14 S hK hH hq dX0_beginProduct_8 ?_
  refine lv_lload_n S.1 S.2.1 dX0_beginProduct_11 rfl (lv_at hl 1 rfl) ?_
  refine lv_iload_n S.1 S.2.1 dX0_beginProduct_12 rfl (lv_at hl 2 rfl) ?_
  refine lv_i2l (v := lI (k)) S.1 S.2.1 dX0_beginProduct_13 (iI_l (by omega)) ?_
  refine ck_i (run_VN (As := [.long (lN c), .long (lI (k))]) (rest := []) S hK hH (kX1_append P 60 c [] k 0 pP hP2 (by omega)) ceX1_append mN114 hP2.ob rfl rfl hl.1 rfl (Nat.le_of_ble_eq_true rfl) dX0_beginProduct_14 ⟨rfl, rfl, by decide, by decide⟩ ⟨show 0 + 0 ≤ 0 by omega, show 0 + 0 ≤ 0 by omega⟩) hH (fun r14 w2 n2 H locs hp hH => ?_)
  obtain ⟨hn1, hfr, hq3⟩ := hp
  rw [hn1] at hH
  replace hq := (hfr (q) (by omega)).trans hq
  replace hF : ∀ b, b < P ∨ P + 3 ≤ b → w2 b = w b := fun b hb => (hfr b (by omega)).trans (hF b hb)
  have hP3 := one_post hk hq3
  refine lv_pop S.1 S.2.1 dX0_beginProduct_17 rfl ?_
  exact rt_v S hr hlk hH dX0_beginProduct_18 (⟨rfl, hF, hP3⟩)

set_option maxHeartbeats 4000000 in
set_option maxRecDepth 100000 in
theorem kX0_init {l : Launch} {G : Gx} {B : Nat} {w : Wm} {n : Nat} (q : Nat) (h0 : w q = some (eO 0 [.null, .null, .null, .null, .int 0])) (hn : n = q + 1) : Met l yX0_init (wsM yX0_init cX0_init 1 none) ({ frames := 2, cells := 13, slots := 483, locals := 43 } : Room) (Pcx G B w n [.ref (q)]) (Qv G B (fun w' n' => n' = q + 14 ∧ (∀ b, (b < q ∨ q + 14 ≤ b) → w' b = w b) ∧ (∃ bg', w' q = some (eO 0 [.ref (q + 1), .ref (q + 5), .ref (q + 9), .ref (q + 13), .int bg'])) ∧ (∃ mf', w' (q + 13) = some (eI G 60 mf')) ∧ PolyAt G w' (q + 1) 60 [] ∧ PolyAt G w' (q + 5) 60 [] ∧ PolyAt G w' (q + 9) 60 [])) 13 483 (FA B) := by
  refine en (by decide) (Nat.le_of_ble_eq_true rfl) ?_
  intro p ev s mm ag bl mt co S hr hlk hnm hK H hH ls hl
  have hl : lv_has ls 1 [(0, .ref (q))] := hl
  subst hn
  have hF : ∀ b, b < q ∨ q + 14 ≤ b → w b = w b := fun _ _ => rfl
  refine lv_aload_n S.1 S.2.1 dX0_init_0 rfl (lv_at hl 0 rfl) ?_
  refine W.objInit S.1 S.2.1 S.2.2.2.1 (S.2.2.2.2 _ mW54) (S.2.2.2.2 _ mW12) (S.2.2.2.2 _ mW13) rfl (hl.1.trans S.2.2.1.symm) rfl dX0_init_1 (by decide) (Nat.le_of_ble_eq_true rfl) ?_
  refine W.eq (g2 := F0 mm 4 ls []) rfl ?_
  refine lv_aload_n S.1 S.2.1 dX0_init_4 rfl (lv_at hl 0 rfl) ?_
  refine nwo (ci := 1) (fs := [.null, .null, .int (0), .null, .int (0)]) S hK hH rfl fwX1 tyX1 tyX1_ok mW55 mW15 mW2 (fun j hj => by rcases (show j = 0 ∨ j = 1 ∨ j = 2 ∨ j = 3 ∨ j = 4 by omega) with rfl | rfl | rfl | rfl | rfl <;> rfl) (show 0 + 1 ≤ 13 by omega) (show 0 + 5 ≤ 483 by omega) dX0_init_5 (fun w1 H oa fr hH => ?_)
  replace h0 := (fr (q) (by omega)).trans h0
  replace hF : ∀ b, b < q ∨ q + 14 ≤ b → w1 b = w b := fun b hb => (fr b (by omega)).trans (hF b hb)
  refine lv_dup S.1 S.2.1 dX0_init_8 rfl ?_
  refine lv_bipush (v := nI 60) S.1 S.2.1 dX0_init_9 (by decide) ?_
  refine ck_v (run_IN (As := [.int (nI 60)]) (rest := [.ref (q + 1), .ref (q)]) S hK hH (kX1_init (q + 1) 60 oa (by omega) rfl) ceX1_init mN56 rfl hl.1 rfl (Nat.le_of_ble_eq_true rfl) dX0_init_11 ⟨rfl, rfl, by decide, by decide⟩ ⟨show (0 + 1) + 3 ≤ 13 by omega, show (0 + 5) + 136 ≤ 483 by omega⟩) hH (fun w3 n3 H locs hp hH => ?_)
  obtain ⟨hn1, hfr, hoa⟩ := hp
  rw [hn1] at hH
  replace h0 := (hfr (q) (by omega)).trans h0
  replace hF : ∀ b, b < q ∨ q + 14 ≤ b → w3 b = w b := fun b hb => (hfr b (by omega)).trans (hF b hb)
  refine pfX0_14 S hK hH h0 dX0_init_14 (fun w4 H locs h0 fr hH => ?_)
  replace hoa := hoa.kept (fun b h1 h2 => fr b (by omega))
  replace hF : ∀ b, b < q ∨ q + 14 ≤ b → w4 b = w b := fun b hb => (fr b (by omega)).trans (hF b hb)
  refine lv_aload_n S.1 S.2.1 dX0_init_17 rfl (lv_at hl 0 rfl) ?_
  refine nwo (ci := 1) (fs := [.null, .null, .int (0), .null, .int (0)]) S hK hH rfl fwX1 tyX1 tyX1_ok mW55 mW15 mW2 (fun j hj => by rcases (show j = 0 ∨ j = 1 ∨ j = 2 ∨ j = 3 ∨ j = 4 by omega) with rfl | rfl | rfl | rfl | rfl <;> rfl) (show ((0 + 1) + 3) + 1 ≤ 13 by omega) (show ((0 + 5) + 136) + 5 ≤ 483 by omega) dX0_init_18 (fun w5 H ob fr hH => ?_)
  replace h0 := (fr (q) (by omega)).trans h0
  replace hoa := hoa.kept (fun b h1 h2 => fr b (by omega))
  replace hF : ∀ b, b < q ∨ q + 14 ≤ b → w5 b = w b := fun b hb => (fr b (by omega)).trans (hF b hb)
  refine lv_dup S.1 S.2.1 dX0_init_21 rfl ?_
  refine lv_bipush (v := nI 60) S.1 S.2.1 dX0_init_22 (by decide) ?_
  refine ck_v (run_IN (As := [.int (nI 60)]) (rest := [.ref (q + 5), .ref (q)]) S hK hH (kX1_init (q + 5) 60 ob (by omega) rfl) ceX1_init mN56 rfl hl.1 rfl (Nat.le_of_ble_eq_true rfl) dX0_init_24 ⟨rfl, rfl, by decide, by decide⟩ ⟨show (((0 + 1) + 3) + 1) + 3 ≤ 13 by omega, show (((0 + 5) + 136) + 5) + 136 ≤ 483 by omega⟩) hH (fun w7 n7 H locs hp hH => ?_)
  obtain ⟨hn1, hfr, hob⟩ := hp
  rw [hn1] at hH
  replace h0 := (hfr (q) (by omega)).trans h0
  replace hoa := hoa.kept (fun b h1 h2 => hfr b (by omega))
  replace hF : ∀ b, b < q ∨ q + 14 ≤ b → w7 b = w b := fun b hb => (hfr b (by omega)).trans (hF b hb)
  refine pfX0_20 S hK hH h0 dX0_init_27 (fun w8 H locs h0 fr hH => ?_)
  replace hoa := hoa.kept (fun b h1 h2 => fr b (by omega))
  replace hob := hob.kept (fun b h1 h2 => fr b (by omega))
  replace hF : ∀ b, b < q ∨ q + 14 ≤ b → w8 b = w b := fun b hb => (fr b (by omega)).trans (hF b hb)
  refine lv_aload_n S.1 S.2.1 dX0_init_30 rfl (lv_at hl 0 rfl) ?_
  refine nwo (ci := 1) (fs := [.null, .null, .int (0), .null, .int (0)]) S hK hH rfl fwX1 tyX1 tyX1_ok mW55 mW15 mW2 (fun j hj => by rcases (show j = 0 ∨ j = 1 ∨ j = 2 ∨ j = 3 ∨ j = 4 by omega) with rfl | rfl | rfl | rfl | rfl <;> rfl) (show ((((0 + 1) + 3) + 1) + 3) + 1 ≤ 13 by omega) (show ((((0 + 5) + 136) + 5) + 136) + 5 ≤ 483 by omega) dX0_init_31 (fun w9 H oc fr hH => ?_)
  replace h0 := (fr (q) (by omega)).trans h0
  replace hoa := hoa.kept (fun b h1 h2 => fr b (by omega))
  replace hob := hob.kept (fun b h1 h2 => fr b (by omega))
  replace hF : ∀ b, b < q ∨ q + 14 ≤ b → w9 b = w b := fun b hb => (fr b (by omega)).trans (hF b hb)
  refine lv_dup S.1 S.2.1 dX0_init_34 rfl ?_
  refine lv_bipush (v := nI 60) S.1 S.2.1 dX0_init_35 (by decide) ?_
  refine ck_v (run_IN (As := [.int (nI 60)]) (rest := [.ref (q + 9), .ref (q)]) S hK hH (kX1_init (q + 9) 60 oc (by omega) rfl) ceX1_init mN56 rfl hl.1 rfl (Nat.le_of_ble_eq_true rfl) dX0_init_37 ⟨rfl, rfl, by decide, by decide⟩ ⟨show (((((0 + 1) + 3) + 1) + 3) + 1) + 3 ≤ 13 by omega, show (((((0 + 5) + 136) + 5) + 136) + 5) + 136 ≤ 483 by omega⟩) hH (fun w11 n11 H locs hp hH => ?_)
  obtain ⟨hn1, hfr, hoc⟩ := hp
  rw [hn1] at hH
  replace h0 := (hfr (q) (by omega)).trans h0
  replace hoa := hoa.kept (fun b h1 h2 => hfr b (by omega))
  replace hob := hob.kept (fun b h1 h2 => hfr b (by omega))
  replace hF : ∀ b, b < q ∨ q + 14 ≤ b → w11 b = w b := fun b hb => (hfr b (by omega)).trans (hF b hb)
  refine pfX0_23 S hK hH h0 dX0_init_40 (fun w12 H locs h0 fr hH => ?_)
  replace hoa := hoa.kept (fun b h1 h2 => fr b (by omega))
  replace hob := hob.kept (fun b h1 h2 => fr b (by omega))
  replace hoc := hoc.kept (fun b h1 h2 => fr b (by omega))
  replace hF : ∀ b, b < q ∨ q + 14 ≤ b → w12 b = w b := fun b hb => (fr b (by omega)).trans (hF b hb)
  refine lv_aload_n S.1 S.2.1 dX0_init_43 rfl (lv_at hl 0 rfl) ?_
  refine lv_bipush (v := nI 60) S.1 S.2.1 dX0_init_44 (by decide) ?_
  refine nwa_i S hK hH mW47 (by omega) (show ((((((0 + 1) + 3) + 1) + 3) + 1) + 3) + 1 ≤ 13 by omega) (show ((((((0 + 5) + 136) + 5) + 136) + 5) + 136) + (60) ≤ 483 by omega) dX0_init_46 (fun w13 H hm fr hH => ?_)
  replace h0 := (fr (q) (by omega)).trans h0
  replace hoa := hoa.kept (fun b h1 h2 => fr b (by omega))
  replace hob := hob.kept (fun b h1 h2 => fr b (by omega))
  replace hoc := hoc.kept (fun b h1 h2 => fr b (by omega))
  replace hF : ∀ b, b < q ∨ q + 14 ≤ b → w13 b = w b := fun b hb => (fr b (by omega)).trans (hF b hb)
  refine pfX0_26 S hK hH h0 hnm dX0_init_48 (fun w15 H locs h0 fr hH => ?_)
  replace hm := (fr (q + 13) (by omega)).trans hm
  replace hoa := hoa.kept (fun b h1 h2 => fr b (by omega))
  replace hob := hob.kept (fun b h1 h2 => fr b (by omega))
  replace hoc := hoc.kept (fun b h1 h2 => fr b (by omega))
  replace hF : ∀ b, b < q ∨ q + 14 ≤ b → w15 b = w b := fun b hb => (fr b (by omega)).trans (hF b hb)
  refine lv_aload_n S.1 S.2.1 dX0_init_51 rfl (lv_at hl 0 rfl) ?_
  refine lv_iconst (v := nI 0) S.1 S.2.1 dX0_init_52 (by decide) ?_
  refine pfX0_30 S hK hH h0 dX0_init_53 (fun w16 H locs h0 fr hH => ?_)
  replace hm := (fr (q + 13) (by omega)).trans hm
  replace hoa := hoa.kept (fun b h1 h2 => fr b (by omega))
  replace hob := hob.kept (fun b h1 h2 => fr b (by omega))
  replace hoc := hoc.kept (fun b h1 h2 => fr b (by omega))
  replace hF : ∀ b, b < q ∨ q + 14 ≤ b → w16 b = w b := fun b hb => (fr b (by omega)).trans (hF b hb)
  refine W.widen (k := 13) (n := 483) (by omega) (by omega) ?_
  exact rt_v S hr hlk hH dX0_init_56 (⟨rfl, hF, ⟨_, h0⟩, ⟨_, hm⟩, ⟨_, _, hoa, fun e => absurd e (by decide)⟩, ⟨_, _, hob, fun e => absurd e (by decide)⟩, ⟨_, _, hoc, fun e => absurd e (by decide)⟩⟩)
end
section
/-! ===== what the calls ask for, over lists of terms ===== -/
/-- registers, hypotheses, how many, the parts' numbers, their factors, how many parts -/
abbrev St : Type := (Nat → PL) × (Nat → PL) × Nat × (Nat → Nat) × (Nat → Int32) × Nat
def ri (x : Int32) : Option Nat := if 0 ≤ x.toInt ∧ x.toInt < 16 then some x.toInt.toNat else none
theorem ri_some {j : Nat} (h : j < 16) : ri (nI j) = some j := by
  rw [ri, nI_toInt (by omega), if_pos (by omega)]; rfl
theorem ri_none {x : Int32} (h : ¬ ∃ j, j < 16 ∧ x = nI j) : ri x = none := by
  rw [ri, if_neg]
  intro q
  refine h ⟨x.toInt.toNat, by omega, ?_⟩
  rw [← Int32.toInt_inj, nI_toInt (by omega)]
  omega
def sConst (σ : St) (x v : Int32) : Int32 × St := match ri x with
  | none => (-1, σ)
  | some j => if 99999999 < v.toInt ∨ v.toInt < -99999999 then (-2, σ) else (nI (one 0 v.toInt).length, (va_up σ.1 j (one 0 v.toInt), σ.2))
def scode (t : Nat) : Nat := 10000000000000000 + 10 ^ (15 - t)
def sSym (σ : St) (x v : Int32) : Int32 × St := match ri x, ri v with
  | some j, some t => (nI 1, (va_up σ.1 j (one (scode t) 1), σ.2))
  | _, _ => (-1, σ)
def sComb (sg : Int) (σ : St) (x a b : Int32) : Int32 × St := match ri x, ri a, ri b with
  | some j, some p, some q => (match padd sg (σ.1 p) (σ.1 q) with
    | none => (-2, σ)
    | some M => (nI M.length, (va_up σ.1 j M, σ.2)))
  | _, _, _ => (-1, σ)
def sTimes (σ : St) (x a b : Int32) : Int32 × St := match ri x, ri a, ri b with
  | some j, some p, some q => (match pmul (σ.1 p) (σ.1 q) with
    | none => (-2, σ)
    | some M => (nI M.length, (va_up σ.1 j M, σ.2)))
  | _, _, _ => (-1, σ)
/-- a poly times another, k times -/
def pwr (F : PL) : Nat → PL → Option PL
  | 0, A => some A
  | k + 1, A => (pmul A F).bind (pwr F k)
/-- the last m symbols of a term worked -/
def wt (R : Nat → PL) (c : Nat) : Nat → PL → Option PL
  | 0, A => some A
  | m + 1, A => (pwr (R (15 - m)) (dig c (15 - m)) A).bind (wt R c m)
def pterm (R : Nat → PL) (t : Nat × Int) : Option PL := wt R t.1 16 (one 0 t.2)
def pput (R : Nat → PL) : PL → PL → Option PL
  | [], acc => some acc
  | t :: L, acc => (pterm R t).bind (fun A => (padd 1 acc A).bind (pput R L))
def sPut (σ : St) (x a : Int32) : Int32 × St := match ri x, ri a with
  | some j, some p => (match pput σ.1 (σ.1 p) [] with
    | none => (-2, σ)
    | some M => (nI M.length, (va_up σ.1 j M, σ.2)))
  | _, _ => (-1, σ)
def sSize (σ : St) (x : Int32) : Int32 := match ri x with
  | none => -1
  | some j => nI (σ.1 j).length
def sTerm (σ : St) (x k wh : Int32) : Int32 := match ri x with
  | none => 0
  | some j => if 0 ≤ k.toInt ∧ k.toInt < (σ.1 j).length then (if wh = -1 then iI (cf (σ.1 j) k.toInt.toNat) else match ri wh with
    | none => 0
    | some t => nI (dig (cd (σ.1 j) k.toInt.toNat) t)) else 0
def sSame (σ : St) (x y : Int32) : Int32 := match ri x, ri y with
  | some p, some q => if σ.1 p = σ.1 q then 1 else 0
  | _, _ => -1
def sValue (σ : St) (x v : Int32) : Int64 := match ri x with
  | none => 0
  | some j => hvL v.toInt64 (σ.1 j) 0 (hv0 (σ.1 j))
def sHyp (σ : St) (x : Int32) : Int32 × St := match ri x with
  | none => (-1, σ)
  | some j => if 40 ≤ σ.2.2.1 then (-1, σ) else (nI σ.2.2.1, (σ.1, va_up σ.2.1 σ.2.2.1 (σ.1 j), σ.2.2.1 + 1, σ.2.2.2))
def sKeep (σ : St) (x : Int32) : Int32 × St := if x.toInt < 0 ∨ (σ.2.2.1 : Int) < x.toInt then (-1, σ) else (x, (σ.1, σ.2.1, x.toInt.toNat, σ.2.2.2))
def sPart (σ : St) (x a b c d : Int32) : Int32 × St :=
  if x.toInt < 0 ∨ 99999999 < x.toInt ∨ 20 ≤ σ.2.2.2.2.2 ∨ a < -1 ∨ b < -1 ∨ c < -1 ∨ d < -1 then (-1, σ)
  else (nI (σ.2.2.2.2.2 + 1), (σ.1, σ.2.1, σ.2.2.1, va_up σ.2.2.2.1 σ.2.2.2.2.2 x.toInt.toNat, upd (upd (upd (upd σ.2.2.2.2.1 (4 * σ.2.2.2.2.2) a) (4 * σ.2.2.2.2.2 + 1) b) (4 * σ.2.2.2.2.2 + 2) c) (4 * σ.2.2.2.2.2 + 3) d, σ.2.2.2.2.2 + 1))
/-- factors f .. of a part worked, k of them -/
def wpi (Hh : Nat → PL) (hc : Nat) (pf : Nat → Int32) (f : Nat) : Nat → PL → Option PL
  | 0, A => some A
  | k + 1, A => (if 0 ≤ (pf f).toInt ∧ (pf f).toInt < hc then pmul A (Hh (pf f).toInt.toNat) else some A).bind (wpi Hh hc pf (f + 1) k)
def psum (Hh : Nat → PL) (hc : Nat) (pn : Nat → Nat) (pf : Nat → Int32) (p : Nat) : Nat → PL → Option PL
  | 0, acc => some acc
  | k + 1, acc => (wpi Hh hc pf (4 * p) 4 (one 0 (pn p))).bind (fun A => (padd 1 acc A).bind (psum Hh hc pn pf (p + 1) k))
def thereF (hc : Nat) (pf : Nat → Int32) (k : Nat) : Bool := (List.range k).all (fun f => decide ((pf f).toInt < hc))
def showA (σ : St) (L : PL) (k : Int) : Int32 := if thereF σ.2.2.1 σ.2.2.2.2.1 (4 * σ.2.2.2.2.2) = true then (match pmul (one 0 k) L with
  | none => -2
  | some W0 => match psum σ.2.1 σ.2.2.1 σ.2.2.2.1 σ.2.2.2.2.1 0 σ.2.2.2.2.2 [] with
    | none => -2
    | some A => if A = W0 then 1 else 0) else 0
def sShow (σ : St) (x k : Int32) : Int32 × St := match ri x with
  | none => (-1, σ)
  | some j => if k.toInt < 1 ∨ 99999999 < k.toInt then (-1, σ) else (showA σ (σ.1 j) k.toInt, (σ.1, σ.2.1, σ.2.2.1, σ.2.2.2.1, σ.2.2.2.2.1, 0))
def sCount (σ : St) (x : Int32) : Int32 := if x = 0 then nI σ.2.2.1 else if x = 1 then nI σ.2.2.2.2.2 else -1
/-! ===== the desk ===== -/
def isP (D n a : Nat) : Prop := a = D + 1 ∨ (D + 36 ≤ a ∧ (a - D) % 4 = 0 ∧ a + 4 ≤ n)
def PoolOK (G : Gx) (w : Wm) (n D : Nat) (pool : Nat → Nat × PL) : Prop := ∀ a, isP D n a → PolyAt G w a (pool a).1 (pool a).2 ∧ okP (pool a).2
theorem PoolOK.kept {G : Gx} {w w' : Wm} {n D : Nat} {pool : Nat → Nat × PL} (h : PoolOK G w n D pool) (hf : ∀ b, D + 1 ≤ b → (b < D + 5 ∨ D + 36 ≤ b) → w' b = w b) : PoolOK G w' n D pool := fun a ha => by
  refine ⟨(h a ha).1.kept (fun b h1 h2 => hf b ?_ ?_), (h a ha).2⟩ <;> (unfold isP at ha; omega)
/-- a new Poly is of the pool -/
theorem PoolOK.push {G : Gx} {w w' : Wm} {n D : Nat} {pool : Nat → Nat × PL} {M : PL} (h : PoolOK G w n D pool) (hn : D + 36 ≤ n ∧ (n - D) % 4 = 0) (hM : PolyAt G w' n M.length M) (ok : okP M) (hf : ∀ b, D + 1 ≤ b → (b < D + 5 ∨ D + 36 ≤ b) → b < n → w' b = w b) : PoolOK G w' (n + 4) D (va_up pool n (M.length, M)) := fun a ha => by
  by_cases q : a = n
  · subst q
    rw [va_up_self]
    exact ⟨hM, ok⟩
  · rw [va_up_ne _ _ q]
    have ha' : isP D n a := by
      unfold isP at ha ⊢
      omega
    refine ⟨(h a ha').1.kept (fun b h1 h2 => hf b ?_ ?_ ?_), (h a ha').2⟩ <;> (unfold isP at ha'; omega)
/-- one Poly of the pool was looked at: its tops may be known now -/
theorem PoolOK.after {G : Gx} {w w' : Wm} {n D x : Nat} {pool : Nat → Nat × PL} (h : PoolOK G w n D pool) (hx : isP D n x) (h1 : PolyAt G w' x (pool x).1 (pool x).2) (hf : ∀ b, D + 1 ≤ b → (b < D + 5 ∨ D + 36 ≤ b) → b ≠ x → b ≠ x + 3 → w' b = w b) : PoolOK G w' n D pool := fun a ha => by
  by_cases q : a = x
  · subst q
    exact ⟨h1, (h a ha).2⟩
  · refine ⟨(h a ha).1.kept (fun b g1 g2 => hf b ?_ ?_ ?_ ?_), (h a ha).2⟩ <;> (unfold isP at ha hx; omega)
theorem isP_apart {D n x y : Nat} {pool : Nat → Nat × PL} (hx : isP D n x) (hy : isP D n y) : (x = y ∧ (pool x).1 = (pool y).1 ∧ (pool x).2 = (pool y).2) ∨ x + 4 ≤ y ∨ y + 4 ≤ x := by
  by_cases q : x = y
  · subst q
    exact Or.inl ⟨rfl, rfl, rfl⟩
  · refine Or.inr ?_
    unfold isP at hx hy
    omega
theorem isP_in {D n x : Nat} (hx : isP D n x) : (x = D + 1 ∨ D + 36 ≤ x) := by
  unfold isP at hx; omega
theorem isP_lt {D n x : Nat} (hn : D + 36 ≤ n) (hx : isP D n x) : x + 4 ≤ n := by
  unfold isP at hx; omega
theorem isP_up {D n m x : Nat} (hn : n ≤ m) (hx : isP D n x) : isP D m x := by
  unfold isP at hx ⊢; omega
def BR (D P T Z : Nat) : Prop := (D + 10 ≤ P ∧ P + 4 ≤ D + 22) ∧ (D + 10 ≤ T ∧ T + 4 ≤ D + 22) ∧ (D + 10 ≤ Z ∧ Z + 4 ≤ D + 22) ∧ (P + 4 ≤ T ∨ T + 4 ≤ P) ∧ (P + 4 ≤ Z ∨ Z + 4 ≤ P) ∧ (T + 4 ≤ Z ∨ Z + 4 ≤ T)
def DeskC (G : Gx) (w : Wm) (n D : Nat) (rg hy : Nat → Option Nat) (hc : Nat) (nums facs : Nat → Int32) (pcn P T Z : Nat) (pool : Nat → Nat × PL) : Prop :=
  w D = some (eO 2 [.ref (D + 5), .ref (D + 6), .int (nI hc), .ref (D + 7), .ref (D + 8), .int (nI pcn), .ref (D + 9)]) ∧ w (D + 5) = some (eQ G 16 rg) ∧ w (D + 6) = some (eQ G 40 hy) ∧ w (D + 7) = some (eI G 20 nums) ∧ w (D + 8) = some (eI G 80 facs) ∧ (∃ bg, w (D + 9) = some (eO 0 [.ref P, .ref T, .ref Z, .ref (D + 22), .int bg])) ∧ (∃ mf, w (D + 22) = some (eI G 60 mf)) ∧ PolyR G w P ∧ PolyR G w T ∧ PolyR G w Z ∧ PoolOK G w n D pool
def DeskI (D n : Nat) (rg hy : Nat → Option Nat) (nums facs : Nat → Int32) (P T Z : Nat) (pool : Nat → Nat × PL) (σ : St) : Prop :=
  BR D P T Z ∧ (D + 36 ≤ n ∧ (n - D) % 4 = 0) ∧ σ.2.2.1 ≤ 40 ∧ σ.2.2.2.2.2 ≤ 20 ∧ (∀ i, i < 16 → ∃ a, rg i = some a ∧ isP D n a ∧ (pool a).2 = σ.1 i) ∧ (∀ i, i < σ.2.2.1 → ∃ a, hy i = some a ∧ isP D n a ∧ (pool a).2 = σ.2.1 i) ∧ (∀ i, i < σ.2.2.2.2.2 → nums i = nI (σ.2.2.2.1 i) ∧ σ.2.2.2.1 i ≤ 99999999) ∧ ∀ i, i < 4 * σ.2.2.2.2.2 → facs i = σ.2.2.2.2.1 i
def DeskS (G : Gx) (w : Wm) (n D : Nat) (σ : St) : Prop := ∃ (rg hy : Nat → Option Nat) (nums facs : Nat → Int32) (P T Z : Nat) (pool : Nat → Nat × PL), DeskC G w n D rg hy σ.2.2.1 nums facs σ.2.2.2.2.2 P T Z pool ∧ DeskI D n rg hy nums facs P T Z pool σ
theorem one_ok {c : Nat} {k : Int} (hc : vC c) (hk : -99999999 ≤ k ∧ k ≤ 99999999) : okP (one c k) := by
  unfold one
  split
  · exact okP_nil
  · rename_i h
    refine ⟨srt_cons.mpr ⟨fun s hs => (by cases hs), srt_nil⟩, by show 1 ≤ 60; decide, fun t ht => ?_⟩
    rw [List.mem_singleton.mp ht]
    exact ⟨hc, h, hk⟩
theorem vC_0 : vC 0 := by unfold vC; decide +kernel
theorem vC_s : ∀ t, t < 16 → vC (scode t) := by unfold vC; decide +kernel
end
section
/-- a fact that the arithmetic need not see -/
def Hid (p : Prop) : Prop := p
theorem store_I {D n r : Nat} {rg hy : Nat → Option Nat} {nums facs : Nat → Int32} {P T Z : Nat} {pool : Nat → Nat × PL} {σ : St} {M : PL} (hi : DeskI D n rg hy nums facs P T Z pool σ) (hr : r < 16) : DeskI D (n + 4) (va_up rg r (some n)) hy nums facs P T Z (va_up pool n (M.length, M)) (va_up σ.1 r M, σ.2) := by
  obtain ⟨hbr, hj, hhc, hpc, hrg, hhy, hnu, hfa⟩ := hi
  have old : ∀ a, isP D n a → isP D (n + 4) a ∧ va_up pool n (M.length, M) a = pool a := fun a ha => by
    have := isP_lt (by omega) ha
    exact ⟨isP_up (by omega) ha, va_up_ne _ _ (by omega)⟩
  refine ⟨hbr, by omega, hhc, hpc, fun i hi => ?_, fun i hi => ?_, hnu, hfa⟩
  · by_cases q : i = r
    · subst q
      exact ⟨n, va_up_self _ _ _, Or.inr ⟨hj.1, hj.2, Nat.le_refl _⟩, by rw [va_up_self]; exact (va_up_self _ _ _).symm⟩
    · obtain ⟨a, h1, h2, h3⟩ := hrg i hi
      exact ⟨a, by rw [va_up_ne _ _ q]; exact h1, (old a h2).1, by rw [(old a h2).2, h3]; exact (va_up_ne _ _ q).symm⟩
  · obtain ⟨a, h1, h2, h3⟩ := hhy i hi
    exact ⟨a, h1, (old a h2).1, by rw [(old a h2).2, h3]⟩
section SC
variable {sg : Int} {σ : St} {x a b : Int32} {j p q : Nat}
theorem sComb_bad (h : ri x = none ∨ ri a = none ∨ ri b = none) : sComb sg σ x a b = (-1, σ) := by
  unfold sComb
  rcases h with h | h | h <;> rw [h] <;> cases ri x <;> cases ri a <;> cases ri b <;> rfl
theorem sComb_none (hj : j < 16) (hp : p < 16) (hq : q < 16) (e : padd sg (σ.1 p) (σ.1 q) = none) : sComb sg σ (nI j) (nI p) (nI q) = (-2, σ) := by
  rw [sComb, ri_some hj, ri_some hp, ri_some hq]; simp only [e]
theorem sComb_some {M : PL} (hj : j < 16) (hp : p < 16) (hq : q < 16) (e : padd sg (σ.1 p) (σ.1 q) = some M) : sComb sg σ (nI j) (nI p) (nI q) = (nI M.length, (va_up σ.1 j M, σ.2)) := by
  rw [sComb, ri_some hj, ri_some hp, ri_some hq]; simp only [e]
end SC
theorem sym_mul {i t : Nat} (h : t + 1 ≤ i) : lN (10 ^ (i - (t + 1))) * lI 10 = lN (10 ^ (i + 1 - (t + 1))) := by
  rw [lI10, lN_mul, ← Nat.pow_succ, show (i - (t + 1)).succ = i + 1 - (t + 1) by omega]
theorem sym_add {i t : Nat} (ht : t < 16) (h : i = 16) : lI 10000000000000000 + lN (10 ^ (i - (t + 1))) = lN (scode t) := by
  rw [lI16, lN_add, scode, h, show 16 - (t + 1) = 15 - t by omega]
theorem br_sw {D P T Z : Nat} (h : BR D P T Z) : BR D Z T P := by
  unfold BR at h ⊢
  omega
theorem cA_in {L : PL} {k : Nat} {r : Int32} (h : (∃ j, j < L.length ∧ nI k = nI j ∧ r = iI (cf L j)) ∨ ((¬ ∃ j, j < L.length ∧ nI k = nI j) ∧ r = 0)) (hk : k < L.length) (hl : L.length < 2 ^ 31) : iI (cf L k) = r := by
  rcases h with ⟨j, h1, h2, h3⟩ | ⟨h1, _⟩
  · rw [(nI_eq (by omega) (by omega)).mp h2, h3]
  · exact absurd ⟨k, hk, rfl⟩ h1
theorem pA_in {L : PL} {k t : Nat} {r : Int32} (h : (∃ j u, j < L.length ∧ u < 16 ∧ nI k = nI j ∧ nI t = nI u ∧ r = nI (dig (cd L j) u)) ∨ ((¬ ∃ j u, j < L.length ∧ u < 16 ∧ nI k = nI j ∧ nI t = nI u) ∧ r = 0)) (hk : k < L.length) (ht : t < 16) (hl : L.length < 2 ^ 31) : nI (dig (cd L k) t) = r := by
  rcases h with ⟨j, u, h1, h2, h3, h4, h5⟩ | ⟨h1, _⟩
  · rw [(nI_eq (by omega) (by omega)).mp h3, (nI_eq (by omega) (by omega)).mp h4, h5]
  · exact absurd ⟨k, t, hk, ht, rfl, rfl⟩ h1
section WT
variable {R : Nat → PL} {c s i : Nat} {A M : PL}
theorem wt_beg (h : s < 16) : wt R c (16 - s) A = (pwr (R s) (dig c s - 0) A).bind (wt R c (15 - s)) := by
  rw [show 16 - s = (15 - s) + 1 by omega, wt, show 15 - (15 - s) = s by omega]; rfl
theorem wt_end (h : s < 16) (hi : dig c s ≤ i) : (pwr (R s) (dig c s - i) A).bind (wt R c (15 - s)) = wt R c (16 - (s + 1)) A := by
  rw [show dig c s - i = 0 by omega, show 16 - (s + 1) = 15 - s by omega]; rfl
theorem pwr_some {F : PL} {p : Nat} {f : PL → Option PL} (h : i < p) (e : pmul A F = some M) : (pwr F (p - i) A).bind f = (pwr F (p - (i + 1)) M).bind f := by
  rw [show p - i = (p - (i + 1)) + 1 by omega, pwr, e]; rfl
theorem pwr_none {F : PL} {p : Nat} {f : PL → Option PL} (h : i < p) (e : pmul A F = none) : (pwr F (p - i) A).bind f = none := by
  rw [show p - i = (p - (i + 1)) + 1 by omega, pwr, e]; rfl
end WT

set_option maxHeartbeats 4000000 in
set_option maxRecDepth 100000 in
theorem kX2_store {l : Launch} {G : Gx} {B : Nat} {w : Wm} {n : Nat} (D r v : Nat) (M : PL) (rg hy : Nat → Option Nat) (nums facs : Nat → Int32) (P T Z : Nat) (pool : Nat → Nat × PL) (σ : St) (hd : DeskC G w n D rg hy σ.2.2.1 nums facs σ.2.2.2.2.2 P T Z pool) (hi : DeskI D n rg hy nums facs P T Z pool σ) (hv : PolyAt G w v 60 M) (hvv : v = P ∨ v = T) (ok : okP M) (hr0 : r < 16) : Met l yX2_store (wsM yX2_store cX2_store 3 (some .int)) ({ frames := 3, cells := 4, slots := 141, locals := 65 } : Room) (Pcx G B w n [.ref (D), .int (nI r), .ref (v)]) (Qi G B (fun x w' n' => n' = n + 4 ∧ (∀ b, (D + 23 ≤ b ∧ b < D + 36) → w' b = w b) ∧ x = nI M.length ∧ DeskS G w' (n + 4) D (va_up σ.1 r M, σ.2))) 4 141 (FA B) := by
  refine en (by decide) (Nat.le_of_ble_eq_true rfl) ?_
  intro p ev s mm ag bl mt co S hr hlk hnm hK H hH ls hl
  have hl : lv_has ls 3 [(0, .ref (D)), (1, .int (nI r)), (2, .ref (v))] := hl
  obtain ⟨d0, d5, d6, d7, d8, ⟨bg, d9⟩, ⟨mf, dm⟩, hP, hT, hZ, hpl⟩ := hd
  obtain ⟨hbr, hj, hhc, hpc, hrg, hhy, hnu, hfa⟩ := id hi
  unfold BR at hbr
  obtain ⟨kv, pv, hv1, _⟩ := hv
  have hF : ∀ b, D + 23 ≤ b ∧ b < D + 36 → w b = w b := fun _ _ => rfl
  refine lv_aload_n S.1 S.2.1 dX2_store_0 rfl (lv_at hl 0 rfl) ?_
  refine gfX2_14 S hK hH d0 dX2_store_1 ?_
  refine lv_iload_n S.1 S.2.1 dX2_store_4 rfl (lv_at hl 1 rfl) ?_
  refine lv_aload_n S.1 S.2.1 dX2_store_5 rfl (lv_at hl 2 rfl) ?_
  refine ck_r (run_VN (As := []) (rest := [.int (nI r), .ref (D + 5)]) S hK hH (kX1_copied v 60 M kv pv hv1 ok.ok (by omega)) ceX1_copied mN124 hv1.ob rfl rfl hl.1 rfl (Nat.le_of_ble_eq_true rfl) dX2_store_6 ⟨rfl, rfl, by decide, by decide⟩ ⟨show 0 + 4 ≤ 4 by omega, show 0 + 141 ≤ 141 by omega⟩) hH (fun r6 w1 n1 H locs hp hH => ?_)
  obtain ⟨hr1, hn1, hfr, hnew⟩ := hp
  rw [hn1] at hH
  have hr1 := hr1.symm
  subst hr1
  have hpl := hpl.push hj (M := M) ⟨0, _, hnew, fun e => absurd e (by decide)⟩ ok (fun b h1 h2 h3 => hfr b (by omega))
  replace d0 := (hfr (D) (by omega)).trans d0
  replace d5 := (hfr (D + 5) (by omega)).trans d5
  replace d6 := (hfr (D + 6) (by omega)).trans d6
  replace d7 := (hfr (D + 7) (by omega)).trans d7
  replace d8 := (hfr (D + 8) (by omega)).trans d8
  replace d9 := (hfr (D + 9) (by omega)).trans d9
  replace dm := (hfr (D + 22) (by omega)).trans dm
  replace hP := hP.kept (fun b h1 h2 => hfr b (by omega))
  replace hT := hT.kept (fun b h1 h2 => hfr b (by omega))
  replace hZ := hZ.kept (fun b h1 h2 => hfr b (by omega))
  replace hv1 := hv1.kept (fun b h1 h2 => hfr b (by omega))
  replace hF : ∀ b, D + 23 ≤ b ∧ b < D + 36 → w1 b = w b := fun b hb => (hfr b (by omega)).trans (hF b hb)
  refine ast_a S hK hH d5 hnew.ob (by omega) (by omega) dX2_store_9 (fun w2 H locs d5 fr hH => ?_)
  replace d0 := (fr (D) (by omega)).trans d0
  replace d6 := (fr (D + 6) (by omega)).trans d6
  replace d7 := (fr (D + 7) (by omega)).trans d7
  replace d8 := (fr (D + 8) (by omega)).trans d8
  replace d9 := (fr (D + 9) (by omega)).trans d9
  replace dm := (fr (D + 22) (by omega)).trans dm
  replace hP := hP.kept (fun b h1 h2 => fr b (by omega))
  replace hT := hT.kept (fun b h1 h2 => fr b (by omega))
  replace hZ := hZ.kept (fun b h1 h2 => fr b (by omega))
  replace hpl := hpl.kept (fun b h1 h2 => fr b (by omega))
  replace hv1 := hv1.kept (fun b h1 h2 => fr b (by omega))
  replace hnew := hnew.kept (fun b h1 h2 => fr b (by omega))
  replace hF : ∀ b, D + 23 ≤ b ∧ b < D + 36 → w2 b = w b := fun b hb => (fr b (by omega)).trans (hF b hb)
  refine lv_aload_n S.1 S.2.1 dX2_store_10 rfl (lv_at hl 2 rfl) ?_
  refine gfX2_78 S hK hH hv1.ob dX2_store_11 ?_
  refine W.widen (k := 4) (n := 141) (by omega) (by omega) ?_
  exact rt_i S hr hlk hH dX2_store_14 (⟨rfl, hF, rfl, _, _, _, _, P, T, Z, _, ⟨d0, d5, d6, d7, d8, ⟨_, d9⟩, ⟨_, dm⟩, hP, hT, hZ, hpl⟩, store_I hi hr0⟩)

set_option maxHeartbeats 4000000 in
set_option maxRecDepth 100000 in
theorem kX2_combine {l : Launch} {G : Gx} {B : Nat} {w : Wm} {n : Nat} (D : Nat) (x a b : Int32) (sg : Int) (σ : St) (hs : DeskS G w n D σ) (hsg : sg = 1 ∨ sg = -1) : Met l yX2_combine (wsM yX2_combine cX2_combine 5 (some .int)) ({ frames := 4, cells := 4, slots := 141, locals := 87 } : Room) (Pcx G B w n [.ref (D), .int (x), .int (a), .int (b), .int (iI sg)]) (Qi G B (fun r w' n' => (n' = n ∨ n' = n + 4) ∧ (∀ b, (D + 23 ≤ b ∧ b < D + 36) → w' b = w b) ∧ r = (sComb sg σ x a b).1 ∧ DeskS G w' n' D (sComb sg σ x a b).2)) 4 141 (FA B) := by
  refine en (by decide) (Nat.le_of_ble_eq_true rfl) ?_
  intro p ev s mm ag bl mt co S hr hlk hnm hK H hH ls hl
  have hl : lv_has ls 5 [(0, .ref (D)), (1, .int (x)), (2, .int (a)), (3, .int (b)), (4, .int (iI sg))] := hl
  obtain ⟨rg, hy, nums, facs, P, T, Z, pool, hd, hi⟩ := hs
  obtain ⟨d0, d5, d6, d7, d8, ⟨bg, d9⟩, ⟨mf, dm⟩, hP, hT, hZ, hpl⟩ := hd
  obtain ⟨hbr, hj, hhc, hpc, hrg, hhy, hnu, hfa⟩ := id hi
  unfold BR at hbr
  have hF : ∀ b, D + 23 ≤ b ∧ b < D + 36 → w b = w b := fun _ _ => rfl
  refine lv_iload_n S.1 S.2.1 dX2_combine_0 rfl (lv_at hl 1 rfl) ?_
  refine ck_ip (run_S (As := [.int (x)]) (rest := []) S hK hH (kX2_isRegister x) ceX2_isRegister mW101 rfl hl.1 rfl (Nat.le_of_ble_eq_true rfl) dX2_combine_1 ⟨rfl, rfl, by decide, by decide⟩ ⟨show 0 + 0 ≤ 4 by omega, show 0 + 0 ≤ 141 by omega⟩) hH (fun r1 H locs hp hH => ?_)
  have hq1 : Hid _ := hp
  clear hp
  refine lv_if_eq (tgt := 21) S.1 S.2.1 dX2_combine_4 (by decide) (fun c4 => ?_) (fun c4 => ?_)
  · skip
    rcases hq1 with ⟨e, _⟩ | ⟨_, hb⟩
    · rw [e] at c4; exact absurd c4 (by decide)
    refine lv_iconst (v := (-1)) S.1 S.2.1 dX2_combine_21 (by decide) ?_
    refine W.widen (k := 4) (n := 141) (by omega) (by omega) ?_
    exact rt_i S hr hlk hH dX2_combine_22 (⟨Or.inl rfl, hF, by rw [sComb_bad (Or.inl (ri_none hb))], by rw [sComb_bad (Or.inl (ri_none hb))]; exact ⟨_, _, _, _, P, T, Z, _, ⟨d0, d5, d6, d7, d8, ⟨_, d9⟩, ⟨_, dm⟩, hP, hT, hZ, hpl⟩, hi⟩⟩)
  · skip
    rcases hq1 with ⟨_, j, hj0, rfl⟩ | ⟨e, _⟩
    rotate_left
    · exact absurd e c4
    refine lv_iload_n S.1 S.2.1 dX2_combine_7 rfl (lv_at hl 2 rfl) ?_
    refine ck_ip (run_S (As := [.int (a)]) (rest := []) S hK hH (kX2_isRegister a) ceX2_isRegister mW101 rfl hl.1 rfl (Nat.le_of_ble_eq_true rfl) dX2_combine_8 ⟨rfl, rfl, by decide, by decide⟩ ⟨show 0 + 0 ≤ 4 by omega, show 0 + 0 ≤ 141 by omega⟩) hH (fun r8 H locs hp hH => ?_)
    have hq2 : Hid _ := hp
    clear hp
    refine lv_if_eq (tgt := 21) S.1 S.2.1 dX2_combine_11 (by decide) (fun c11 => ?_) (fun c11 => ?_)
    · skip
      rcases hq2 with ⟨e, _⟩ | ⟨_, hb⟩
      · rw [e] at c11; exact absurd c11 (by decide)
      refine lv_iconst (v := (-1)) S.1 S.2.1 dX2_combine_21 (by decide) ?_
      refine W.widen (k := 4) (n := 141) (by omega) (by omega) ?_
      exact rt_i S hr hlk hH dX2_combine_22 (⟨Or.inl rfl, hF, by rw [sComb_bad (Or.inr (Or.inl (ri_none hb)))], by rw [sComb_bad (Or.inr (Or.inl (ri_none hb)))]; exact ⟨_, _, _, _, P, T, Z, _, ⟨d0, d5, d6, d7, d8, ⟨_, d9⟩, ⟨_, dm⟩, hP, hT, hZ, hpl⟩, hi⟩⟩)
    · skip
      rcases hq2 with ⟨_, p1, hp0, rfl⟩ | ⟨e, _⟩
      rotate_left
      · exact absurd e c11
      refine lv_iload_n S.1 S.2.1 dX2_combine_14 rfl (lv_at hl 3 rfl) ?_
      refine ck_ip (run_S (As := [.int (b)]) (rest := []) S hK hH (kX2_isRegister b) ceX2_isRegister mW101 rfl hl.1 rfl (Nat.le_of_ble_eq_true rfl) dX2_combine_15 ⟨rfl, rfl, by decide, by decide⟩ ⟨show 0 + 0 ≤ 4 by omega, show 0 + 0 ≤ 141 by omega⟩) hH (fun r15 H locs hp hH => ?_)
      have hq3 : Hid _ := hp
      clear hp
      refine lv_if_ne (tgt := 23) S.1 S.2.1 dX2_combine_18 (by decide) (fun c18 => ?_) (fun c18 => ?_)
      · skip
        rcases hq3 with ⟨_, q1, hq0, rfl⟩ | ⟨e, _⟩
        rotate_left
        · exact absurd e c18
        obtain ⟨xa, xae, xai, xav⟩ := hrg p1 hp0
        have xain := isP_in xai
        have xal := isP_lt (by omega) xai
        obtain ⟨ya, yae, yai, yav⟩ := hrg q1 hq0
        have yain := isP_in yai
        have yal := isP_lt (by omega) yai
        refine lv_aload_n S.1 S.2.1 dX2_combine_23 rfl (lv_at hl 0 rfl) ?_
        refine gfX2_38 S hK hH d0 dX2_combine_24 ?_
        refine lv_aload_n S.1 S.2.1 dX2_combine_27 rfl (lv_at hl 0 rfl) ?_
        refine gfX2_14 S hK hH d0 dX2_combine_28 ?_
        refine lv_iload_n S.1 S.2.1 dX2_combine_31 rfl (lv_at hl 2 rfl) ?_
        refine ald_a S hK hH d5 (by omega) (by omega) (xae) dX2_combine_32 ?_
        refine lv_aload_n S.1 S.2.1 dX2_combine_33 rfl (lv_at hl 0 rfl) ?_
        refine gfX2_14 S hK hH d0 dX2_combine_34 ?_
        refine lv_iload_n S.1 S.2.1 dX2_combine_37 rfl (lv_at hl 3 rfl) ?_
        refine ald_a S hK hH d5 (by omega) (by omega) (yae) dX2_combine_38 ?_
        refine lv_iload S.1 S.2.1 dX2_combine_39 (lv_at hl 4 rfl) ?_
        refine ck_i (run_VN (As := [.ref (xa), .ref (ya), .int (iI sg)]) (rest := []) S hK hH (kX0_makeTotal (D + 9) T xa ya (pool xa).1 (pool ya).1 (pool xa).2 (pool ya).2 sg (.ref P) (.ref Z) (.ref (D + 22)) (.int bg) d9 hT (hpl xa xai).1 (hpl ya yai).1 (hpl xa xai).2 (hpl ya yai).2 hsg (by omega) (by omega)) ceX0_makeTotal mN151 d9 rfl rfl hl.1 rfl (Nat.le_of_ble_eq_true rfl) dX2_combine_41 ⟨rfl, rfl, by decide, by decide⟩ ⟨show 0 + 0 ≤ 4 by omega, show 0 + 0 ≤ 141 by omega⟩) hH (fun r41 w4 n4 H locs hp hH => ?_)
        obtain ⟨hn1, hfr, hq4⟩ := hp
        rw [hn1] at hH
        replace hq4 : Hid _ := hq4
        replace d0 := (hfr (D) (by omega)).trans d0
        replace d5 := (hfr (D + 5) (by omega)).trans d5
        replace d6 := (hfr (D + 6) (by omega)).trans d6
        replace d7 := (hfr (D + 7) (by omega)).trans d7
        replace d8 := (hfr (D + 8) (by omega)).trans d8
        replace d9 := (hfr (D + 9) (by omega)).trans d9
        replace dm := (hfr (D + 22) (by omega)).trans dm
        replace hP := hP.kept (fun b h1 h2 => hfr b (by omega))
        replace hZ := hZ.kept (fun b h1 h2 => hfr b (by omega))
        replace hpl := hpl.kept (fun b h1 h2 => hfr b (by omega))
        replace hF : ∀ b, D + 23 ≤ b ∧ b < D + 36 → w4 b = w b := fun b hb => (hfr b (by omega)).trans (hF b hb)
        refine lv_if_ne (tgt := 50) S.1 S.2.1 dX2_combine_44 (by decide) (fun c44 => ?_) (fun c44 => ?_)
        · skip
          rcases hq4 with ⟨_, M, e1, hTM⟩ | ⟨e, _⟩
          rotate_left
          · exact absurd e c44
          have hT := hTM.raw
          refine lv_aload_n S.1 S.2.1 dX2_combine_50 rfl (lv_at hl 0 rfl) ?_
          refine lv_iload_n S.1 S.2.1 dX2_combine_51 rfl (lv_at hl 1 rfl) ?_
          refine lv_aload_n S.1 S.2.1 dX2_combine_52 rfl (lv_at hl 0 rfl) ?_
          refine gfX2_38 S hK hH d0 dX2_combine_53 ?_
          refine gfX2_89 S hK hH d9 dX2_combine_56 ?_
          refine ck_i (run_V (As := [.int (nI j), .ref (T)]) (rest := []) S hK hH (kX2_store D j T M rg hy nums facs P T Z pool σ ⟨d0, d5, d6, d7, d8, ⟨_, d9⟩, ⟨_, dm⟩, hP, hT, hZ, hpl⟩ hi hTM (Or.inr rfl) (padd_ok (hpl xa xai).2 (hpl ya yai).2 e1) hj0) ceX2_store mW120 d0 rfl rfl hl.1 rfl (Nat.le_of_ble_eq_true rfl) dX2_combine_59 ⟨rfl, rfl, by decide, by decide⟩ ⟨show 0 + 4 ≤ 4 by omega, show 0 + 141 ≤ 141 by omega⟩) hH (fun r59 w5 n5 H locs hp hH => ?_)
          obtain ⟨hn1, hfr, hr1, hs1⟩ := hp
          rw [hn1] at hH
          replace hF : ∀ b, D + 23 ≤ b ∧ b < D + 36 → w5 b = w b := fun b hb => (hfr b (by omega)).trans (hF b hb)
          refine W.widen (k := 4) (n := 141) (by omega) (by omega) ?_
          rw [xav, yav] at e1
          exact rt_i S hr hlk hH dX2_combine_62 (⟨Or.inr rfl, hF, by rw [sComb_some hj0 hp0 hq0 e1]; exact hr1, by rw [sComb_some hj0 hp0 hq0 e1]; exact hs1⟩)
        · skip
          rcases hq4 with ⟨e, _⟩ | ⟨_, e1, hT⟩
          · rw [e] at c44; exact absurd c44 (by decide)
          refine lv_bipush (v := (-2)) S.1 S.2.1 dX2_combine_47 (by decide) ?_
          refine W.widen (k := 4) (n := 141) (by omega) (by omega) ?_
          rw [xav, yav] at e1
          exact rt_i S hr hlk hH dX2_combine_49 (⟨Or.inl rfl, hF, by rw [sComb_none hj0 hp0 hq0 e1], by rw [sComb_none hj0 hp0 hq0 e1]; exact ⟨_, _, _, _, P, T, Z, _, ⟨d0, d5, d6, d7, d8, ⟨_, d9⟩, ⟨_, dm⟩, hP, hT, hZ, hpl⟩, hi⟩⟩)
      · skip
        rcases hq3 with ⟨e, _⟩ | ⟨_, hb⟩
        · rw [e] at c18; exact absurd c18 (by decide)
        refine lv_iconst (v := (-1)) S.1 S.2.1 dX2_combine_21 (by decide) ?_
        refine W.widen (k := 4) (n := 141) (by omega) (by omega) ?_
        exact rt_i S hr hlk hH dX2_combine_22 (⟨Or.inl rfl, hF, by rw [sComb_bad (Or.inr (Or.inr (ri_none hb)))], by rw [sComb_bad (Or.inr (Or.inr (ri_none hb)))]; exact ⟨_, _, _, _, P, T, Z, _, ⟨d0, d5, d6, d7, d8, ⟨_, d9⟩, ⟨_, dm⟩, hP, hT, hZ, hpl⟩, hi⟩⟩)

set_option maxHeartbeats 4000000 in
set_option maxRecDepth 100000 in
theorem kX2_symbolCode {l : Launch} {G : Gx} {B : Nat} {w : Wm} {n : Nat} (t : Nat) (ht : t < 16) : Met l yX2_symbolCode (wsM yX2_symbolCode cX2_symbolCode 4 (some .long)) ({ frames := 0, cells := 0, slots := 0, locals := 0 } : Room) (Pcx G B w n [.int (nI t)]) (Ql G B (fun r w' n' => w' = w ∧ n' = n ∧ r = lN (scode t))) 0 0 (FA B) := by
  refine en (by decide) (Nat.le_of_ble_eq_true rfl) ?_
  intro p ev s mm ag bl mt co S hr hlk hnm hK H hH ls hl
  have hl : lv_has ls 4 [(0, .int (nI t))] := hl
  refine lv_lconst (v := lI 1) S.1 S.2.1 dX2_symbolCode_0 (by decide) ?_
  refine tpl (x' := lN (10 ^ (t + 1 - (t + 1)))) (by rw [Nat.sub_self]; rfl) ?_
  refine lv_lstore_n (lv' := [(1, .long (lN (10 ^ (t + 1 - (t + 1))))), (0, .int (nI t))]) S.1 S.2.1 dX2_symbolCode_1 rfl hl (by decide) rfl (fun ls hl => ?_)
  refine lv_iload_n S.1 S.2.1 dX2_symbolCode_2 rfl (lv_at hl 1 rfl) ?_
  refine lv_iconst (v := nI 1) S.1 S.2.1 dX2_symbolCode_3 (by decide) ?_
  refine lv_iadd S.1 S.2.1 dX2_symbolCode_4 ?_
  refine tpi (x' := nI (t + 1)) (nI_add _ _) ?_
  refine lv_istore_n (lv' := [(3, .int (nI (t + 1))), (1, .long (lN (10 ^ (t + 1 - (t + 1))))), (0, .int (nI t))]) S.1 S.2.1 dX2_symbolCode_5 rfl hl (by decide) rfl (fun ls hl => ?_)
  refine wlp (P := fun k_ ls H' locs' => ∃ (i : Nat), lv_has ls 4 [(0, .int (nI t)), (1, .long (lN (10 ^ (i - (t + 1))))), (3, .int (nI i))] ∧ (H = H' ∧ [] = locs') ∧ (t + 1 ≤ i) ∧ (i ≤ 16) ∧ k_ = 16 - i) ?_ (k0 := 16 - (t + 1)) ⟨t + 1, lv_sub hl [2, 1, 0] rfl, ⟨rfl, rfl⟩, by omega, by omega, rfl⟩
  intro k6 ls H' locs' hP ih6
  obtain ⟨i, hl, ⟨rfl, rfl⟩, h1, h2, hk6⟩ := hP
  refine lv_iload_n S.1 S.2.1 dX2_symbolCode_6 rfl (lv_at hl 2 rfl) ?_
  refine lv_bipush (v := nI 16) S.1 S.2.1 dX2_symbolCode_7 (by decide) ?_
  refine bn_ge (tgt := 24) S dX2_symbolCode_9 (by decide) (by omega) (fun c9 => ?_) (fun c9 => ?_)
  · skip
    refine lv_ldc2 S.1 S.2.1 S.2.2.2.1 (S.2.2.2.2 _ mW142) dX2_symbolCode_24 ?_
    refine tpl (x' := lI 10000000000000000) (by decide) ?_
    refine lv_lload_n S.1 S.2.1 dX2_symbolCode_27 rfl (lv_at hl 1 rfl) ?_
    refine lv_ladd S.1 S.2.1 dX2_symbolCode_28 ?_
    refine tpl (x' := lN (scode t)) (sym_add ht (by omega)) ?_
    exact rt_l S hr hlk hH dX2_symbolCode_29 (⟨rfl, rfl, rfl⟩)
  · skip
    refine lv_lload_n S.1 S.2.1 dX2_symbolCode_12 rfl (lv_at hl 1 rfl) ?_
    refine lv_ldc2 S.1 S.2.1 S.2.2.2.1 (S.2.2.2.2 _ mW141) dX2_symbolCode_13 ?_
    refine tpl (x' := lI 10) (by decide) ?_
    refine lv_lmul S.1 S.2.1 dX2_symbolCode_16 ?_
    refine tpl (x' := lN (10 ^ (i + 1 - (t + 1)))) (sym_mul h1) ?_
    refine lv_lstore_n (lv' := [(1, .long (lN (10 ^ (i + 1 - (t + 1))))), (0, .int (nI t)), (3, .int (nI i))]) S.1 S.2.1 dX2_symbolCode_17 rfl hl (by decide) rfl (fun ls hl => ?_)
    refine lv_iinc (v := nI (i + 1)) (lv' := [(3, .int (nI (i + 1))), (1, .long (lN (10 ^ (i + 1 - (t + 1))))), (0, .int (nI t))]) S.1 S.2.1 dX2_symbolCode_18 hl (k := 2) rfl (nI_inc _ 1) (by decide) rfl (fun ls hl => ?_)
    refine lv_goto (tgt := 6) S.1 S.2.1 dX2_symbolCode_21 (by decide) ?_
    exact ih6 _ _ _ _ (by omega) ⟨i + 1, lv_sub hl [2, 1, 0] rfl, ⟨rfl, rfl⟩, by omega, by omega, rfl⟩

set_option maxHeartbeats 4000000 in
set_option maxRecDepth 100000 in
theorem kX2_workTerm {l : Launch} {G : Gx} {B : Nat} {w : Wm} {n : Nat} (D xa k : Nat) (rg hy : Nat → Option Nat) (nums facs : Nat → Int32) (P T Z : Nat) (pool : Nat → Nat × PL) (σ : St) (hd : DeskC G w n D rg hy σ.2.2.1 nums facs σ.2.2.2.2.2 P T Z pool) (hi : DeskI D n rg hy nums facs P T Z pool σ) (xai : isP D n xa) (hk : k < (pool xa).2.length) : Met l yX2_workTerm (wsM yX2_workTerm cX2_workTerm 6 (some .boolean)) ({ frames := 5, cells := 0, slots := 0, locals := 121 } : Room) (Pcx G B w n [.ref (D), .ref (xa), .int (nI k)]) (Qi G B (fun r w' n' => n' = n ∧ (∀ b, ((D + 23 ≤ b ∧ b < D + 36) ∨ (T ≤ b ∧ b < T + 4)) → w' b = w b) ∧ ∃ P' Z', BR D P' T Z' ∧ DeskC G w' n D rg hy σ.2.2.1 nums facs σ.2.2.2.2.2 P' T Z' pool ∧ ((r = 1 ∧ ∃ M, pterm σ.1 (cd (pool xa).2 k, cf (pool xa).2 k) = some M ∧ okP M ∧ PolyAt G w' P' 60 M) ∨ (r = 0 ∧ pterm σ.1 (cd (pool xa).2 k, cf (pool xa).2 k) = none)))) 0 0 (FA B) := by
  refine en (by decide) (Nat.le_of_ble_eq_true rfl) ?_
  intro p ev s mm ag bl mt co S hr hlk hnm hK H hH ls hl
  have hl : lv_has ls 6 [(0, .ref (D)), (1, .ref (xa)), (2, .int (nI k))] := hl
  obtain ⟨d0, d5, d6, d7, d8, ⟨bg, d9⟩, ⟨mf, dm⟩, hP, hT, hZ, hpl⟩ := hd
  obtain ⟨hbr, hj, hhc, hpc, hrg, hhy, hnu, hfa⟩ := id hi
  unfold BR at hbr
  have xain := isP_in xai
  have xal := isP_lt (by omega) xai
  obtain ⟨L, hL⟩ : ∃ L, L = (pool xa).2 := ⟨_, rfl⟩
  rw [← hL] at hk ⊢
  have okx : okP L := by rw [hL]; exact (hpl xa xai).2
  have hbk := okx.ok k hk
  have hlen : L.length ≤ 60 := okx.2.1
  have hF : ∀ b, (D + 23 ≤ b ∧ b < D + 36) ∨ (T ≤ b ∧ b < T + 4) → w b = w b := fun _ _ => rfl
  refine lv_aload_n S.1 S.2.1 dX2_workTerm_0 rfl (lv_at hl 0 rfl) ?_
  refine gfX2_38 S hK hH d0 dX2_workTerm_1 ?_
  refine lv_lconst (v := lI 0) S.1 S.2.1 dX2_workTerm_4 (by decide) ?_
  refine tpl (x' := lN 0) (rfl) ?_
  refine lv_aload_n S.1 S.2.1 dX2_workTerm_5 rfl (lv_at hl 1 rfl) ?_
  refine lv_iload_n S.1 S.2.1 dX2_workTerm_6 rfl (lv_at hl 2 rfl) ?_
  obtain ⟨kx, px, hx1, _⟩ := (hpl xa xai).1
  rw [← hL] at hx1
  refine ck_ip (run_VN (As := [.int (nI k)]) (rest := [.long (lN 0), .ref (D + 9)]) S hK hH (kX1_coefficientAt xa (pool xa).1 L kx px (nI k) hx1) ceX1_coefficientAt mN213 hx1.ob rfl rfl hl.1 rfl (Nat.le_of_ble_eq_true rfl) dX2_workTerm_7 ⟨rfl, rfl, by decide, by decide⟩ ⟨show 0 + 0 ≤ 0 by omega, show 0 + 0 ≤ 0 by omega⟩) hH (fun r7 H locs hp hH => ?_)
  have hq1 : Hid _ := hp
  clear hp
  obtain rfl := cA_in hq1 hk (by omega)
  refine ck_v (run_VN (As := [.long (lN 0), .int (iI (cf L k))]) (rest := []) S hK hH (kX0_beginProduct (D + 9) P 0 (cf L k) (.ref T) (.ref Z) (.ref (D + 22)) (.int bg) d9 hP (by omega) (by omega)) ceX0_beginProduct mN106 d9 rfl rfl hl.1 rfl (Nat.le_of_ble_eq_true rfl) dX2_workTerm_10 ⟨rfl, rfl, by decide, by decide⟩ ⟨show 0 + 0 ≤ 0 by omega, show 0 + 0 ≤ 0 by omega⟩) hH (fun w2 n2 H locs hp hH => ?_)
  obtain ⟨hn1, hfr, hP⟩ := hp
  rw [hn1] at hH
  replace d0 := (hfr (D) (by omega)).trans d0
  replace d5 := (hfr (D + 5) (by omega)).trans d5
  replace d6 := (hfr (D + 6) (by omega)).trans d6
  replace d7 := (hfr (D + 7) (by omega)).trans d7
  replace d8 := (hfr (D + 8) (by omega)).trans d8
  replace d9 := (hfr (D + 9) (by omega)).trans d9
  replace dm := (hfr (D + 22) (by omega)).trans dm
  replace hT := hT.kept (fun b h1 h2 => hfr b (by omega))
  replace hZ := hZ.kept (fun b h1 h2 => hfr b (by omega))
  replace hpl := hpl.kept (fun b h1 h2 => hfr b (by omega))
  replace hF : ∀ b, (D + 23 ≤ b ∧ b < D + 36) ∨ (T ≤ b ∧ b < T + 4) → w2 b = w b := fun b hb => (hfr b (by omega)).trans (hF b hb)
  refine lv_iconst (v := nI 0) S.1 S.2.1 dX2_workTerm_13 (by decide) ?_
  refine lv_istore_n (lv' := [(3, .int (nI 0)), (0, .ref (D)), (1, .ref (xa)), (2, .int (nI k))]) S.1 S.2.1 dX2_workTerm_14 rfl hl (by decide) rfl (fun ls hl => ?_)
  refine wlp (P := fun k_ ls H' locs' => ∃ (s1 : Nat) (A : PL) (P Z : Nat) (bg : Int32) (mf : Nat → Int32) (v : Wm), lv_has ls 6 [(0, .ref (D)), (1, .ref (xa)), (2, .int (nI k)), (3, .int (nI s1))] ∧ HS G B v (n) s H' locs' ∧ v (D) = some (eO 2 [.ref (D + 5), .ref (D + 6), .int (nI (σ.2.2.1)), .ref (D + 7), .ref (D + 8), .int (nI (σ.2.2.2.2.2)), .ref (D + 9)]) ∧ v (D + 5) = some (eQ G (16) (rg)) ∧ v (D + 6) = some (eQ G (40) (hy)) ∧ v (D + 7) = some (eI G (20) (nums)) ∧ v (D + 8) = some (eI G (80) (facs)) ∧ v (D + 9) = some (eO 0 [.ref (P), .ref (T), .ref (Z), .ref (D + 22), .int (bg)]) ∧ v (D + 22) = some (eI G (60) (mf)) ∧ (PolyAt G v P 60 A) ∧ (PolyR G v T) ∧ (PolyR G v Z) ∧ (PoolOK G v n D pool) ∧ (∀ b, (D + 23 ≤ b ∧ b < D + 36) ∨ (T ≤ b ∧ b < T + 4) → v b = w b) ∧ (BR D P T Z) ∧ (s1 ≤ 16) ∧ (okP A) ∧ (pterm σ.1 (cd L k, cf L k) = wt σ.1 (cd L k) (16 - s1) A) ∧ k_ = 16 - s1) ?_ (k0 := 16 - (0)) ⟨0, _, P, Z, _, _, w2, lv_sub hl [1, 2, 3, 0] rfl, hH, d0, d5, d6, d7, d8, d9, dm, hP, hT, hZ, hpl, hF, hbr, by omega, one_ok vC_0 (by omega), rfl, rfl⟩
  intro k15 ls H locs hP ih15
  obtain ⟨s1, A, P, Z, bg, mf, v, hl, hH, d0, d5, d6, d7, d8, d9, dm, hP, hT, hZ, hpl, hF, hbr, hs1, oka, hw, hk15⟩ := hP
  unfold BR at hbr
  refine lv_iload_n S.1 S.2.1 dX2_workTerm_15 rfl (lv_at hl 3 rfl) ?_
  refine lv_bipush (v := nI 16) S.1 S.2.1 dX2_workTerm_16 (by decide) ?_
  refine bn_ge (tgt := 69) S dX2_workTerm_18 (by decide) (by omega) (fun c18 => ?_) (fun c18 => ?_)
  · skip
    refine lv_iconst (v := nI 1) S.1 S.2.1 dX2_workTerm_69 (by decide) ?_
    exact rt_z S hr hlk hH dX2_workTerm_70 (by decide) (⟨rfl, hF, P, Z, hbr, ⟨d0, d5, d6, d7, d8, ⟨_, d9⟩, ⟨_, dm⟩, hP.raw, hT, hZ, hpl⟩, Or.inl ⟨rfl, A, by rw [hw, show 16 - s1 = 0 by omega]; rfl, oka, hP⟩⟩)
  · skip
    refine lv_aload_n S.1 S.2.1 dX2_workTerm_21 rfl (lv_at hl 1 rfl) ?_
    refine lv_iload_n S.1 S.2.1 dX2_workTerm_22 rfl (lv_at hl 2 rfl) ?_
    refine lv_iload_n S.1 S.2.1 dX2_workTerm_23 rfl (lv_at hl 3 rfl) ?_
    obtain ⟨kx, px, hx1, _⟩ := (hpl xa xai).1
    rw [← hL] at hx1
    have hdg := dig_lt (cd L k) s1
    refine ck_ip (run_VN (As := [.int (nI k), .int (nI s1)]) (rest := []) S hK hH (kX1_powerAt xa (pool xa).1 L kx px (nI k) (nI s1) hx1 (fun j hj => (okx.ok j hj).1)) ceX1_powerAt mN221 hx1.ob rfl rfl hl.1 rfl (Nat.le_of_ble_eq_true rfl) dX2_workTerm_24 ⟨rfl, rfl, by decide, by decide⟩ ⟨show 0 + 0 ≤ 0 by omega, show 0 + 0 ≤ 0 by omega⟩) hH (fun r24 H locs hp hH => ?_)
    have hq1 : Hid _ := hp
    clear hp
    obtain rfl := pA_in hq1 hk c18 (by omega)
    refine lv_istore (lv' := [(4, .int (nI (dig (cd L k) s1))), (0, .ref (D)), (1, .ref (xa)), (2, .int (nI k)), (3, .int (nI s1))]) S.1 S.2.1 dX2_workTerm_27 hl (by decide) rfl (fun ls hl => ?_)
    refine lv_iconst (v := nI 0) S.1 S.2.1 dX2_workTerm_29 (by decide) ?_
    refine lv_istore (lv' := [(5, .int (nI 0)), (4, .int (nI (dig (cd L k) s1))), (0, .ref (D)), (1, .ref (xa)), (2, .int (nI k)), (3, .int (nI s1))]) S.1 S.2.1 dX2_workTerm_30 hl (by decide) rfl (fun ls hl => ?_)
    refine wlp (P := fun k_ ls H' locs' => ∃ (i : Nat) (A : PL) (P Z : Nat) (bg : Int32) (mf : Nat → Int32) (v : Wm), lv_has ls 6 [(0, .ref (D)), (1, .ref (xa)), (2, .int (nI k)), (3, .int (nI s1)), (4, .int (nI (dig (cd L k) s1))), (5, .int (nI i))] ∧ HS G B v (n) s H' locs' ∧ v (D) = some (eO 2 [.ref (D + 5), .ref (D + 6), .int (nI (σ.2.2.1)), .ref (D + 7), .ref (D + 8), .int (nI (σ.2.2.2.2.2)), .ref (D + 9)]) ∧ v (D + 5) = some (eQ G (16) (rg)) ∧ v (D + 6) = some (eQ G (40) (hy)) ∧ v (D + 7) = some (eI G (20) (nums)) ∧ v (D + 8) = some (eI G (80) (facs)) ∧ v (D + 9) = some (eO 0 [.ref (P), .ref (T), .ref (Z), .ref (D + 22), .int (bg)]) ∧ v (D + 22) = some (eI G (60) (mf)) ∧ (PolyAt G v P 60 A) ∧ (PolyR G v T) ∧ (PolyR G v Z) ∧ (PoolOK G v n D pool) ∧ (∀ b, (D + 23 ≤ b ∧ b < D + 36) ∨ (T ≤ b ∧ b < T + 4) → v b = w b) ∧ (BR D P T Z) ∧ (i ≤ dig (cd L k) s1) ∧ (okP A) ∧ (pterm σ.1 (cd L k, cf L k) = (pwr (σ.1 s1) (dig (cd L k) s1 - i) A).bind (wt σ.1 (cd L k) (15 - s1))) ∧ k_ = dig (cd L k) s1 - i) ?_ (k0 := dig (cd L k) s1 - (0)) ⟨0, A, P, Z, _, _, v, lv_sub hl [2, 3, 4, 5, 1, 0] rfl, hH, d0, d5, d6, d7, d8, d9, dm, hP, hT, hZ, hpl, hF, hbr, by omega, oka, hw.trans (wt_beg c18), rfl⟩
    intro k32 ls H locs hP ih32
    obtain ⟨i, A, P, Z, bg, mf, v, hl, hH, d0, d5, d6, d7, d8, d9, dm, hP, hT, hZ, hpl, hF, hbr, hi1, oka, hw, hk32⟩ := hP
    unfold BR at hbr
    refine lv_iload S.1 S.2.1 dX2_workTerm_32 (lv_at hl 5 rfl) ?_
    refine lv_iload S.1 S.2.1 dX2_workTerm_34 (lv_at hl 4 rfl) ?_
    refine bn_ge (tgt := 63) S dX2_workTerm_36 (by decide) (by omega) (fun c36 => ?_) (fun c36 => ?_)
    · skip
      refine lv_iinc (v := nI (s1 + 1)) (lv' := [(3, .int (nI (s1 + 1))), (0, .ref (D)), (1, .ref (xa)), (2, .int (nI k)), (4, .int (nI (dig (cd L k) s1))), (5, .int (nI i))]) S.1 S.2.1 dX2_workTerm_63 hl (k := 3) rfl (nI_inc _ 1) (by decide) rfl (fun ls hl => ?_)
      refine lv_goto (tgt := 15) S.1 S.2.1 dX2_workTerm_66 (by decide) ?_
      exact ih15 _ _ _ _ (by omega) ⟨s1 + 1, A, P, Z, _, _, v, lv_sub hl [1, 2, 3, 0] rfl, hH, d0, d5, d6, d7, d8, d9, dm, hP, hT, hZ, hpl, hF, hbr, by omega, oka, hw.trans (wt_end c18 c36), rfl⟩
    · skip
      obtain ⟨ra, rae, rai, rav⟩ := hrg s1 c18
      have rain := isP_in rai
      have ral := isP_lt (by omega) rai
      refine lv_aload_n S.1 S.2.1 dX2_workTerm_39 rfl (lv_at hl 0 rfl) ?_
      refine gfX2_38 S hK hH d0 dX2_workTerm_40 ?_
      refine lv_aload_n S.1 S.2.1 dX2_workTerm_43 rfl (lv_at hl 0 rfl) ?_
      refine gfX2_14 S hK hH d0 dX2_workTerm_44 ?_
      refine lv_iload_n S.1 S.2.1 dX2_workTerm_47 rfl (lv_at hl 3 rfl) ?_
      refine ald_a S hK hH d5 (by omega) (by omega) (rae) dX2_workTerm_48 ?_
      refine ck_i (run_VN (As := [.ref (ra)]) (rest := []) S hK hH (kX0_multiplyBy (D + 9) (D + 22) P T Z ra (pool ra).1 A (pool ra).2 bg mf d9 dm hP hZ (hpl ra rai).1 oka (hpl ra rai).2 (by omega) (by omega) (by omega) (by omega) (by omega) (by omega) (by omega) (by omega) (by omega) (by omega)) ceX0_multiplyBy mN226 d9 rfl rfl hl.1 rfl (Nat.le_of_ble_eq_true rfl) dX2_workTerm_49 ⟨rfl, rfl, by decide, by decide⟩ ⟨show 0 + 0 ≤ 0 by omega, show 0 + 0 ≤ 0 by omega⟩) hH (fun r49 w4 n4 H locs hp hH => ?_)
      obtain ⟨hn1, hfr, ⟨⟨bg, d9⟩, ⟨mf, dm⟩, hxr, hPr, hq3⟩⟩ := hp
      rw [hn1] at hH
      replace hq3 : Hid _ := hq3
      replace d0 := (hfr (D) (by omega)).trans d0
      replace d5 := (hfr (D + 5) (by omega)).trans d5
      replace d6 := (hfr (D + 6) (by omega)).trans d6
      replace d7 := (hfr (D + 7) (by omega)).trans d7
      replace d8 := (hfr (D + 8) (by omega)).trans d8
      replace hT := hT.kept (fun b h1 h2 => hfr b (by omega))
      replace hF : ∀ b, (D + 23 ≤ b ∧ b < D + 36) ∨ (T ≤ b ∧ b < T + 4) → w4 b = w b := fun b hb => (hfr b (by omega)).trans (hF b hb)
      have hpl := hpl.after rai hxr (fun b h1 h2 h3 h4 => hfr b (by omega))
      refine lv_if_ne (tgt := 57) S.1 S.2.1 dX2_workTerm_52 (by decide) (fun c52 => ?_) (fun c52 => ?_)
      · skip
        rcases hq3 with ⟨_, M, e1, hPM⟩ | ⟨e, _⟩
        rotate_left
        · exact absurd e c52
        have okm := pmul_ok oka (hpl ra rai).2 e1
        rw [rav] at e1
        refine lv_iinc (v := nI (i + 1)) (lv' := [(5, .int (nI (i + 1))), (0, .ref (D)), (1, .ref (xa)), (2, .int (nI k)), (3, .int (nI s1)), (4, .int (nI (dig (cd L k) s1)))]) S.1 S.2.1 dX2_workTerm_57 hl (k := 5) rfl (nI_inc _ 1) (by decide) rfl (fun ls hl => ?_)
        refine lv_goto (tgt := 32) S.1 S.2.1 dX2_workTerm_60 (by decide) ?_
        exact ih32 _ _ _ _ (by omega) ⟨i + 1, M, Z, P, _, _, w4, lv_sub hl [1, 2, 3, 4, 5, 0] rfl, hH, d0, d5, d6, d7, d8, d9, dm, hPM, hT, hPr, hpl, hF, br_sw hbr, by omega, okm, hw.trans (pwr_some c36 e1), rfl⟩
      · skip
        rcases hq3 with ⟨e, _⟩ | ⟨_, e1, hPM⟩
        · rw [e] at c52; exact absurd c52 (by decide)
        rw [rav] at e1
        refine lv_iconst (v := nI 0) S.1 S.2.1 dX2_workTerm_55 (by decide) ?_
        exact rt_z S hr hlk hH dX2_workTerm_56 (by decide) (⟨rfl, hF, Z, P, br_sw hbr, ⟨d0, d5, d6, d7, d8, ⟨_, d9⟩, ⟨_, dm⟩, hPM, hT, hPr, hpl⟩, Or.inr ⟨rfl, hw.trans (pwr_none c36 e1)⟩⟩)
end
section
theorem lt_nI {x : Int32} {N : Nat} (hN : N < 2 ^ 31) (h : x < nI N) : x.toInt < N := by
  rw [Int32.lt_iff_toInt_lt, nI_toInt hN] at h; exact h
theorem nlt_nI {x : Int32} {N : Nat} (hN : N < 2 ^ 31) (h : ¬ x < nI N) : ¬ x.toInt < N := by
  rw [Int32.lt_iff_toInt_lt, nI_toInt hN] at h; exact h
theorem nneg {x : Int32} (h : 0 ≤ x.toInt) : ¬ x < 0 := by
  rw [Int32.lt_iff_toInt_lt]; simp; exact h
theorem nbig {x : Int32} {N : Nat} (hN : N < 2 ^ 31) (h : x.toInt < N) : ¬ nI N ≤ x := by
  rw [Int32.le_iff_toInt_le, nI_toInt hN]; omega
theorem there_t {hc k : Nat} {pf : Nat → Int32} (h : ∀ f, f < k → (pf f).toInt < hc) : thereF hc pf k = true := by
  rw [thereF, List.all_eq_true]
  exact fun f hf => decide_eq_true (h f (List.mem_range.mp hf))
theorem there_f {hc k i : Nat} {pf : Nat → Int32} (hi : i < k) (h : ¬ (pf i).toInt < hc) : thereF hc pf k = false := by
  cases e : thereF hc pf k
  · rfl
  · rw [thereF, List.all_eq_true] at e
    exact absurd (of_decide_eq_true (e i (List.mem_range.mpr hi))) h
section WP
variable {Hh : Nat → PL} {hc f e0 h : Nat} {pn : Nat → Nat} {pf : Nat → Int32} {A M : PL}
theorem wpi_skip (hf : f < e0) (hs : ¬ (0 ≤ (pf f).toInt ∧ (pf f).toInt < hc)) : wpi Hh hc pf f (e0 - f) A = wpi Hh hc pf (f + 1) (e0 - (f + 1)) A := by
  rw [show e0 - f = (e0 - (f + 1)) + 1 by omega, wpi, if_neg hs]; rfl
theorem wpi_some (hf : f < e0) (hh : h < hc) (hb : hc < 2 ^ 31) (hx : pf f = nI h) (e : pmul A (Hh h) = some M) : wpi Hh hc pf f (e0 - f) A = wpi Hh hc pf (f + 1) (e0 - (f + 1)) M := by
  have e1 : (pf f).toInt = (h : Int) := by rw [hx, nI_toInt (by omega)]
  rw [show e0 - f = (e0 - (f + 1)) + 1 by omega, wpi, e1, if_pos (by omega), Int.toNat_natCast, e]; rfl
theorem wpi_none (hf : f < e0) (hh : h < hc) (hb : hc < 2 ^ 31) (hx : pf f = nI h) (e : pmul A (Hh h) = none) : wpi Hh hc pf f (e0 - f) A = none := by
  have e1 : (pf f).toInt = (h : Int) := by rw [hx, nI_toInt (by omega)]
  rw [show e0 - f = (e0 - (f + 1)) + 1 by omega, wpi, e1, if_pos (by omega), Int.toNat_natCast, e]; rfl
variable {p N : Nat} {acc A2 : PL}
theorem psum_some (hp : p < N) (e1 : wpi Hh hc pf (4 * p) 4 (one 0 (pn p)) = some M) (e2 : padd 1 acc M = some A2) : psum Hh hc pn pf p (N - p) acc = psum Hh hc pn pf (p + 1) (N - (p + 1)) A2 := by
  rw [show N - p = (N - (p + 1)) + 1 by omega, psum, e1, Option.bind_some, e2]; rfl
theorem psum_none1 (hp : p < N) (e1 : wpi Hh hc pf (4 * p) 4 (one 0 (pn p)) = none) : psum Hh hc pn pf p (N - p) acc = none := by
  rw [show N - p = (N - (p + 1)) + 1 by omega, psum, e1]; rfl
theorem psum_none2 (hp : p < N) (e1 : wpi Hh hc pf (4 * p) 4 (one 0 (pn p)) = some M) (e2 : padd 1 acc M = none) : psum Hh hc pn pf p (N - p) acc = none := by
  rw [show N - p = (N - (p + 1)) + 1 by omega, psum, e1, Option.bind_some, e2]; rfl
theorem psum_end (hp : N ≤ p) : psum Hh hc pn pf p (N - p) acc = some acc := by
  rw [show N - p = 0 by omega]; rfl
end WP
section SH
variable {σ : St} {L W0 A : PL} {k : Int}
theorem show_no (h : thereF σ.2.2.1 σ.2.2.2.2.1 (4 * σ.2.2.2.2.2) = false) : showA σ L k = 0 := by
  rw [showA, if_neg (by rw [h]; decide)]
theorem show_1 (h : thereF σ.2.2.1 σ.2.2.2.2.1 (4 * σ.2.2.2.2.2) = true) (e : pmul (one 0 k) L = none) : showA σ L k = -2 := by
  rw [showA, if_pos h, e]
theorem show_2 (h : thereF σ.2.2.1 σ.2.2.2.2.1 (4 * σ.2.2.2.2.2) = true) (e : pmul (one 0 k) L = some W0) (e2 : psum σ.2.1 σ.2.2.1 σ.2.2.2.1 σ.2.2.2.2.1 0 σ.2.2.2.2.2 [] = none) : showA σ L k = -2 := by
  rw [showA, if_pos h, e]; simp only [e2]
theorem show_3 (h : thereF σ.2.2.1 σ.2.2.2.2.1 (4 * σ.2.2.2.2.2) = true) (e : pmul (one 0 k) L = some W0) (e2 : psum σ.2.1 σ.2.2.1 σ.2.2.2.1 σ.2.2.2.2.1 0 σ.2.2.2.2.2 [] = some A) : showA σ L k = if A = W0 then 1 else 0 := by
  rw [showA, if_pos h, e]; simp only [e2]
end SH
theorem br_sx {D P T Z : Nat} (h : BR D P T Z) : BR D P Z T := by
  unfold BR at h ⊢
  omega
theorem DeskI.br {D n : Nat} {rg hy : Nat → Option Nat} {nums facs : Nat → Int32} {P T Z P' T' Z' : Nat} {pool : Nat → Nat × PL} {σ : St} (hi : DeskI D n rg hy nums facs P T Z pool σ) (h : BR D P' T' Z') : DeskI D n rg hy nums facs P' T' Z' pool σ := ⟨h, hi.2⟩
theorem push_I {D n : Nat} {rg hy : Nat → Option Nat} {nums facs : Nat → Int32} {P T Z : Nat} {pool : Nat → Nat × PL} {σ : St} {M : PL} (hi : DeskI D n rg hy nums facs P T Z pool σ) : DeskI D (n + 4) rg hy nums facs P T Z (va_up pool n (M.length, M)) σ := by
  obtain ⟨hbr, hj, hhc, hpc, hrg, hhy, hnu, hfa⟩ := hi
  have old : ∀ a, isP D n a → isP D (n + 4) a ∧ va_up pool n (M.length, M) a = pool a := fun a ha => by
    have := isP_lt (by omega) ha
    exact ⟨isP_up (by omega) ha, va_up_ne _ _ (by omega)⟩
  refine ⟨hbr, by omega, hhc, hpc, fun i hi => ?_, fun i hi => ?_, hnu, hfa⟩
  · obtain ⟨a, h1, h2, h3⟩ := hrg i hi
    exact ⟨a, h1, (old a h2).1, by rw [(old a h2).2, h3]⟩
  · obtain ⟨a, h1, h2, h3⟩ := hhy i hi
    exact ⟨a, h1, (old a h2).1, by rw [(old a h2).2, h3]⟩

set_option maxHeartbeats 4000000 in
set_option maxRecDepth 100000 in
theorem kX2_factorsAreThere {l : Launch} {G : Gx} {B : Nat} {w : Wm} {n : Nat} (D : Nat) (rg hy : Nat → Option Nat) (nums facs : Nat → Int32) (P T Z : Nat) (pool : Nat → Nat × PL) (σ : St) (hd : DeskC G w n D rg hy σ.2.2.1 nums facs σ.2.2.2.2.2 P T Z pool) (hi : DeskI D n rg hy nums facs P T Z pool σ) : Met l yX2_factorsAreThere (wsM yX2_factorsAreThere cX2_factorsAreThere 2 (some .boolean)) ({ frames := 0, cells := 0, slots := 0, locals := 0 } : Room) (Pcx G B w n [.ref (D)]) (Qi G B (fun r w' n' => w' = w ∧ n' = n ∧ ((r = 1 ∧ thereF σ.2.2.1 σ.2.2.2.2.1 (4 * σ.2.2.2.2.2) = true) ∨ (r = 0 ∧ thereF σ.2.2.1 σ.2.2.2.2.1 (4 * σ.2.2.2.2.2) = false)))) 0 0 (FA B) := by
  refine en (by decide) (Nat.le_of_ble_eq_true rfl) ?_
  intro p ev s mm ag bl mt co S hr hlk hnm hK H hH ls hl
  have hl : lv_has ls 2 [(0, .ref (D))] := hl
  obtain ⟨d0, d5, d6, d7, d8, ⟨bg, d9⟩, ⟨mf, dm⟩, hP, hT, hZ, hpl⟩ := hd
  obtain ⟨hbr, hj, hhc, hpc, hrg, hhy, hnu, hfa⟩ := id hi
  unfold BR at hbr
  refine lv_iconst (v := nI 0) S.1 S.2.1 dX2_factorsAreThere_0 (by decide) ?_
  refine lv_istore_n (lv' := [(1, .int (nI 0)), (0, .ref (D))]) S.1 S.2.1 dX2_factorsAreThere_1 rfl hl (by decide) rfl (fun ls hl => ?_)
  refine wlp (P := fun k_ ls H' locs' => ∃ (i : Nat), lv_has ls 2 [(0, .ref (D)), (1, .int (nI i))] ∧ (H = H' ∧ [] = locs') ∧ (i ≤ 4 * σ.2.2.2.2.2) ∧ (∀ f, f < i → (σ.2.2.2.2.1 f).toInt < σ.2.2.1) ∧ k_ = 4 * σ.2.2.2.2.2 - i) ?_ (k0 := 4 * σ.2.2.2.2.2 - (0)) ⟨0, lv_sub hl [1, 0] rfl, ⟨rfl, rfl⟩, by omega, fun f h => absurd h (Nat.not_lt_zero f), rfl⟩
  intro k2 ls H' locs' hP ih2
  obtain ⟨i, hl, ⟨rfl, rfl⟩, hi1, hall, hk2⟩ := hP
  refine lv_iload_n S.1 S.2.1 dX2_factorsAreThere_2 rfl (lv_at hl 1 rfl) ?_
  refine lv_aload_n S.1 S.2.1 dX2_factorsAreThere_3 rfl (lv_at hl 0 rfl) ?_
  refine gfX2_32 S hK hH d0 dX2_factorsAreThere_4 ?_
  refine lv_iconst (v := nI 4) S.1 S.2.1 dX2_factorsAreThere_7 (by decide) ?_
  refine lv_imul S.1 S.2.1 dX2_factorsAreThere_8 ?_
  refine tpi (x' := nI ((σ.2.2.2.2.2) * 4)) (pk_mul _ _) ?_
  refine bn_ge (tgt := 33) S dX2_factorsAreThere_9 (by decide) (by omega) (fun c9 => ?_) (fun c9 => ?_)
  · skip
    refine lv_iconst (v := nI 1) S.1 S.2.1 dX2_factorsAreThere_33 (by decide) ?_
    exact rt_z S hr hlk hH dX2_factorsAreThere_34 (by decide) (⟨rfl, rfl, Or.inl ⟨rfl, there_t (fun f h => hall f (by omega))⟩⟩)
  · skip
    refine lv_aload_n S.1 S.2.1 dX2_factorsAreThere_12 rfl (lv_at hl 0 rfl) ?_
    refine gfX2_29 S hK hH d0 dX2_factorsAreThere_13 ?_
    refine lv_iload_n S.1 S.2.1 dX2_factorsAreThere_16 rfl (lv_at hl 1 rfl) ?_
    refine ald_i S hK hH d8 (by omega) (by omega) dX2_factorsAreThere_17 ?_
    refine tpi (x' := σ.2.2.2.2.1 i) (hfa i (by omega)) ?_
    refine lv_aload_n S.1 S.2.1 dX2_factorsAreThere_18 rfl (lv_at hl 0 rfl) ?_
    refine gfX2_21 S hK hH d0 dX2_factorsAreThere_19 ?_
    refine lv_icmp_lt (tgt := 27) S.1 S.2.1 dX2_factorsAreThere_22 (by decide) (fun c22 => ?_) (fun c22 => ?_)
    · skip
      have c22 := lt_nI (by omega) c22
      refine lv_iinc (v := nI (i + 1)) (lv' := [(1, .int (nI (i + 1))), (0, .ref (D))]) S.1 S.2.1 dX2_factorsAreThere_27 hl (k := 1) rfl (nI_inc _ 1) (by decide) rfl (fun ls hl => ?_)
      refine lv_goto (tgt := 2) S.1 S.2.1 dX2_factorsAreThere_30 (by decide) ?_
      exact ih2 _ _ _ _ (by omega) ⟨i + 1, lv_sub hl [1, 0] rfl, ⟨rfl, rfl⟩, by omega, lt_s hall c22, rfl⟩
    · skip
      have c22 := nlt_nI (by omega) c22
      refine lv_iconst (v := nI 0) S.1 S.2.1 dX2_factorsAreThere_25 (by decide) ?_
      exact rt_z S hr hlk hH dX2_factorsAreThere_26 (by decide) (⟨rfl, rfl, Or.inr ⟨rfl, there_f (show i < 4 * σ.2.2.2.2.2 by omega) c22⟩⟩)

set_option maxHeartbeats 4000000 in
set_option maxRecDepth 100000 in
theorem kX2_workPart {l : Launch} {G : Gx} {B : Nat} {w : Wm} {n : Nat} (D p1 : Nat) (rg hy : Nat → Option Nat) (nums facs : Nat → Int32) (P T Z : Nat) (pool : Nat → Nat × PL) (σ : St) (hd : DeskC G w n D rg hy σ.2.2.1 nums facs σ.2.2.2.2.2 P T Z pool) (hi : DeskI D n rg hy nums facs P T Z pool σ) (hp1 : p1 < σ.2.2.2.2.2) : Met l yX2_workPart (wsM yX2_workPart cX2_workPart 4 (some .boolean)) ({ frames := 5, cells := 0, slots := 0, locals := 121 } : Room) (Pcx G B w n [.ref (D), .int (nI p1)]) (Qi G B (fun r w' n' => n' = n ∧ (∀ b, ((D + 23 ≤ b ∧ b < D + 36) ∨ (T ≤ b ∧ b < T + 4)) → w' b = w b) ∧ ∃ P' Z', BR D P' T Z' ∧ DeskC G w' n D rg hy σ.2.2.1 nums facs σ.2.2.2.2.2 P' T Z' pool ∧ ((r = 1 ∧ ∃ M, wpi σ.2.1 σ.2.2.1 σ.2.2.2.2.1 (4 * p1) 4 (one 0 (σ.2.2.2.1 p1)) = some M ∧ okP M ∧ PolyAt G w' P' 60 M) ∨ (r = 0 ∧ wpi σ.2.1 σ.2.2.1 σ.2.2.2.2.1 (4 * p1) 4 (one 0 (σ.2.2.2.1 p1)) = none)))) 0 0 (FA B) := by
  refine en (by decide) (Nat.le_of_ble_eq_true rfl) ?_
  intro p ev s mm ag bl mt co S hr hlk hnm hK H hH ls hl
  have hl : lv_has ls 4 [(0, .ref (D)), (1, .int (nI p1))] := hl
  obtain ⟨d0, d5, d6, d7, d8, ⟨bg, d9⟩, ⟨mf, dm⟩, hP, hT, hZ, hpl⟩ := hd
  obtain ⟨hbr, hj, hhc, hpc, hrg, hhy, hnu, hfa⟩ := id hi
  unfold BR at hbr
  have hnp := hnu p1 hp1
  have hF : ∀ b, (D + 23 ≤ b ∧ b < D + 36) ∨ (T ≤ b ∧ b < T + 4) → w b = w b := fun _ _ => rfl
  refine lv_aload_n S.1 S.2.1 dX2_workPart_0 rfl (lv_at hl 0 rfl) ?_
  refine gfX2_38 S hK hH d0 dX2_workPart_1 ?_
  refine lv_lconst (v := lI 0) S.1 S.2.1 dX2_workPart_4 (by decide) ?_
  refine tpl (x' := lN 0) (rfl) ?_
  refine lv_aload_n S.1 S.2.1 dX2_workPart_5 rfl (lv_at hl 0 rfl) ?_
  refine gfX2_25 S hK hH d0 dX2_workPart_6 ?_
  refine lv_iload_n S.1 S.2.1 dX2_workPart_9 rfl (lv_at hl 1 rfl) ?_
  refine ald_i S hK hH d7 (by omega) (by omega) dX2_workPart_10 ?_
  refine tpi (x' := nI (σ.2.2.2.1 p1)) (hnp.1) ?_
  refine tpi (x' := iI ((σ.2.2.2.1 p1 : Nat) : Int)) (rfl) ?_
  refine ck_v (run_VN (As := [.long (lN 0), .int (iI ((σ.2.2.2.1 p1 : Nat) : Int))]) (rest := []) S hK hH (kX0_beginProduct (D + 9) P 0 ((σ.2.2.2.1 p1 : Nat) : Int) (.ref T) (.ref Z) (.ref (D + 22)) (.int bg) d9 hP (by omega) (by omega)) ceX0_beginProduct mN106 d9 rfl rfl hl.1 rfl (Nat.le_of_ble_eq_true rfl) dX2_workPart_11 ⟨rfl, rfl, by decide, by decide⟩ ⟨show 0 + 0 ≤ 0 by omega, show 0 + 0 ≤ 0 by omega⟩) hH (fun w1 n1 H locs hp hH => ?_)
  obtain ⟨hn1, hfr, hP⟩ := hp
  rw [hn1] at hH
  replace d0 := (hfr (D) (by omega)).trans d0
  replace d5 := (hfr (D + 5) (by omega)).trans d5
  replace d6 := (hfr (D + 6) (by omega)).trans d6
  replace d7 := (hfr (D + 7) (by omega)).trans d7
  replace d8 := (hfr (D + 8) (by omega)).trans d8
  replace d9 := (hfr (D + 9) (by omega)).trans d9
  replace dm := (hfr (D + 22) (by omega)).trans dm
  replace hT := hT.kept (fun b h1 h2 => hfr b (by omega))
  replace hZ := hZ.kept (fun b h1 h2 => hfr b (by omega))
  replace hpl := hpl.kept (fun b h1 h2 => hfr b (by omega))
  replace hF : ∀ b, (D + 23 ≤ b ∧ b < D + 36) ∨ (T ≤ b ∧ b < T + 4) → w1 b = w b := fun b hb => (hfr b (by omega)).trans (hF b hb)
  refine lv_iload_n S.1 S.2.1 dX2_workPart_14 rfl (lv_at hl 1 rfl) ?_
  refine lv_iconst (v := nI 4) S.1 S.2.1 dX2_workPart_15 (by decide) ?_
  refine lv_imul S.1 S.2.1 dX2_workPart_16 ?_
  refine tpi (x' := nI (p1 * 4)) (pk_mul _ _) ?_
  refine lv_istore_n (lv' := [(2, .int (nI (p1 * 4))), (0, .ref (D)), (1, .int (nI p1))]) S.1 S.2.1 dX2_workPart_17 rfl hl (by decide) rfl (fun ls hl => ?_)
  refine wlp (P := fun k_ ls H' locs' => ∃ (f : Nat) (A : PL) (P Z : Nat) (bg : Int32) (mf : Nat → Int32) (v : Wm), lv_has ls 4 [(0, .ref (D)), (1, .int (nI p1)), (2, .int (nI f))] ∧ HS G B v (n) s H' locs' ∧ v (D) = some (eO 2 [.ref (D + 5), .ref (D + 6), .int (nI (σ.2.2.1)), .ref (D + 7), .ref (D + 8), .int (nI (σ.2.2.2.2.2)), .ref (D + 9)]) ∧ v (D + 5) = some (eQ G (16) (rg)) ∧ v (D + 6) = some (eQ G (40) (hy)) ∧ v (D + 7) = some (eI G (20) (nums)) ∧ v (D + 8) = some (eI G (80) (facs)) ∧ v (D + 9) = some (eO 0 [.ref (P), .ref (T), .ref (Z), .ref (D + 22), .int (bg)]) ∧ v (D + 22) = some (eI G (60) (mf)) ∧ (PolyAt G v P 60 A) ∧ (PolyR G v T) ∧ (PolyR G v Z) ∧ (PoolOK G v n D pool) ∧ (∀ b, (D + 23 ≤ b ∧ b < D + 36) ∨ (T ≤ b ∧ b < T + 4) → v b = w b) ∧ (BR D P T Z) ∧ (4 * p1 ≤ f) ∧ (f ≤ 4 * p1 + 4) ∧ (okP A) ∧ (wpi σ.2.1 σ.2.2.1 σ.2.2.2.2.1 (4 * p1) 4 (one 0 (σ.2.2.2.1 p1)) = wpi σ.2.1 σ.2.2.1 σ.2.2.2.2.1 f (4 * p1 + 4 - f) A) ∧ k_ = 4 * p1 + 4 - f) ?_ (k0 := 4 * p1 + 4 - (p1 * 4)) ⟨p1 * 4, _, P, Z, _, _, w1, lv_sub hl [1, 2, 0] rfl, hH, d0, d5, d6, d7, d8, d9, dm, hP, hT, hZ, hpl, hF, hbr, by omega, by omega, one_ok vC_0 (by omega), by rw [Nat.mul_comm p1 4, show 4 * p1 + 4 - 4 * p1 = 4 by omega], rfl⟩
  intro k18 ls H locs hP ih18
  obtain ⟨f, A, P, Z, bg, mf, v, hl, hH, d0, d5, d6, d7, d8, d9, dm, hP, hT, hZ, hpl, hF, hbr, hf1, hf2, oka, hw, hk18⟩ := hP
  unfold BR at hbr
  refine lv_iload_n S.1 S.2.1 dX2_workPart_18 rfl (lv_at hl 2 rfl) ?_
  refine lv_iload_n S.1 S.2.1 dX2_workPart_19 rfl (lv_at hl 1 rfl) ?_
  refine lv_iconst (v := nI 1) S.1 S.2.1 dX2_workPart_20 (by decide) ?_
  refine lv_iadd S.1 S.2.1 dX2_workPart_21 ?_
  refine tpi (x' := nI (p1 + 1)) (nI_add _ _) ?_
  refine lv_iconst (v := nI 4) S.1 S.2.1 dX2_workPart_22 (by decide) ?_
  refine lv_imul S.1 S.2.1 dX2_workPart_23 ?_
  refine tpi (x' := nI ((p1 + 1) * 4)) (pk_mul _ _) ?_
  refine bn_ge (tgt := 70) S dX2_workPart_24 (by decide) (by omega) (fun c24 => ?_) (fun c24 => ?_)
  · skip
    refine lv_iconst (v := nI 1) S.1 S.2.1 dX2_workPart_70 (by decide) ?_
    exact rt_z S hr hlk hH dX2_workPart_71 (by decide) (⟨rfl, hF, P, Z, hbr, ⟨d0, d5, d6, d7, d8, ⟨_, d9⟩, ⟨_, dm⟩, hP.raw, hT, hZ, hpl⟩, Or.inl ⟨rfl, A, by rw [hw, show 4 * p1 + 4 - f = 0 by omega]; rfl, oka, hP⟩⟩)
  · skip
    refine lv_aload_n S.1 S.2.1 dX2_workPart_27 rfl (lv_at hl 0 rfl) ?_
    refine gfX2_29 S hK hH d0 dX2_workPart_28 ?_
    refine lv_iload_n S.1 S.2.1 dX2_workPart_31 rfl (lv_at hl 2 rfl) ?_
    refine ald_i S hK hH d8 (by omega) (by omega) dX2_workPart_32 ?_
    refine tpi (x' := σ.2.2.2.2.1 f) (hfa f (by omega)) ?_
    refine lv_istore_n (lv' := [(3, .int (σ.2.2.2.2.1 f)), (0, .ref (D)), (1, .int (nI p1)), (2, .int (nI f))]) S.1 S.2.1 dX2_workPart_33 rfl hl (by decide) rfl (fun ls hl => ?_)
    refine lv_iload_n S.1 S.2.1 dX2_workPart_34 rfl (lv_at hl 0 rfl) ?_
    refine lv_if_lt (tgt := 64) S.1 S.2.1 dX2_workPart_35 (by decide) (fun c35 => ?_) (fun c35 => ?_)
    · skip
      have hsk : ¬ (0 ≤ (σ.2.2.2.2.1 f).toInt ∧ (σ.2.2.2.2.1 f).toInt < σ.2.2.1) := fun e => absurd c35 (nneg e.1)
      refine lv_iinc (v := nI (f + 1)) (lv' := [(2, .int (nI (f + 1))), (3, .int (σ.2.2.2.2.1 f)), (0, .ref (D)), (1, .int (nI p1))]) S.1 S.2.1 dX2_workPart_64 hl (k := 3) rfl (nI_inc _ 1) (by decide) rfl (fun ls hl => ?_)
      refine lv_goto (tgt := 18) S.1 S.2.1 dX2_workPart_67 (by decide) ?_
      exact ih18 _ _ _ _ (by omega) ⟨f + 1, A, P, Z, _, _, v, lv_sub hl [2, 3, 0] rfl, hH, d0, d5, d6, d7, d8, d9, dm, hP, hT, hZ, hpl, hF, hbr, by omega, by omega, oka, hw.trans (wpi_skip (by omega) hsk), rfl⟩
    · skip
      refine lv_iload_n S.1 S.2.1 dX2_workPart_38 rfl (lv_at hl 0 rfl) ?_
      refine lv_aload_n S.1 S.2.1 dX2_workPart_39 rfl (lv_at hl 1 rfl) ?_
      refine gfX2_21 S hK hH d0 dX2_workPart_40 ?_
      refine lv_icmp_ge (tgt := 64) S.1 S.2.1 dX2_workPart_43 (by decide) (fun c43 => ?_) (fun c43 => ?_)
      · skip
        have hsk : ¬ (0 ≤ (σ.2.2.2.2.1 f).toInt ∧ (σ.2.2.2.2.1 f).toInt < σ.2.2.1) := fun e => absurd c43 (nbig (by omega) e.2)
        refine lv_iinc (v := nI (f + 1)) (lv' := [(2, .int (nI (f + 1))), (3, .int (σ.2.2.2.2.1 f)), (0, .ref (D)), (1, .int (nI p1))]) S.1 S.2.1 dX2_workPart_64 hl (k := 3) rfl (nI_inc _ 1) (by decide) rfl (fun ls hl => ?_)
        refine lv_goto (tgt := 18) S.1 S.2.1 dX2_workPart_67 (by decide) ?_
        exact ih18 _ _ _ _ (by omega) ⟨f + 1, A, P, Z, _, _, v, lv_sub hl [2, 3, 0] rfl, hH, d0, d5, d6, d7, d8, d9, dm, hP, hT, hZ, hpl, hF, hbr, by omega, by omega, oka, hw.trans (wpi_skip (by omega) hsk), rfl⟩
      · skip
        obtain ⟨hh, hh1, hh2⟩ := ix_in c35 c43 (by omega)
        rw [hh2] at hl
        obtain ⟨ra, rae, rai, rav⟩ := hhy hh hh1
        have rain := isP_in rai
        have ral := isP_lt (by omega) rai
        refine lv_aload_n S.1 S.2.1 dX2_workPart_46 rfl (lv_at hl 1 rfl) ?_
        refine gfX2_38 S hK hH d0 dX2_workPart_47 ?_
        refine lv_aload_n S.1 S.2.1 dX2_workPart_50 rfl (lv_at hl 1 rfl) ?_
        refine gfX2_18 S hK hH d0 dX2_workPart_51 ?_
        refine lv_iload_n S.1 S.2.1 dX2_workPart_54 rfl (lv_at hl 0 rfl) ?_
        refine ald_a S hK hH d6 (by omega) (by omega) (rae) dX2_workPart_55 ?_
        refine ck_i (run_VN (As := [.ref (ra)]) (rest := []) S hK hH (kX0_multiplyBy (D + 9) (D + 22) P T Z ra (pool ra).1 A (pool ra).2 bg mf d9 dm hP hZ (hpl ra rai).1 oka (hpl ra rai).2 (by omega) (by omega) (by omega) (by omega) (by omega) (by omega) (by omega) (by omega) (by omega) (by omega)) ceX0_multiplyBy mN226 d9 rfl rfl hl.1 rfl (Nat.le_of_ble_eq_true rfl) dX2_workPart_56 ⟨rfl, rfl, by decide, by decide⟩ ⟨show 0 + 0 ≤ 0 by omega, show 0 + 0 ≤ 0 by omega⟩) hH (fun r56 w2 n2 H locs hp hH => ?_)
        obtain ⟨hn1, hfr, ⟨⟨bg, d9⟩, ⟨mf, dm⟩, hxr, hPr, hq3⟩⟩ := hp
        rw [hn1] at hH
        replace hq3 : Hid _ := hq3
        replace d0 := (hfr (D) (by omega)).trans d0
        replace d5 := (hfr (D + 5) (by omega)).trans d5
        replace d6 := (hfr (D + 6) (by omega)).trans d6
        replace d7 := (hfr (D + 7) (by omega)).trans d7
        replace d8 := (hfr (D + 8) (by omega)).trans d8
        replace hT := hT.kept (fun b h1 h2 => hfr b (by omega))
        replace hF : ∀ b, (D + 23 ≤ b ∧ b < D + 36) ∨ (T ≤ b ∧ b < T + 4) → w2 b = w b := fun b hb => (hfr b (by omega)).trans (hF b hb)
        have hpl := hpl.after rai hxr (fun b h1 h2 h3 h4 => hfr b (by omega))
        refine lv_if_ne (tgt := 64) S.1 S.2.1 dX2_workPart_59 (by decide) (fun c59 => ?_) (fun c59 => ?_)
        · skip
          rcases hq3 with ⟨_, M, e1, hPM⟩ | ⟨e, _⟩
          rotate_left
          · exact absurd e c59
          have okm := pmul_ok oka (hpl ra rai).2 e1
          rw [rav] at e1
          refine lv_iinc (v := nI (f + 1)) (lv' := [(2, .int (nI (f + 1))), (3, .int (nI hh)), (0, .ref (D)), (1, .int (nI p1))]) S.1 S.2.1 dX2_workPart_64 hl (k := 3) rfl (nI_inc _ 1) (by decide) rfl (fun ls hl => ?_)
          refine lv_goto (tgt := 18) S.1 S.2.1 dX2_workPart_67 (by decide) ?_
          exact ih18 _ _ _ _ (by omega) ⟨f + 1, M, Z, P, _, _, w2, lv_sub hl [2, 3, 0] rfl, hH, d0, d5, d6, d7, d8, d9, dm, hPM, hT, hPr, hpl, hF, br_sw hbr, by omega, by omega, okm, hw.trans (wpi_some (by omega) hh1 (by omega) hh2 e1), rfl⟩
        · skip
          rcases hq3 with ⟨e, _⟩ | ⟨_, e1, hPM⟩
          · rw [e] at c59; exact absurd c59 (by decide)
          rw [rav] at e1
          refine lv_iconst (v := nI 0) S.1 S.2.1 dX2_workPart_62 (by decide) ?_
          exact rt_z S hr hlk hH dX2_workPart_63 (by decide) (⟨rfl, hF, Z, P, br_sw hbr, ⟨d0, d5, d6, d7, d8, ⟨_, d9⟩, ⟨_, dm⟩, hPM, hT, hPr, hpl⟩, Or.inr ⟨rfl, hw.trans (wpi_none (by omega) hh1 (by omega) hh2 e1)⟩⟩)

set_option maxHeartbeats 4000000 in
set_option maxRecDepth 100000 in
theorem kX2_judge {l : Launch} {G : Gx} {B : Nat} {w : Wm} {n : Nat} (D xa : Nat) (k : Int) (rg hy : Nat → Option Nat) (nums facs : Nat → Int32) (P T Z : Nat) (pool : Nat → Nat × PL) (σ : St) (hd : DeskC G w n D rg hy σ.2.2.1 nums facs σ.2.2.2.2.2 P T Z pool) (hi : DeskI D n rg hy nums facs P T Z pool σ) (xai : isP D n xa) (hk : 1 ≤ k ∧ k ≤ 99999999) : Met l yX2_judge (wsM yX2_judge cX2_judge 5 (some .int)) ({ frames := 6, cells := 4, slots := 141, locals := 144 } : Room) (Pcx G B w n [.ref (D), .ref (xa), .int (iI k)]) (Qi G B (fun r w' n' => (n' = n ∨ n' = n + 4) ∧ (∀ b, (D + 23 ≤ b ∧ b < D + 36) → w' b = w b) ∧ r = showA σ (pool xa).2 k ∧ DeskS G w' n' D σ)) 4 141 (FA B) := by
  refine en (by decide) (Nat.le_of_ble_eq_true rfl) ?_
  intro p ev s mm ag bl mt co S hr hlk hnm hK H hH ls hl
  have hl : lv_has ls 5 [(0, .ref (D)), (1, .ref (xa)), (2, .int (iI k))] := hl
  have hd0 := hd
  obtain ⟨d0, d5, d6, d7, d8, ⟨bg, d9⟩, ⟨mf, dm⟩, hP, hT, hZ, hpl⟩ := hd
  obtain ⟨hbr, hj, hhc, hpc, hrg, hhy, hnu, hfa⟩ := id hi
  unfold BR at hbr
  have xain := isP_in xai
  have xal := isP_lt (by omega) xai
  have hF : ∀ b, D + 23 ≤ b ∧ b < D + 36 → w b = w b := fun _ _ => rfl
  refine lv_aload_n S.1 S.2.1 dX2_judge_0 rfl (lv_at hl 0 rfl) ?_
  refine ck_ip (run_V (As := []) (rest := []) S hK hH (kX2_factorsAreThere D rg hy nums facs P T Z pool σ hd0 hi) ceX2_factorsAreThere mW279 d0 rfl rfl hl.1 rfl (Nat.le_of_ble_eq_true rfl) dX2_judge_1 ⟨rfl, rfl, by decide, by decide⟩ ⟨show 0 + 0 ≤ 4 by omega, show 0 + 0 ≤ 141 by omega⟩) hH (fun r1 H locs hp hH => ?_)
  have hq1 : Hid _ := hp
  clear hp
  refine lv_if_ne (tgt := 9) S.1 S.2.1 dX2_judge_4 (by decide) (fun c4 => ?_) (fun c4 => ?_)
  · skip
    rcases hq1 with ⟨_, hth⟩ | ⟨e, _⟩
    rotate_left
    · exact absurd e c4
    refine lv_aload_n S.1 S.2.1 dX2_judge_9 rfl (lv_at hl 0 rfl) ?_
    refine gfX2_38 S hK hH d0 dX2_judge_10 ?_
    refine lv_lconst (v := lI 0) S.1 S.2.1 dX2_judge_13 (by decide) ?_
    refine tpl (x' := lN 0) (rfl) ?_
    refine lv_iload_n S.1 S.2.1 dX2_judge_14 rfl (lv_at hl 2 rfl) ?_
    refine ck_v (run_VN (As := [.long (lN 0), .int (iI k)]) (rest := []) S hK hH (kX0_beginProduct (D + 9) P 0 k (.ref T) (.ref Z) (.ref (D + 22)) (.int bg) d9 hP (by omega) (by omega)) ceX0_beginProduct mN106 d9 rfl rfl hl.1 rfl (Nat.le_of_ble_eq_true rfl) dX2_judge_15 ⟨rfl, rfl, by decide, by decide⟩ ⟨show 0 + 0 ≤ 4 by omega, show 0 + 0 ≤ 141 by omega⟩) hH (fun w2 n2 H locs hp hH => ?_)
    obtain ⟨hn1, hfr, hP⟩ := hp
    rw [hn1] at hH
    replace d0 := (hfr (D) (by omega)).trans d0
    replace d5 := (hfr (D + 5) (by omega)).trans d5
    replace d6 := (hfr (D + 6) (by omega)).trans d6
    replace d7 := (hfr (D + 7) (by omega)).trans d7
    replace d8 := (hfr (D + 8) (by omega)).trans d8
    replace d9 := (hfr (D + 9) (by omega)).trans d9
    replace dm := (hfr (D + 22) (by omega)).trans dm
    replace hT := hT.kept (fun b h1 h2 => hfr b (by omega))
    replace hZ := hZ.kept (fun b h1 h2 => hfr b (by omega))
    replace hpl := hpl.kept (fun b h1 h2 => hfr b (by omega))
    replace hF : ∀ b, D + 23 ≤ b ∧ b < D + 36 → w2 b = w b := fun b hb => (hfr b (by omega)).trans (hF b hb)
    refine lv_aload_n S.1 S.2.1 dX2_judge_18 rfl (lv_at hl 0 rfl) ?_
    refine gfX2_38 S hK hH d0 dX2_judge_19 ?_
    refine lv_aload_n S.1 S.2.1 dX2_judge_22 rfl (lv_at hl 1 rfl) ?_
    refine ck_i (run_VN (As := [.ref (xa)]) (rest := []) S hK hH (kX0_multiplyBy (D + 9) (D + 22) P T Z xa (pool xa).1 (one 0 k) (pool xa).2 bg mf d9 dm hP hZ (hpl xa xai).1 (one_ok vC_0 (by omega)) (hpl xa xai).2 (by omega) (by omega) (by omega) (by omega) (by omega) (by omega) (by omega) (by omega) (by omega) (by omega)) ceX0_multiplyBy mN226 d9 rfl rfl hl.1 rfl (Nat.le_of_ble_eq_true rfl) dX2_judge_23 ⟨rfl, rfl, by decide, by decide⟩ ⟨show 0 + 0 ≤ 4 by omega, show 0 + 0 ≤ 141 by omega⟩) hH (fun r23 w3 n3 H locs hp hH => ?_)
    obtain ⟨hn1, hfr, ⟨⟨bg, d9⟩, ⟨mf, dm⟩, hxr, hPr, hq3⟩⟩ := hp
    rw [hn1] at hH
    replace hq3 : Hid _ := hq3
    replace d0 := (hfr (D) (by omega)).trans d0
    replace d5 := (hfr (D + 5) (by omega)).trans d5
    replace d6 := (hfr (D + 6) (by omega)).trans d6
    replace d7 := (hfr (D + 7) (by omega)).trans d7
    replace d8 := (hfr (D + 8) (by omega)).trans d8
    replace hT := hT.kept (fun b h1 h2 => hfr b (by omega))
    replace hF : ∀ b, D + 23 ≤ b ∧ b < D + 36 → w3 b = w b := fun b hb => (hfr b (by omega)).trans (hF b hb)
    have hpl := hpl.after xai hxr (fun b h1 h2 h3 h4 => hfr b (by omega))
    refine lv_if_ne (tgt := 32) S.1 S.2.1 dX2_judge_26 (by decide) (fun c26 => ?_) (fun c26 => ?_)
    · skip
      rcases hq3 with ⟨_, M0, e0, hPM⟩ | ⟨e, _⟩
      rotate_left
      · exact absurd e c26
      have ok0 := pmul_ok (one_ok vC_0 (by omega)) (hpl xa xai).2 e0
      obtain ⟨kz, pz, hz1, _⟩ := hPM
      refine lv_aload_n S.1 S.2.1 dX2_judge_32 rfl (lv_at hl 0 rfl) ?_
      refine gfX2_38 S hK hH d0 dX2_judge_33 ?_
      refine gfX2_52 S hK hH d9 dX2_judge_36 ?_
      refine ck_r (run_VN (As := []) (rest := []) S hK hH (kX1_copied Z 60 M0 kz pz hz1 ok0.ok (by omega)) ceX1_copied mN124 hz1.ob rfl rfl hl.1 rfl (Nat.le_of_ble_eq_true rfl) dX2_judge_39 ⟨rfl, rfl, by decide, by decide⟩ ⟨show 0 + 4 ≤ 4 by omega, show 0 + 141 ≤ 141 by omega⟩) hH (fun r39 w4 n4 H locs hp hH => ?_)
      obtain ⟨hr1, hn1, hfr, hnew⟩ := hp
      rw [hn1] at hH
      have hr1 := hr1.symm
      subst hr1
      have hpl := hpl.push hj (M := M0) ⟨0, _, hnew, fun e => absurd e (by decide)⟩ ok0 (fun b h1 h2 h3 => hfr b (by omega))
      replace d0 := (hfr (D) (by omega)).trans d0
      replace d5 := (hfr (D + 5) (by omega)).trans d5
      replace d6 := (hfr (D + 6) (by omega)).trans d6
      replace d7 := (hfr (D + 7) (by omega)).trans d7
      replace d8 := (hfr (D + 8) (by omega)).trans d8
      replace d9 := (hfr (D + 9) (by omega)).trans d9
      replace dm := (hfr (D + 22) (by omega)).trans dm
      replace hT := hT.kept (fun b h1 h2 => hfr b (by omega))
      replace hPr := hPr.kept (fun b h1 h2 => hfr b (by omega))
      replace hz1 := hz1.kept (fun b h1 h2 => hfr b (by omega))
      replace hF : ∀ b, D + 23 ≤ b ∧ b < D + 36 → w4 b = w b := fun b hb => (hfr b (by omega)).trans (hF b hb)
      clear hnew
      have hi2 := push_I (M := M0) hi
      refine lv_astore_n (lv' := [(3, .ref (n)), (0, .ref (D)), (1, .ref (xa)), (2, .int (iI k))]) S.1 S.2.1 dX2_judge_42 rfl hl (by decide) rfl (fun ls hl => ?_)
      refine lv_aload_n S.1 S.2.1 dX2_judge_43 rfl (lv_at hl 1 rfl) ?_
      refine gfX2_38 S hK hH d0 dX2_judge_44 ?_
      refine ck_v (run_VN (As := []) (rest := []) S hK hH (kX0_beginTotal (D + 9) T (.ref Z) (.ref P) (.ref (D + 22)) (.int bg) d9 hT) ceX0_beginTotal mN205 d9 rfl rfl hl.1 rfl (Nat.le_of_ble_eq_true rfl) dX2_judge_47 ⟨rfl, rfl, by decide, by decide⟩ ⟨show (0 + 4) + 0 ≤ 4 by omega, show (0 + 141) + 0 ≤ 141 by omega⟩) hH (fun w5 n5 H locs hp hH => ?_)
      obtain ⟨hn1, hfr, hT⟩ := hp
      rw [hn1] at hH
      replace d0 := (hfr (D) (by omega)).trans d0
      replace d5 := (hfr (D + 5) (by omega)).trans d5
      replace d6 := (hfr (D + 6) (by omega)).trans d6
      replace d7 := (hfr (D + 7) (by omega)).trans d7
      replace d8 := (hfr (D + 8) (by omega)).trans d8
      replace d9 := (hfr (D + 9) (by omega)).trans d9
      replace dm := (hfr (D + 22) (by omega)).trans dm
      replace hpl := hpl.kept (fun b h1 h2 => hfr b (by omega))
      replace hPr := hPr.kept (fun b h1 h2 => hfr b (by omega))
      replace hz1 := hz1.kept (fun b h1 h2 => hfr b (by omega))
      replace hF : ∀ b, D + 23 ≤ b ∧ b < D + 36 → w5 b = w b := fun b hb => (hfr b (by omega)).trans (hF b hb)
      refine lv_iconst (v := nI 0) S.1 S.2.1 dX2_judge_50 (by decide) ?_
      refine lv_istore (lv' := [(4, .int (nI 0)), (3, .ref (n)), (0, .ref (D)), (1, .ref (xa)), (2, .int (iI k))]) S.1 S.2.1 dX2_judge_51 hl (by decide) rfl (fun ls hl => ?_)
      refine wlp (P := fun k_ ls H' locs' => ∃ (p1 : Nat) (acc : PL) (P T Z : Nat) (bg : Int32) (mf : Nat → Int32) (v : Wm), lv_has ls 5 [(0, .ref (D)), (3, .ref (n)), (4, .int (nI p1))] ∧ HS G B v (n + 4) s H' locs' ∧ v (D) = some (eO 2 [.ref (D + 5), .ref (D + 6), .int (nI (σ.2.2.1)), .ref (D + 7), .ref (D + 8), .int (nI (σ.2.2.2.2.2)), .ref (D + 9)]) ∧ v (D + 5) = some (eQ G (16) (rg)) ∧ v (D + 6) = some (eQ G (40) (hy)) ∧ v (D + 7) = some (eI G (20) (nums)) ∧ v (D + 8) = some (eI G (80) (facs)) ∧ v (D + 9) = some (eO 0 [.ref (P), .ref (T), .ref (Z), .ref (D + 22), .int (bg)]) ∧ v (D + 22) = some (eI G (60) (mf)) ∧ (PolyR G v P) ∧ (PolyAt G v T 60 acc) ∧ (PolyR G v Z) ∧ (PoolOK G v (n + 4) D (va_up pool n (M0.length, M0))) ∧ (∀ b, D + 23 ≤ b ∧ b < D + 36 → v b = w b) ∧ (BR D P T Z) ∧ (p1 ≤ σ.2.2.2.2.2) ∧ (okP acc) ∧ (psum σ.2.1 σ.2.2.1 σ.2.2.2.1 σ.2.2.2.2.1 0 σ.2.2.2.2.2 [] = psum σ.2.1 σ.2.2.1 σ.2.2.2.1 σ.2.2.2.2.1 p1 (σ.2.2.2.2.2 - p1) acc) ∧ k_ = σ.2.2.2.2.2 - p1) ?_ (k0 := σ.2.2.2.2.2 - (0)) ⟨0, [], Z, T, P, _, _, w5, lv_sub hl [2, 1, 0] rfl, hH, d0, d5, d6, d7, d8, d9, dm, ⟨_, _, _, hz1⟩, hT, hPr, hpl, hF, br_sw hbr, by omega, okP_nil, rfl, rfl⟩
      intro k53 ls H locs hP ih53
      obtain ⟨p1, acc, P, T, Z, bg, mf, v, hl, hH, d0, d5, d6, d7, d8, d9, dm, hP, hT, hZ, hpl, hF, hbr, hp0, oka, hw, hk53⟩ := hP
      unfold BR at hbr
      refine lv_iload S.1 S.2.1 dX2_judge_53 (lv_at hl 2 rfl) ?_
      refine lv_aload_n S.1 S.2.1 dX2_judge_55 rfl (lv_at hl 0 rfl) ?_
      refine gfX2_32 S hK hH d0 dX2_judge_56 ?_
      refine bn_ge (tgt := 90) S dX2_judge_59 (by decide) (by omega) (fun c59 => ?_) (fun c59 => ?_)
      · skip
        refine lv_aload_n S.1 S.2.1 dX2_judge_90 rfl (lv_at hl 0 rfl) ?_
        refine gfX2_38 S hK hH d0 dX2_judge_91 ?_
        refine gfX2_89 S hK hH d9 dX2_judge_94 ?_
        refine lv_aload_n S.1 S.2.1 dX2_judge_97 rfl (lv_at hl 1 rfl) ?_
        obtain ⟨kt, pt, ht1, _⟩ := id hT
        obtain ⟨kn, pn0, hn2, _⟩ := (hpl n (Or.inr ⟨hj.1, hj.2, Nat.le_refl _⟩)).1
        rw [va_up_self] at hn2
        refine ck_ip (run_VN (As := [.ref (n)]) (rest := []) S hK hH (kX1_matches T 60 acc kt pt n M0.length M0 kn pn0 ht1 hn2 oka.ok.B ok0.ok.B) ceX1_matches mN246 ht1.ob rfl rfl hl.1 rfl (Nat.le_of_ble_eq_true rfl) dX2_judge_98 ⟨rfl, rfl, by decide, by decide⟩ ⟨show (0 + 4) + 0 ≤ 4 by omega, show (0 + 141) + 0 ≤ 141 by omega⟩) hH (fun r98 H locs hp hH => ?_)
        have hq6 : Hid _ := hp
        clear hp
        refine lv_if_eq (tgt := 108) S.1 S.2.1 dX2_judge_101 (by decide) (fun c101 => ?_) (fun c101 => ?_)
        · skip
          rcases hq6 with ⟨e, _⟩ | ⟨_, he⟩
          · rw [e] at c101; exact absurd c101 (by decide)
          refine lv_iconst (v := nI 0) S.1 S.2.1 dX2_judge_108 (by decide) ?_
          refine W.widen (k := 4) (n := 141) (by omega) (by omega) ?_
          exact rt_i S hr hlk hH dX2_judge_109 (⟨Or.inr rfl, hF, by rw [show_3 hth e0 (hw.trans (psum_end c59)), if_neg he]; rfl, _, _, _, _, P, T, Z, _, ⟨d0, d5, d6, d7, d8, ⟨_, d9⟩, ⟨_, dm⟩, hP, hT.raw, hZ, hpl⟩, hi2.br hbr⟩)
        · skip
          rcases hq6 with ⟨_, he⟩ | ⟨e, _⟩
          rotate_left
          · exact absurd e c101
          refine lv_iconst (v := nI 1) S.1 S.2.1 dX2_judge_104 (by decide) ?_
          refine lv_goto (tgt := 109) S.1 S.2.1 dX2_judge_105 (by decide) ?_
          refine W.widen (k := 4) (n := 141) (by omega) (by omega) ?_
          exact rt_i S hr hlk hH dX2_judge_109 (⟨Or.inr rfl, hF, by rw [show_3 hth e0 (hw.trans (psum_end c59)), if_pos he]; rfl, _, _, _, _, P, T, Z, _, ⟨d0, d5, d6, d7, d8, ⟨_, d9⟩, ⟨_, dm⟩, hP, hT.raw, hZ, hpl⟩, hi2.br hbr⟩)
      · skip
        refine lv_aload_n S.1 S.2.1 dX2_judge_62 rfl (lv_at hl 0 rfl) ?_
        refine lv_iload S.1 S.2.1 dX2_judge_63 (lv_at hl 2 rfl) ?_
        refine ck_i (run_V (As := [.int (nI p1)]) (rest := []) S hK hH (kX2_workPart D p1 rg hy nums facs P T Z (va_up pool n (M0.length, M0)) σ ⟨d0, d5, d6, d7, d8, ⟨_, d9⟩, ⟨_, dm⟩, hP, hT.raw, hZ, hpl⟩ (hi2.br hbr) c59) ceX2_workPart mW283 d0 rfl rfl hl.1 rfl (Nat.le_of_ble_eq_true rfl) dX2_judge_65 ⟨rfl, rfl, by decide, by decide⟩ ⟨show (0 + 4) + 0 ≤ 4 by omega, show (0 + 141) + 0 ≤ 141 by omega⟩) hH (fun r65 w7 n7 H locs hp hH => ?_)
        obtain ⟨hn1, hfr, P, Z, hbr, hd, hq4⟩ := hp
        rw [hn1] at hH
        replace hq4 : Hid _ := hq4
        replace hT := hT.kept (fun b h1 h2 => hfr b (Or.inr ⟨h1, h2⟩))
        obtain ⟨d0, d5, d6, d7, d8, ⟨bg, d9⟩, ⟨mf, dm⟩, hP, _, hZ, hpl⟩ := hd
        replace hF : ∀ b, (D + 23 ≤ b ∧ b < D + 36) → w7 b = w b := fun b hb => (hfr b (Or.inl hb)).trans (hF b hb)
        unfold BR at hbr
        refine lv_if_eq (tgt := 81) S.1 S.2.1 dX2_judge_68 (by decide) (fun c68 => ?_) (fun c68 => ?_)
        · skip
          rcases hq4 with ⟨e, _⟩ | ⟨_, e1⟩
          · rw [e] at c68; exact absurd c68 (by decide)
          refine lv_bipush (v := (-2)) S.1 S.2.1 dX2_judge_81 (by decide) ?_
          refine W.widen (k := 4) (n := 141) (by omega) (by omega) ?_
          exact rt_i S hr hlk hH dX2_judge_83 (⟨Or.inr rfl, hF, by rw [show_2 hth e0 (hw.trans (psum_none1 c59 e1))], _, _, _, _, P, T, Z, _, ⟨d0, d5, d6, d7, d8, ⟨_, d9⟩, ⟨_, dm⟩, hP, hT.raw, hZ, hpl⟩, hi2.br hbr⟩)
        · skip
          rcases hq4 with ⟨_, M, e1, okm, hPM⟩ | ⟨e, _⟩
          rotate_left
          · exact absurd e c68
          refine lv_aload_n S.1 S.2.1 dX2_judge_71 rfl (lv_at hl 0 rfl) ?_
          refine gfX2_38 S hK hH d0 dX2_judge_72 ?_
          refine ck_i (run_VN (As := []) (rest := []) S hK hH (kX0_addProduct (D + 9) (D + 22) P T Z acc M bg d9 hT hPM hZ oka okm (by omega) (by omega) (by omega) (by omega) (by omega)) ceX0_addProduct mN230 d9 rfl rfl hl.1 rfl (Nat.le_of_ble_eq_true rfl) dX2_judge_75 ⟨rfl, rfl, by decide, by decide⟩ ⟨show (0 + 4) + 0 ≤ 4 by omega, show (0 + 141) + 0 ≤ 141 by omega⟩) hH (fun r75 w8 n8 H locs hp hH => ?_)
          obtain ⟨hn1, hfr, ⟨⟨bg, d9⟩, hq5⟩⟩ := hp
          rw [hn1] at hH
          replace hq5 : Hid _ := hq5
          have hTr := hT.raw
          replace hTr := hTr.kept (fun b h1 h2 => hfr b (by omega))
          replace d0 := (hfr (D) (by omega)).trans d0
          replace d5 := (hfr (D + 5) (by omega)).trans d5
          replace d6 := (hfr (D + 6) (by omega)).trans d6
          replace d7 := (hfr (D + 7) (by omega)).trans d7
          replace d8 := (hfr (D + 8) (by omega)).trans d8
          replace dm := (hfr (D + 22) (by omega)).trans dm
          replace hP := hP.kept (fun b h1 h2 => hfr b (by omega))
          replace hpl := hpl.kept (fun b h1 h2 => hfr b (by omega))
          replace hPM := hPM.kept (fun b h1 h2 => hfr b (by omega))
          replace hF : ∀ b, D + 23 ≤ b ∧ b < D + 36 → w8 b = w b := fun b hb => (hfr b (by omega)).trans (hF b hb)
          refine lv_if_ne (tgt := 84) S.1 S.2.1 dX2_judge_78 (by decide) (fun c78 => ?_) (fun c78 => ?_)
          · skip
            rcases hq5 with ⟨_, A2, e2, hTM⟩ | ⟨e, _⟩
            rotate_left
            · exact absurd e c78
            have ok2 := padd_ok oka okm e2
            refine lv_iinc (v := nI (p1 + 1)) (lv' := [(4, .int (nI (p1 + 1))), (0, .ref (D)), (3, .ref (n))]) S.1 S.2.1 dX2_judge_84 hl (k := 2) rfl (nI_inc _ 1) (by decide) rfl (fun ls hl => ?_)
            refine lv_goto (tgt := 53) S.1 S.2.1 dX2_judge_87 (by decide) ?_
            exact ih53 _ _ _ _ (by omega) ⟨p1 + 1, A2, P, Z, T, _, _, w8, lv_sub hl [1, 2, 0] rfl, hH, d0, d5, d6, d7, d8, d9, dm, hPM.raw, hTM, hTr, hpl, hF, br_sx hbr, by omega, ok2, hw.trans (psum_some c59 e1 e2), rfl⟩
          · skip
            rcases hq5 with ⟨e, _⟩ | ⟨_, e2, hTM⟩
            · rw [e] at c78; exact absurd c78 (by decide)
            refine lv_bipush (v := (-2)) S.1 S.2.1 dX2_judge_81 (by decide) ?_
            refine W.widen (k := 4) (n := 141) (by omega) (by omega) ?_
            exact rt_i S hr hlk hH dX2_judge_83 (⟨Or.inr rfl, hF, by rw [show_2 hth e0 (hw.trans (psum_none2 c59 e1 e2))], _, _, _, _, P, Z, T, _, ⟨d0, d5, d6, d7, d8, ⟨_, d9⟩, ⟨_, dm⟩, hPM.raw, hTM, hTr, hpl⟩, hi2.br (br_sx hbr)⟩)
    · skip
      rcases hq3 with ⟨e, _⟩ | ⟨_, e0, hPM⟩
      · rw [e] at c26; exact absurd c26 (by decide)
      refine lv_bipush (v := (-2)) S.1 S.2.1 dX2_judge_29 (by decide) ?_
      refine W.widen (k := 4) (n := 141) (by omega) (by omega) ?_
      exact rt_i S hr hlk hH dX2_judge_31 (⟨Or.inl rfl, hF, by rw [show_1 hth e0], _, _, _, _, Z, T, P, _, ⟨d0, d5, d6, d7, d8, ⟨_, d9⟩, ⟨_, dm⟩, hPM, hT, hPr, hpl⟩, hi.br (br_sw hbr)⟩)
  · skip
    rcases hq1 with ⟨e, _⟩ | ⟨_, hth⟩
    · rw [e] at c4; exact absurd c4 (by decide)
    refine lv_iconst (v := nI 0) S.1 S.2.1 dX2_judge_7 (by decide) ?_
    refine W.widen (k := 4) (n := 141) (by omega) (by omega) ?_
    exact rt_i S hr hlk hH dX2_judge_8 (⟨Or.inl rfl, hF, by rw [show_no hth]; rfl, _, _, _, _, P, T, Z, _, ⟨d0, d5, d6, d7, d8, ⟨_, d9⟩, ⟨_, dm⟩, hP, hT, hZ, hpl⟩, hi⟩)
end
