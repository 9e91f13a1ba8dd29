section
-- ===== PART A: goes FIRST, ahead of the names: the tables' words, and 'selects' of the private methods out of them =====
/-- a private method of a class that the tables say can be made, by its rows of tables_1 -/
def lw_okq (q : MethodName × Nat) : Prop := (q.1.cls ≠ "java/lang/invoke/MethodHandle" ∧ q.1.cls ≠ "java/lang/invoke/VarHandle") ∧ Cond.instantiable q.1.cls q.2 ∈ tables_1 ∧ Cond.privateMethod q.1 ∈ tables_1 ∧ Cond.instanceMethod q.1 ∈ tables_1
theorem lw_p0 : lw_okq (⟨"ShelfShift", "hasShelf", "(I)Z"⟩, 7) := ⟨⟨by decide +kernel, by decide +kernel⟩, List.mem_of_getElem? (i := 16) (by decide +kernel), List.mem_of_getElem? (i := 251) (by decide +kernel), List.mem_of_getElem? (i := 252) (by decide +kernel)⟩
theorem lw_p1 : lw_okq (⟨"ShelfShift", "hasGroup", "(I)Z"⟩, 7) := ⟨⟨by decide +kernel, by decide +kernel⟩, List.mem_of_getElem? (i := 16) (by decide +kernel), List.mem_of_getElem? (i := 267) (by decide +kernel), List.mem_of_getElem? (i := 268) (by decide +kernel)⟩
theorem lw_p2 : lw_okq (⟨"ShelfShift$Books", "sumWith", "([II[I)I"⟩, 8) := ⟨⟨by decide +kernel, by decide +kernel⟩, List.mem_of_getElem? (i := 62) (by decide +kernel), List.mem_of_getElem? (i := 279) (by decide +kernel), List.mem_of_getElem? (i := 280) (by decide +kernel)⟩
theorem lw_p3 : lw_okq (⟨"ShelfShift$Books", "giveOneMore", "(I)I"⟩, 8) := ⟨⟨by decide +kernel, by decide +kernel⟩, List.mem_of_getElem? (i := 62) (by decide +kernel), List.mem_of_getElem? (i := 283) (by decide +kernel), List.mem_of_getElem? (i := 284) (by decide +kernel)⟩
theorem lw_p4 : lw_okq (⟨"ShelfShift$Cutter", "chooseMost", "(II)V"⟩, 12) := ⟨⟨by decide +kernel, by decide +kernel⟩, List.mem_of_getElem? (i := 107) (by decide +kernel), List.mem_of_getElem? (i := 311) (by decide +kernel), List.mem_of_getElem? (i := 312) (by decide +kernel)⟩
theorem lw_p5 : lw_okq (⟨"ShelfShift$Cutter", "priceOfMove", "(II)I"⟩, 12) := ⟨⟨by decide +kernel, by decide +kernel⟩, List.mem_of_getElem? (i := 107) (by decide +kernel), List.mem_of_getElem? (i := 316) (by decide +kernel), List.mem_of_getElem? (i := 317) (by decide +kernel)⟩
theorem lw_p6 : lw_okq (⟨"ShelfShift$Cutter", "follow", "()V"⟩, 12) := ⟨⟨by decide +kernel, by decide +kernel⟩, List.mem_of_getElem? (i := 107) (by decide +kernel), List.mem_of_getElem? (i := 320) (by decide +kernel), List.mem_of_getElem? (i := 321) (by decide +kernel)⟩
theorem lw_p7 : lw_okq (⟨"ShelfShift", "moveAtOnce", "()V"⟩, 7) := ⟨⟨by decide +kernel, by decide +kernel⟩, List.mem_of_getElem? (i := 16) (by decide +kernel), List.mem_of_getElem? (i := 328) (by decide +kernel), List.mem_of_getElem? (i := 329) (by decide +kernel)⟩
theorem lw_p8 : lw_okq (⟨"ShelfShift$Plan", "add", "(LShelfShift$Books;I)V"⟩, 8) := ⟨⟨by decide +kernel, by decide +kernel⟩, List.mem_of_getElem? (i := 154) (by decide +kernel), List.mem_of_getElem? (i := 338) (by decide +kernel), List.mem_of_getElem? (i := 339) (by decide +kernel)⟩
theorem lw_p9 : lw_okq (⟨"ShelfShift", "makeNextMove", "()I"⟩, 7) := ⟨⟨by decide +kernel, by decide +kernel⟩, List.mem_of_getElem? (i := 16) (by decide +kernel), List.mem_of_getElem? (i := 342) (by decide +kernel), List.mem_of_getElem? (i := 343) (by decide +kernel)⟩
theorem lw_p10 : lw_okq (⟨"ShelfShift$Books", "openGap", "([II)V"⟩, 8) := ⟨⟨by decide +kernel, by decide +kernel⟩, List.mem_of_getElem? (i := 62) (by decide +kernel), List.mem_of_getElem? (i := 369) (by decide +kernel), List.mem_of_getElem? (i := 370) (by decide +kernel)⟩
theorem lw_p11 : lw_okq (⟨"ShelfShift", "hasBook", "(I)Z"⟩, 7) := ⟨⟨by decide +kernel, by decide +kernel⟩, List.mem_of_getElem? (i := 16) (by decide +kernel), List.mem_of_getElem? (i := 378) (by decide +kernel), List.mem_of_getElem? (i := 379) (by decide +kernel)⟩
theorem lw_p12 : lw_okq (⟨"ShelfShift$Books", "closeGap", "([II)V"⟩, 8) := ⟨⟨by decide +kernel, by decide +kernel⟩, List.mem_of_getElem? (i := 62) (by decide +kernel), List.mem_of_getElem? (i := 386) (by decide +kernel), List.mem_of_getElem? (i := 387) (by decide +kernel)⟩
theorem lw_p13 : lw_okq (⟨"ShelfShift$Books", "countWith", "([II)I"⟩, 8) := ⟨⟨by decide +kernel, by decide +kernel⟩, List.mem_of_getElem? (i := 62) (by decide +kernel), List.mem_of_getElem? (i := 418) (by decide +kernel), List.mem_of_getElem? (i := 419) (by decide +kernel)⟩
theorem lw_p14 : lw_okq (⟨"ShelfShift", "yearsOn", "(I)I"⟩, 7) := ⟨⟨by decide +kernel, by decide +kernel⟩, List.mem_of_getElem? (i := 16) (by decide +kernel), List.mem_of_getElem? (i := 422) (by decide +kernel), List.mem_of_getElem? (i := 423) (by decide +kernel)⟩
theorem lw_p15 : lw_okq (⟨"ShelfShift", "roomOn", "(I)I"⟩, 7) := ⟨⟨by decide +kernel, by decide +kernel⟩, List.mem_of_getElem? (i := 16) (by decide +kernel), List.mem_of_getElem? (i := 430) (by decide +kernel), List.mem_of_getElem? (i := 431) (by decide +kernel)⟩
def lw_privs_1 : List (MethodName × Nat) := [(⟨"ShelfShift", "hasShelf", "(I)Z"⟩, 7), (⟨"ShelfShift", "hasGroup", "(I)Z"⟩, 7), (⟨"ShelfShift$Books", "sumWith", "([II[I)I"⟩, 8), (⟨"ShelfShift$Books", "giveOneMore", "(I)I"⟩, 8), (⟨"ShelfShift$Cutter", "chooseMost", "(II)V"⟩, 12), (⟨"ShelfShift$Cutter", "priceOfMove", "(II)I"⟩, 12), (⟨"ShelfShift$Cutter", "follow", "()V"⟩, 12), (⟨"ShelfShift", "moveAtOnce", "()V"⟩, 7), (⟨"ShelfShift$Plan", "add", "(LShelfShift$Books;I)V"⟩, 8), (⟨"ShelfShift", "makeNextMove", "()I"⟩, 7), (⟨"ShelfShift$Books", "openGap", "([II)V"⟩, 8), (⟨"ShelfShift", "hasBook", "(I)Z"⟩, 7), (⟨"ShelfShift$Books", "closeGap", "([II)V"⟩, 8), (⟨"ShelfShift$Books", "countWith", "([II)I"⟩, 8), (⟨"ShelfShift", "yearsOn", "(I)I"⟩, 7), (⟨"ShelfShift", "roomOn", "(I)I"⟩, 7)]
theorem lw_r1 : ∀ q ∈ lw_privs_1, lw_okq q := List.forall_mem_cons.mpr ⟨lw_p0, List.forall_mem_cons.mpr ⟨lw_p1, List.forall_mem_cons.mpr ⟨lw_p2, List.forall_mem_cons.mpr ⟨lw_p3, List.forall_mem_cons.mpr ⟨lw_p4, List.forall_mem_cons.mpr ⟨lw_p5, List.forall_mem_cons.mpr ⟨lw_p6, List.forall_mem_cons.mpr ⟨lw_p7, List.forall_mem_cons.mpr ⟨lw_p8, List.forall_mem_cons.mpr ⟨lw_p9, List.forall_mem_cons.mpr ⟨lw_p10, List.forall_mem_cons.mpr ⟨lw_p11, List.forall_mem_cons.mpr ⟨lw_p12, List.forall_mem_cons.mpr ⟨lw_p13, List.forall_mem_cons.mpr ⟨lw_p14, List.forall_mem_cons.mpr ⟨lw_p15, fun _ h => absurd h List.not_mem_nil⟩⟩⟩⟩⟩⟩⟩⟩⟩⟩⟩⟩⟩⟩⟩⟩
theorem lw_p16 : lw_okq (⟨"ShelfShift", "hasCuts", "(I)Z"⟩, 7) := ⟨⟨by decide +kernel, by decide +kernel⟩, List.mem_of_getElem? (i := 16) (by decide +kernel), List.mem_of_getElem? (i := 443) (by decide +kernel), List.mem_of_getElem? (i := 444) (by decide +kernel)⟩
theorem lw_p17 : lw_okq (⟨"ShelfShift", "isRoomFor", "(II)Z"⟩, 7) := ⟨⟨by decide +kernel, by decide +kernel⟩, List.mem_of_getElem? (i := 16) (by decide +kernel), List.mem_of_getElem? (i := 459) (by decide +kernel), List.mem_of_getElem? (i := 460) (by decide +kernel)⟩
theorem lw_p18 : lw_okq (⟨"ShelfShift$Cutter", "fill", "(II)I"⟩, 12) := ⟨⟨by decide +kernel, by decide +kernel⟩, List.mem_of_getElem? (i := 107) (by decide +kernel), List.mem_of_getElem? (i := 467) (by decide +kernel), List.mem_of_getElem? (i := 468) (by decide +kernel)⟩
theorem lw_p19 : lw_okq (⟨"java/lang/Throwable", "fillInStackTrace", "(I)Ljava/lang/Throwable;"⟩, 6) := ⟨⟨by decide +kernel, by decide +kernel⟩, List.mem_of_getElem? (i := 584) (by decide +kernel), List.mem_of_getElem? (i := 582) (by decide +kernel), List.mem_of_getElem? (i := 583) (by decide +kernel)⟩
theorem lw_p20 : lw_okq (⟨"ShelfShift$Books", "firstWith", "([II)I"⟩, 8) := ⟨⟨by decide +kernel, by decide +kernel⟩, List.mem_of_getElem? (i := 62) (by decide +kernel), List.mem_of_getElem? (i := 618) (by decide +kernel), List.mem_of_getElem? (i := 619) (by decide +kernel)⟩
theorem lw_p21 : lw_okq (⟨"ShelfShiftModel", "isShelf", "(I)Z"⟩, 29) := ⟨⟨by decide +kernel, by decide +kernel⟩, List.mem_of_getElem? (i := 656) (by decide +kernel), List.mem_of_getElem? (i := 765) (by decide +kernel), List.mem_of_getElem? (i := 766) (by decide +kernel)⟩
theorem lw_p22 : lw_okq (⟨"ShelfShiftModel", "cuts", "(I)Z"⟩, 29) := ⟨⟨by decide +kernel, by decide +kernel⟩, List.mem_of_getElem? (i := 656) (by decide +kernel), List.mem_of_getElem? (i := 772) (by decide +kernel), List.mem_of_getElem? (i := 773) (by decide +kernel)⟩
theorem lw_p23 : lw_okq (⟨"ShelfShiftModel", "laysNeeds", "()V"⟩, 29) := ⟨⟨by decide +kernel, by decide +kernel⟩, List.mem_of_getElem? (i := 656) (by decide +kernel), List.mem_of_getElem? (i := 776) (by decide +kernel), List.mem_of_getElem? (i := 777) (by decide +kernel)⟩
theorem lw_p24 : lw_okq (⟨"ShelfShiftModel", "widthOf", "(I)I"⟩, 29) := ⟨⟨by decide +kernel, by decide +kernel⟩, List.mem_of_getElem? (i := 656) (by decide +kernel), List.mem_of_getElem? (i := 780) (by decide +kernel), List.mem_of_getElem? (i := 781) (by decide +kernel)⟩
theorem lw_p25 : lw_okq (⟨"ShelfShiftModel", "cell", "(II)I"⟩, 29) := ⟨⟨by decide +kernel, by decide +kernel⟩, List.mem_of_getElem? (i := 656) (by decide +kernel), List.mem_of_getElem? (i := 784) (by decide +kernel), List.mem_of_getElem? (i := 785) (by decide +kernel)⟩
theorem lw_p26 : lw_okq (⟨"ShelfShiftModel", "laysLeast", "(II)V"⟩, 29) := ⟨⟨by decide +kernel, by decide +kernel⟩, List.mem_of_getElem? (i := 656) (by decide +kernel), List.mem_of_getElem? (i := 789) (by decide +kernel), List.mem_of_getElem? (i := 790) (by decide +kernel)⟩
theorem lw_p27 : lw_okq (⟨"ShelfShiftModel", "mostOn", "(II)I"⟩, 29) := ⟨⟨by decide +kernel, by decide +kernel⟩, List.mem_of_getElem? (i := 656) (by decide +kernel), List.mem_of_getElem? (i := 793) (by decide +kernel), List.mem_of_getElem? (i := 794) (by decide +kernel)⟩
theorem lw_p28 : lw_okq (⟨"ShelfShiftModel", "costOf", "(III)I"⟩, 29) := ⟨⟨by decide +kernel, by decide +kernel⟩, List.mem_of_getElem? (i := 656) (by decide +kernel), List.mem_of_getElem? (i := 797) (by decide +kernel), List.mem_of_getElem? (i := 798) (by decide +kernel)⟩
theorem lw_p29 : lw_okq (⟨"ShelfShiftModel", "fits", "(IZ)Z"⟩, 29) := ⟨⟨by decide +kernel, by decide +kernel⟩, List.mem_of_getElem? (i := 656) (by decide +kernel), List.mem_of_getElem? (i := 810) (by decide +kernel), List.mem_of_getElem? (i := 811) (by decide +kernel)⟩
theorem lw_p30 : lw_okq (⟨"ShelfShiftModel", "isGroup", "(I)Z"⟩, 29) := ⟨⟨by decide +kernel, by decide +kernel⟩, List.mem_of_getElem? (i := 656) (by decide +kernel), List.mem_of_getElem? (i := 822) (by decide +kernel), List.mem_of_getElem? (i := 823) (by decide +kernel)⟩
theorem lw_p31 : lw_okq (⟨"ShelfShiftModel", "behind", "(I)I"⟩, 29) := ⟨⟨by decide +kernel, by decide +kernel⟩, List.mem_of_getElem? (i := 656) (by decide +kernel), List.mem_of_getElem? (i := 826) (by decide +kernel), List.mem_of_getElem? (i := 827) (by decide +kernel)⟩
def lw_privs_2 : List (MethodName × Nat) := [(⟨"ShelfShift", "hasCuts", "(I)Z"⟩, 7), (⟨"ShelfShift", "isRoomFor", "(II)Z"⟩, 7), (⟨"ShelfShift$Cutter", "fill", "(II)I"⟩, 12), (⟨"java/lang/Throwable", "fillInStackTrace", "(I)Ljava/lang/Throwable;"⟩, 6), (⟨"ShelfShift$Books", "firstWith", "([II)I"⟩, 8), (⟨"ShelfShiftModel", "isShelf", "(I)Z"⟩, 29), (⟨"ShelfShiftModel", "cuts", "(I)Z"⟩, 29), (⟨"ShelfShiftModel", "laysNeeds", "()V"⟩, 29), (⟨"ShelfShiftModel", "widthOf", "(I)I"⟩, 29), (⟨"ShelfShiftModel", "cell", "(II)I"⟩, 29), (⟨"ShelfShiftModel", "laysLeast", "(II)V"⟩, 29), (⟨"ShelfShiftModel", "mostOn", "(II)I"⟩, 29), (⟨"ShelfShiftModel", "costOf", "(III)I"⟩, 29), (⟨"ShelfShiftModel", "fits", "(IZ)Z"⟩, 29), (⟨"ShelfShiftModel", "isGroup", "(I)Z"⟩, 29), (⟨"ShelfShiftModel", "behind", "(I)I"⟩, 29)]
theorem lw_r2 : ∀ q ∈ lw_privs_2, lw_okq q := List.forall_mem_cons.mpr ⟨lw_p16, List.forall_mem_cons.mpr ⟨lw_p17, List.forall_mem_cons.mpr ⟨lw_p18, List.forall_mem_cons.mpr ⟨lw_p19, List.forall_mem_cons.mpr ⟨lw_p20, List.forall_mem_cons.mpr ⟨lw_p21, List.forall_mem_cons.mpr ⟨lw_p22, List.forall_mem_cons.mpr ⟨lw_p23, List.forall_mem_cons.mpr ⟨lw_p24, List.forall_mem_cons.mpr ⟨lw_p25, List.forall_mem_cons.mpr ⟨lw_p26, List.forall_mem_cons.mpr ⟨lw_p27, List.forall_mem_cons.mpr ⟨lw_p28, List.forall_mem_cons.mpr ⟨lw_p29, List.forall_mem_cons.mpr ⟨lw_p30, List.forall_mem_cons.mpr ⟨lw_p31, fun _ h => absurd h List.not_mem_nil⟩⟩⟩⟩⟩⟩⟩⟩⟩⟩⟩⟩⟩⟩⟩⟩
theorem lw_p32 : lw_okq (⟨"ShelfShiftModel", "comes", "(III)V"⟩, 29) := ⟨⟨by decide +kernel, by decide +kernel⟩, List.mem_of_getElem? (i := 656) (by decide +kernel), List.mem_of_getElem? (i := 830) (by decide +kernel), List.mem_of_getElem? (i := 831) (by decide +kernel)⟩
theorem lw_p33 : lw_okq (⟨"ShelfShiftModel", "opens", "(I)V"⟩, 29) := ⟨⟨by decide +kernel, by decide +kernel⟩, List.mem_of_getElem? (i := 656) (by decide +kernel), List.mem_of_getElem? (i := 834) (by decide +kernel), List.mem_of_getElem? (i := 835) (by decide +kernel)⟩
theorem lw_p34 : lw_okq (⟨"ShelfShiftModel", "closes", "(I)V"⟩, 29) := ⟨⟨by decide +kernel, by decide +kernel⟩, List.mem_of_getElem? (i := 656) (by decide +kernel), List.mem_of_getElem? (i := 838) (by decide +kernel), List.mem_of_getElem? (i := 839) (by decide +kernel)⟩
theorem lw_p35 : lw_okq (⟨"ShelfShiftModel", "laysGoals", "()V"⟩, 29) := ⟨⟨by decide +kernel, by decide +kernel⟩, List.mem_of_getElem? (i := 656) (by decide +kernel), List.mem_of_getElem? (i := 842) (by decide +kernel), List.mem_of_getElem? (i := 843) (by decide +kernel)⟩
theorem lw_p36 : lw_okq (⟨"ShelfShiftModel", "ends", "()V"⟩, 29) := ⟨⟨by decide +kernel, by decide +kernel⟩, List.mem_of_getElem? (i := 656) (by decide +kernel), List.mem_of_getElem? (i := 846) (by decide +kernel), List.mem_of_getElem? (i := 847) (by decide +kernel)⟩
theorem lw_p37 : lw_okq (⟨"ShelfShiftModel", "moves", "(II)V"⟩, 29) := ⟨⟨by decide +kernel, by decide +kernel⟩, List.mem_of_getElem? (i := 656) (by decide +kernel), List.mem_of_getElem? (i := 850) (by decide +kernel), List.mem_of_getElem? (i := 851) (by decide +kernel)⟩
theorem lw_p38 : lw_okq (⟨"ShelfShiftModel", "notes", "(IIII)V"⟩, 29) := ⟨⟨by decide +kernel, by decide +kernel⟩, List.mem_of_getElem? (i := 656) (by decide +kernel), List.mem_of_getElem? (i := 854) (by decide +kernel), List.mem_of_getElem? (i := 855) (by decide +kernel)⟩
theorem lw_p39 : lw_okq (⟨"ShelfShiftModel", "isBook", "(I)Z"⟩, 29) := ⟨⟨by decide +kernel, by decide +kernel⟩, List.mem_of_getElem? (i := 656) (by decide +kernel), List.mem_of_getElem? (i := 862) (by decide +kernel), List.mem_of_getElem? (i := 863) (by decide +kernel)⟩
theorem lw_p40 : lw_okq (⟨"ShelfShiftModel", "plans", "(I)V"⟩, 29) := ⟨⟨by decide +kernel, by decide +kernel⟩, List.mem_of_getElem? (i := 656) (by decide +kernel), List.mem_of_getElem? (i := 874) (by decide +kernel), List.mem_of_getElem? (i := 875) (by decide +kernel)⟩
theorem lw_p41 : lw_okq (⟨"ShelfShiftModel", "goesOn", "()I"⟩, 29) := ⟨⟨by decide +kernel, by decide +kernel⟩, List.mem_of_getElem? (i := 656) (by decide +kernel), List.mem_of_getElem? (i := 886) (by decide +kernel), List.mem_of_getElem? (i := 887) (by decide +kernel)⟩
theorem lw_p42 : lw_okq (⟨"ShelfShiftModel", "dayOf", "(III)I"⟩, 29) := ⟨⟨by decide +kernel, by decide +kernel⟩, List.mem_of_getElem? (i := 656) (by decide +kernel), List.mem_of_getElem? (i := 898) (by decide +kernel), List.mem_of_getElem? (i := 899) (by decide +kernel)⟩
theorem lw_p43 : lw_okq (⟨"ShelfShiftModel", "tripOf", "(II)I"⟩, 29) := ⟨⟨by decide +kernel, by decide +kernel⟩, List.mem_of_getElem? (i := 656) (by decide +kernel), List.mem_of_getElem? (i := 902) (by decide +kernel), List.mem_of_getElem? (i := 903) (by decide +kernel)⟩
theorem lw_p44 : lw_okq (⟨"ShelfShiftModel", "taken", "(I)I"⟩, 29) := ⟨⟨by decide +kernel, by decide +kernel⟩, List.mem_of_getElem? (i := 656) (by decide +kernel), List.mem_of_getElem? (i := 906) (by decide +kernel), List.mem_of_getElem? (i := 907) (by decide +kernel)⟩
theorem lw_p45 : lw_okq (⟨"ShelfShiftModel", "leftWidths", "()I"⟩, 29) := ⟨⟨by decide +kernel, by decide +kernel⟩, List.mem_of_getElem? (i := 656) (by decide +kernel), List.mem_of_getElem? (i := 914) (by decide +kernel), List.mem_of_getElem? (i := 915) (by decide +kernel)⟩
theorem lw_p46 : lw_okq (⟨"ShelfShiftModel", "leftRight", "()I"⟩, 29) := ⟨⟨by decide +kernel, by decide +kernel⟩, List.mem_of_getElem? (i := 656) (by decide +kernel), List.mem_of_getElem? (i := 918) (by decide +kernel), List.mem_of_getElem? (i := 919) (by decide +kernel)⟩
theorem lw_p47 : lw_okq (⟨"ShelfShiftModel", "allWidths", "()I"⟩, 29) := ⟨⟨by decide +kernel, by decide +kernel⟩, List.mem_of_getElem? (i := 656) (by decide +kernel), List.mem_of_getElem? (i := 950) (by decide +kernel), List.mem_of_getElem? (i := 951) (by decide +kernel)⟩
def lw_privs_3 : List (MethodName × Nat) := [(⟨"ShelfShiftModel", "comes", "(III)V"⟩, 29), (⟨"ShelfShiftModel", "opens", "(I)V"⟩, 29), (⟨"ShelfShiftModel", "closes", "(I)V"⟩, 29), (⟨"ShelfShiftModel", "laysGoals", "()V"⟩, 29), (⟨"ShelfShiftModel", "ends", "()V"⟩, 29), (⟨"ShelfShiftModel", "moves", "(II)V"⟩, 29), (⟨"ShelfShiftModel", "notes", "(IIII)V"⟩, 29), (⟨"ShelfShiftModel", "isBook", "(I)Z"⟩, 29), (⟨"ShelfShiftModel", "plans", "(I)V"⟩, 29), (⟨"ShelfShiftModel", "goesOn", "()I"⟩, 29), (⟨"ShelfShiftModel", "dayOf", "(III)I"⟩, 29), (⟨"ShelfShiftModel", "tripOf", "(II)I"⟩, 29), (⟨"ShelfShiftModel", "taken", "(I)I"⟩, 29), (⟨"ShelfShiftModel", "leftWidths", "()I"⟩, 29), (⟨"ShelfShiftModel", "leftRight", "()I"⟩, 29), (⟨"ShelfShiftModel", "allWidths", "()I"⟩, 29)]
theorem lw_r3 : ∀ q ∈ lw_privs_3, lw_okq q := List.forall_mem_cons.mpr ⟨lw_p32, List.forall_mem_cons.mpr ⟨lw_p33, List.forall_mem_cons.mpr ⟨lw_p34, List.forall_mem_cons.mpr ⟨lw_p35, List.forall_mem_cons.mpr ⟨lw_p36, List.forall_mem_cons.mpr ⟨lw_p37, List.forall_mem_cons.mpr ⟨lw_p38, List.forall_mem_cons.mpr ⟨lw_p39, List.forall_mem_cons.mpr ⟨lw_p40, List.forall_mem_cons.mpr ⟨lw_p41, List.forall_mem_cons.mpr ⟨lw_p42, List.forall_mem_cons.mpr ⟨lw_p43, List.forall_mem_cons.mpr ⟨lw_p44, List.forall_mem_cons.mpr ⟨lw_p45, List.forall_mem_cons.mpr ⟨lw_p46, List.forall_mem_cons.mpr ⟨lw_p47, fun _ h => absurd h List.not_mem_nil⟩⟩⟩⟩⟩⟩⟩⟩⟩⟩⟩⟩⟩⟩⟩⟩
theorem lw_p48 : lw_okq (⟨"ShelfShiftModel", "openLengths", "()I"⟩, 29) := ⟨⟨by decide +kernel, by decide +kernel⟩, List.mem_of_getElem? (i := 656) (by decide +kernel), List.mem_of_getElem? (i := 954) (by decide +kernel), List.mem_of_getElem? (i := 955) (by decide +kernel)⟩
theorem lw_p49 : lw_okq (⟨"ShelfShiftModel", "loadOf", "(I)I"⟩, 29) := ⟨⟨by decide +kernel, by decide +kernel⟩, List.mem_of_getElem? (i := 656) (by decide +kernel), List.mem_of_getElem? (i := 962) (by decide +kernel), List.mem_of_getElem? (i := 963) (by decide +kernel)⟩
theorem lw_p50 : lw_okq (⟨"ShelfShiftModel", "rateOf", "(I)I"⟩, 29) := ⟨⟨by decide +kernel, by decide +kernel⟩, List.mem_of_getElem? (i := 656) (by decide +kernel), List.mem_of_getElem? (i := 966) (by decide +kernel), List.mem_of_getElem? (i := 967) (by decide +kernel)⟩
theorem lw_p51 : lw_okq (⟨"ShelfShiftModel", "lastsOf", "(I)I"⟩, 29) := ⟨⟨by decide +kernel, by decide +kernel⟩, List.mem_of_getElem? (i := 656) (by decide +kernel), List.mem_of_getElem? (i := 970) (by decide +kernel), List.mem_of_getElem? (i := 971) (by decide +kernel)⟩
theorem lw_p52 : lw_okq (⟨"ShelfShiftModel", "firstOn", "(I)I"⟩, 29) := ⟨⟨by decide +kernel, by decide +kernel⟩, List.mem_of_getElem? (i := 656) (by decide +kernel), List.mem_of_getElem? (i := 974) (by decide +kernel), List.mem_of_getElem? (i := 975) (by decide +kernel)⟩
theorem lw_p53 : lw_okq (⟨"ShelfShiftModel", "manyOn", "(I)I"⟩, 29) := ⟨⟨by decide +kernel, by decide +kernel⟩, List.mem_of_getElem? (i := 656) (by decide +kernel), List.mem_of_getElem? (i := 978) (by decide +kernel), List.mem_of_getElem? (i := 979) (by decide +kernel)⟩
theorem lw_p54 : lw_okq (⟨"ShelfShiftModel", "booksOf", "(I)I"⟩, 29) := ⟨⟨by decide +kernel, by decide +kernel⟩, List.mem_of_getElem? (i := 656) (by decide +kernel), List.mem_of_getElem? (i := 986) (by decide +kernel), List.mem_of_getElem? (i := 987) (by decide +kernel)⟩
theorem lw_p55 : lw_okq (⟨"ShelfShiftModel", "firstOf", "(I)I"⟩, 29) := ⟨⟨by decide +kernel, by decide +kernel⟩, List.mem_of_getElem? (i := 656) (by decide +kernel), List.mem_of_getElem? (i := 990) (by decide +kernel), List.mem_of_getElem? (i := 991) (by decide +kernel)⟩
theorem lw_p56 : lw_okq (⟨"ShelfShiftModel", "shelvesOf", "(I)I"⟩, 29) := ⟨⟨by decide +kernel, by decide +kernel⟩, List.mem_of_getElem? (i := 656) (by decide +kernel), List.mem_of_getElem? (i := 994) (by decide +kernel), List.mem_of_getElem? (i := 995) (by decide +kernel)⟩
theorem lw_p57 : lw_okq (⟨"ShelfShiftModel", "needOf", "(I)I"⟩, 29) := ⟨⟨by decide +kernel, by decide +kernel⟩, List.mem_of_getElem? (i := 656) (by decide +kernel), List.mem_of_getElem? (i := 1002) (by decide +kernel), List.mem_of_getElem? (i := 1003) (by decide +kernel)⟩
theorem lw_p58 : lw_okq (⟨"ShelfShiftModel", "ahead", "(I)I"⟩, 29) := ⟨⟨by decide +kernel, by decide +kernel⟩, List.mem_of_getElem? (i := 656) (by decide +kernel), List.mem_of_getElem? (i := 1006) (by decide +kernel), List.mem_of_getElem? (i := 1007) (by decide +kernel)⟩
def lw_privs_4 : List (MethodName × Nat) := [(⟨"ShelfShiftModel", "openLengths", "()I"⟩, 29), (⟨"ShelfShiftModel", "loadOf", "(I)I"⟩, 29), (⟨"ShelfShiftModel", "rateOf", "(I)I"⟩, 29), (⟨"ShelfShiftModel", "lastsOf", "(I)I"⟩, 29), (⟨"ShelfShiftModel", "firstOn", "(I)I"⟩, 29), (⟨"ShelfShiftModel", "manyOn", "(I)I"⟩, 29), (⟨"ShelfShiftModel", "booksOf", "(I)I"⟩, 29), (⟨"ShelfShiftModel", "firstOf", "(I)I"⟩, 29), (⟨"ShelfShiftModel", "shelvesOf", "(I)I"⟩, 29), (⟨"ShelfShiftModel", "needOf", "(I)I"⟩, 29), (⟨"ShelfShiftModel", "ahead", "(I)I"⟩, 29)]
theorem lw_r4 : ∀ q ∈ lw_privs_4, lw_okq q := List.forall_mem_cons.mpr ⟨lw_p48, List.forall_mem_cons.mpr ⟨lw_p49, List.forall_mem_cons.mpr ⟨lw_p50, List.forall_mem_cons.mpr ⟨lw_p51, List.forall_mem_cons.mpr ⟨lw_p52, List.forall_mem_cons.mpr ⟨lw_p53, List.forall_mem_cons.mpr ⟨lw_p54, List.forall_mem_cons.mpr ⟨lw_p55, List.forall_mem_cons.mpr ⟨lw_p56, List.forall_mem_cons.mpr ⟨lw_p57, List.forall_mem_cons.mpr ⟨lw_p58, fun _ h => absurd h List.not_mem_nil⟩⟩⟩⟩⟩⟩⟩⟩⟩⟩⟩
def lw_privs : List (MethodName × Nat) := lw_privs_1 ++ (lw_privs_2 ++ (lw_privs_3 ++ (lw_privs_4)))
def lw_tbl : List Cond := k2_sels lw_privs ++ tables_1
theorem lw_privs_ok : ∀ q ∈ lw_privs, lw_okq q := by
  show ∀ q ∈ lw_privs_1 ++ (lw_privs_2 ++ (lw_privs_3 ++ (lw_privs_4))), lw_okq q
  exact List.forall_mem_append.mpr ⟨lw_r1, List.forall_mem_append.mpr ⟨lw_r2, List.forall_mem_append.mpr ⟨lw_r3, lw_r4⟩⟩⟩
def RX0 : String := "ShelfShift$Books"
def TX0 : u_T := fun k => match k with
  | 0 => ("ShelfShift$Books", "group", "[I", true)
  | 1 => ("ShelfShift$Books", "width", "[I", true)
  | 2 => ("ShelfShift$Books", "need", "[I", true)
  | 3 => ("ShelfShift$Books", "shelf", "[I", true)
  | 4 => ("ShelfShift$Books", "handled", "[I", true)
  | 5 => ("ShelfShift$Books", "lost", "[I", true)
  | 6 => ("ShelfShift$Books", "count", "I", false)
  | _ => ("ShelfShift$Books", "handledInAll", "I", false)
def tyX0 : Nat → FieldType := fun k => match k with
  | 0 => .array .int
  | 1 => .array .int
  | 2 => .array .int
  | 3 => .array .int
  | 4 => .array .int
  | 5 => .array .int
  | 6 => .int
  | _ => .int
abbrev wsX00 : List Cond := u_ws RX0 TX0 8
theorem nmX0 : ∀ a, a < 8 → ∀ b, b < 8 → a ≠ b → (TX0 a).2.1 ≠ (TX0 b).2.1 := by decide +kernel
theorem tyX0_ok : ∀ k, k < 8 → parseFieldDescriptor (TX0 k).2.2.1 = some (tyX0 k) := by decide +kernel
abbrev cX0_init : ByteArray := prog_2_method_1_code
def yX0_init : MethodName := ⟨RX0, "<init>", "()V"⟩
abbrev cX0_numberBehind : ByteArray := prog_2_method_2_code
def yX0_numberBehind : MethodName := ⟨RX0, "numberBehind", "(I)I"⟩
abbrev cX0_insert : ByteArray := prog_2_method_3_code
def yX0_insert : MethodName := ⟨RX0, "insert", "(IIII)V"⟩
abbrev cX0_openGap : ByteArray := prog_2_method_4_code
def yX0_openGap : MethodName := ⟨RX0, "openGap", "([II)V"⟩
abbrev cX0_remove : ByteArray := prog_2_method_5_code
def yX0_remove : MethodName := ⟨RX0, "remove", "(I)V"⟩
abbrev cX0_closeGap : ByteArray := prog_2_method_6_code
def yX0_closeGap : MethodName := ⟨RX0, "closeGap", "([II)V"⟩
abbrev cX0_carry : ByteArray := prog_2_method_7_code
def yX0_carry : MethodName := ⟨RX0, "carry", "(II)V"⟩
abbrev cX0_shareGrowth : ByteArray := prog_2_method_8_code
def yX0_shareGrowth : MethodName := ⟨RX0, "shareGrowth", "(II)V"⟩
abbrev cX0_giveOneMore : ByteArray := prog_2_method_9_code
def yX0_giveOneMore : MethodName := ⟨RX0, "giveOneMore", "(I)I"⟩
abbrev cX0_allWidths : ByteArray := prog_2_method_10_code
def yX0_allWidths : MethodName := ⟨RX0, "allWidths", "()I"⟩
abbrev cX0_loadOn : ByteArray := prog_2_method_11_code
def yX0_loadOn : MethodName := ⟨RX0, "loadOn", "(I)I"⟩
abbrev cX0_rateOn : ByteArray := prog_2_method_12_code
def yX0_rateOn : MethodName := ⟨RX0, "rateOn", "(I)I"⟩
abbrev cX0_firstOn : ByteArray := prog_2_method_13_code
def yX0_firstOn : MethodName := ⟨RX0, "firstOn", "(I)I"⟩
abbrev cX0_countOn : ByteArray := prog_2_method_14_code
def yX0_countOn : MethodName := ⟨RX0, "countOn", "(I)I"⟩
abbrev cX0_firstIn : ByteArray := prog_2_method_15_code
def yX0_firstIn : MethodName := ⟨RX0, "firstIn", "(I)I"⟩
abbrev cX0_countIn : ByteArray := prog_2_method_16_code
def yX0_countIn : MethodName := ⟨RX0, "countIn", "(I)I"⟩
abbrev cX0_widthsIn : ByteArray := prog_2_method_17_code
def yX0_widthsIn : MethodName := ⟨RX0, "widthsIn", "(I)I"⟩
abbrev cX0_firstWith : ByteArray := prog_2_method_18_code
def yX0_firstWith : MethodName := ⟨RX0, "firstWith", "([II)I"⟩
abbrev cX0_sumWith : ByteArray := prog_2_method_19_code
def yX0_sumWith : MethodName := ⟨RX0, "sumWith", "([II[I)I"⟩
abbrev cX0_countWith : ByteArray := prog_2_method_20_code
def yX0_countWith : MethodName := ⟨RX0, "countWith", "([II)I"⟩
abbrev cX0_shelvesOf : ByteArray := prog_2_method_21_code
def yX0_shelvesOf : MethodName := ⟨RX0, "shelvesOf", "(I)I"⟩
abbrev cX0_widthsAheadOf : ByteArray := prog_2_method_22_code
def yX0_widthsAheadOf : MethodName := ⟨RX0, "widthsAheadOf", "(I)I"⟩
def RX1 : String := "ShelfShift$Cutter"
def TX1 : u_T := fun k => match k with
  | 0 => ("ShelfShift$Cutter", "goes", "[I", true)
  | 1 => ("ShelfShift$Cutter", "taken", "[I", true)
  | 2 => ("ShelfShift$Cutter", "length", "[I", true)
  | 3 => ("ShelfShift$Cutter", "kind", "[I", true)
  | 4 => ("ShelfShift$Cutter", "width", "[I", true)
  | 5 => ("ShelfShift$Cutter", "span", "[I", true)
  | 6 => ("ShelfShift$Cutter", "stands", "[I", true)
  | 7 => ("ShelfShift$Cutter", "least", "[[I", true)
  | 8 => ("ShelfShift$Cutter", "most", "[[I", true)
  | 9 => ("ShelfShift$Cutter", "shelfCount", "I", false)
  | 10 => ("ShelfShift$Cutter", "count", "I", false)
  | _ => ("ShelfShift$Cutter", "leastPrice", "I", false)
def tyX1 : Nat → FieldType := fun k => match k with
  | 0 => .array .int
  | 1 => .array .int
  | 2 => .array .int
  | 3 => .array .int
  | 4 => .array .int
  | 5 => .array .int
  | 6 => .array .int
  | 7 => .array (.array .int)
  | 8 => .array (.array .int)
  | 9 => .int
  | 10 => .int
  | _ => .int
abbrev wsX10 : List Cond := u_ws RX1 TX1 12
theorem nmX1 : ∀ a, a < 12 → ∀ b, b < 12 → a ≠ b → (TX1 a).2.1 ≠ (TX1 b).2.1 := by decide +kernel
theorem tyX1_ok : ∀ k, k < 12 → parseFieldDescriptor (TX1 k).2.2.1 = some (tyX1 k) := by decide +kernel
abbrev cX1_init : ByteArray := prog_3_method_1_code
def yX1_init : MethodName := ⟨RX1, "<init>", "()V"⟩
abbrev cX1_load : ByteArray := prog_3_method_2_code
def yX1_load : MethodName := ⟨RX1, "load", "(LShelfShift$Shelves;LShelfShift$Books;I)V"⟩
abbrev cX1_insert : ByteArray := prog_3_method_3_code
def yX1_insert : MethodName := ⟨RX1, "insert", "(II)V"⟩
abbrev cX1_forget : ByteArray := prog_3_method_4_code
def yX1_forget : MethodName := ⟨RX1, "forget", "(I)V"⟩
abbrev cX1_shelvesFilled : ByteArray := prog_3_method_5_code
def yX1_shelvesFilled : MethodName := ⟨RX1, "shelvesFilled", "(I)I"⟩
abbrev cX1_fill : ByteArray := prog_3_method_6_code
def yX1_fill : MethodName := ⟨RX1, "fill", "(II)I"⟩
abbrev cX1_findCuts : ByteArray := prog_3_method_7_code
def yX1_findCuts : MethodName := ⟨RX1, "findCuts", "()Z"⟩
abbrev cX1_chooseMost : ByteArray := prog_3_method_8_code
def yX1_chooseMost : MethodName := ⟨RX1, "chooseMost", "(II)V"⟩
abbrev cX1_priceOfMove : ByteArray := prog_3_method_9_code
def yX1_priceOfMove : MethodName := ⟨RX1, "priceOfMove", "(II)I"⟩
abbrev cX1_follow : ByteArray := prog_3_method_10_code
def yX1_follow : MethodName := ⟨RX1, "follow", "()V"⟩
abbrev cX1_partOfPrice : ByteArray := prog_3_method_11_code
def yX1_partOfPrice : MethodName := ⟨RX1, "partOfPrice", "(I)I"⟩
def RX2 : String := "ShelfShift$Groups"
def TX2 : u_T := fun k => match k with
  | 0 => ("ShelfShift$Groups", "growth", "[I", true)
  | _ => ("ShelfShift$Groups", "count", "I", false)
def tyX2 : Nat → FieldType := fun k => match k with
  | 0 => .array .int
  | _ => .int
abbrev wsX20 : List Cond := u_ws RX2 TX2 2
theorem nmX2 : ∀ a, a < 2 → ∀ b, b < 2 → a ≠ b → (TX2 a).2.1 ≠ (TX2 b).2.1 := by decide +kernel
theorem tyX2_ok : ∀ k, k < 2 → parseFieldDescriptor (TX2 k).2.2.1 = some (tyX2 k) := by decide +kernel
abbrev cX2_init : ByteArray := prog_4_method_1_code
def yX2_init : MethodName := ⟨RX2, "<init>", "()V"⟩
abbrev cX2_add : ByteArray := prog_4_method_2_code
def yX2_add : MethodName := ⟨RX2, "add", "(I)I"⟩
def RX3 : String := "ShelfShift$Logbook"
def TX3 : u_T := fun k => match k with
  | 0 => ("ShelfShift$Logbook", "parts", "[I", true)
  | 1 => ("ShelfShift$Logbook", "next", "I", false)
  | _ => ("ShelfShift$Logbook", "count", "I", false)
def tyX3 : Nat → FieldType := fun k => match k with
  | 0 => .array .int
  | 1 => .int
  | _ => .int
abbrev wsX30 : List Cond := u_ws RX3 TX3 3
theorem nmX3 : ∀ a, a < 3 → ∀ b, b < 3 → a ≠ b → (TX3 a).2.1 ≠ (TX3 b).2.1 := by decide +kernel
theorem tyX3_ok : ∀ k, k < 3 → parseFieldDescriptor (TX3 k).2.2.1 = some (tyX3 k) := by decide +kernel
abbrev cX3_init : ByteArray := prog_5_method_1_code
def yX3_init : MethodName := ⟨RX3, "<init>", "()V"⟩
abbrev cX3_write : ByteArray := prog_5_method_2_code
def yX3_write : MethodName := ⟨RX3, "write", "(IIIII)V"⟩
abbrev cX3_read : ByteArray := prog_5_method_3_code
def yX3_read : MethodName := ⟨RX3, "read", "(II)I"⟩
def RX4 : String := "ShelfShift$Plan"
def TX4 : u_T := fun k => match k with
  | 0 => ("ShelfShift$Plan", "goes", "[I", true)
  | 1 => ("ShelfShift$Plan", "book", "[I", true)
  | 2 => ("ShelfShift$Plan", "width", "[I", true)
  | 3 => ("ShelfShift$Plan", "from", "[I", true)
  | 4 => ("ShelfShift$Plan", "to", "[I", true)
  | 5 => ("ShelfShift$Plan", "total", "I", false)
  | 6 => ("ShelfShift$Plan", "done", "I", false)
  | _ => ("ShelfShift$Plan", "years", "I", false)
def tyX4 : Nat → FieldType := fun k => match k with
  | 0 => .array .int
  | 1 => .array .int
  | 2 => .array .int
  | 3 => .array .int
  | 4 => .array .int
  | 5 => .int
  | 6 => .int
  | _ => .int
abbrev wsX40 : List Cond := u_ws RX4 TX4 8
theorem nmX4 : ∀ a, a < 8 → ∀ b, b < 8 → a ≠ b → (TX4 a).2.1 ≠ (TX4 b).2.1 := by decide +kernel
theorem tyX4_ok : ∀ k, k < 8 → parseFieldDescriptor (TX4 k).2.2.1 = some (tyX4 k) := by decide +kernel
abbrev cX4_init : ByteArray := prog_6_method_1_code
def yX4_init : MethodName := ⟨RX4, "<init>", "()V"⟩
abbrev cX4_exists : ByteArray := prog_6_method_2_code
def yX4_exists : MethodName := ⟨RX4, "exists", "()Z"⟩
abbrev cX4_end : ByteArray := prog_6_method_3_code
def yX4_end : MethodName := ⟨RX4, "end", "()V"⟩
abbrev cX4_make : ByteArray := prog_6_method_4_code
def yX4_make : MethodName := ⟨RX4, "make", "(LShelfShift$Books;[II)V"⟩
abbrev cX4_add : ByteArray := prog_6_method_5_code
def yX4_add : MethodName := ⟨RX4, "add", "(LShelfShift$Books;I)V"⟩
abbrev cX4_stepOn : ByteArray := prog_6_method_6_code
def yX4_stepOn : MethodName := ⟨RX4, "stepOn", "()V"⟩
abbrev cX4_direction : ByteArray := prog_6_method_7_code
def yX4_direction : MethodName := ⟨RX4, "direction", "(I)I"⟩
abbrev cX4_movesOfNextDay : ByteArray := prog_6_method_8_code
def yX4_movesOfNextDay : MethodName := ⟨RX4, "movesOfNextDay", "(I)I"⟩
abbrev cX4_days : ByteArray := prog_6_method_9_code
def yX4_days : MethodName := ⟨RX4, "days", "(III)I"⟩
abbrev cX4_trips : ByteArray := prog_6_method_10_code
def yX4_trips : MethodName := ⟨RX4, "trips", "(II)I"⟩
abbrev cX4_takenAheadOf : ByteArray := prog_6_method_11_code
def yX4_takenAheadOf : MethodName := ⟨RX4, "takenAheadOf", "(I)I"⟩
abbrev cX4_widthsLeft : ByteArray := prog_6_method_12_code
def yX4_widthsLeft : MethodName := ⟨RX4, "widthsLeft", "()I"⟩
abbrev cX4_rightsLeft : ByteArray := prog_6_method_13_code
def yX4_rightsLeft : MethodName := ⟨RX4, "rightsLeft", "()I"⟩
def RX5 : String := "ShelfShift$Shelves"
def TX5 : u_T := fun k => match k with
  | 0 => ("ShelfShift$Shelves", "length", "[I", true)
  | 1 => ("ShelfShift$Shelves", "kind", "[I", true)
  | _ => ("ShelfShift$Shelves", "count", "I", false)
def tyX5 : Nat → FieldType := fun k => match k with
  | 0 => .array .int
  | 1 => .array .int
  | _ => .int
abbrev wsX50 : List Cond := u_ws RX5 TX5 3
theorem nmX5 : ∀ a, a < 3 → ∀ b, b < 3 → a ≠ b → (TX5 a).2.1 ≠ (TX5 b).2.1 := by decide +kernel
theorem tyX5_ok : ∀ k, k < 3 → parseFieldDescriptor (TX5 k).2.2.1 = some (tyX5 k) := by decide +kernel
abbrev cX5_init : ByteArray := prog_7_method_1_code
def yX5_init : MethodName := ⟨RX5, "<init>", "()V"⟩
abbrev cX5_add : ByteArray := prog_7_method_2_code
def yX5_add : MethodName := ⟨RX5, "add", "(II)I"⟩
abbrev cX5_openLengths : ByteArray := prog_7_method_3_code
def yX5_openLengths : MethodName := ⟨RX5, "openLengths", "()I"⟩
def RX6 : String := "ShelfShift"
def TX6 : u_T := fun k => match k with
  | 0 => ("ShelfShift", "shelves", "LShelfShift$Shelves;", true)
  | 1 => ("ShelfShift", "groups", "LShelfShift$Groups;", true)
  | 2 => ("ShelfShift", "books", "LShelfShift$Books;", true)
  | 3 => ("ShelfShift", "cutter", "LShelfShift$Cutter;", true)
  | 4 => ("ShelfShift", "plan", "LShelfShift$Plan;", true)
  | 5 => ("ShelfShift", "logbook", "LShelfShift$Logbook;", true)
  | _ => ("ShelfShift", "dayLimit", "I", false)
def tyX6 : Nat → FieldType := fun k => match k with
  | 0 => .object "ShelfShift$Shelves"
  | 1 => .object "ShelfShift$Groups"
  | 2 => .object "ShelfShift$Books"
  | 3 => .object "ShelfShift$Cutter"
  | 4 => .object "ShelfShift$Plan"
  | 5 => .object "ShelfShift$Logbook"
  | _ => .int
abbrev wsX60 : List Cond := u_ws RX6 TX6 7
theorem nmX6 : ∀ a, a < 7 → ∀ b, b < 7 → a ≠ b → (TX6 a).2.1 ≠ (TX6 b).2.1 := by decide +kernel
theorem tyX6_ok : ∀ k, k < 7 → parseFieldDescriptor (TX6 k).2.2.1 = some (tyX6 k) := by decide +kernel
abbrev cX6_init : ByteArray := prog_1_method_1_code
def yX6_init : MethodName := ⟨RX6, "<init>", "()V"⟩
abbrev cX6_shelf : ByteArray := prog_1_method_2_code
def yX6_shelf : MethodName := ⟨RX6, "shelf", "(II)I"⟩
abbrev cX6_turn : ByteArray := prog_1_method_3_code
def yX6_turn : MethodName := ⟨RX6, "turn", "(II)Z"⟩
abbrev cX6_group : ByteArray := prog_1_method_4_code
def yX6_group : MethodName := ⟨RX6, "group", "(I)I"⟩
abbrev cX6_grow : ByteArray := prog_1_method_5_code
def yX6_grow : MethodName := ⟨RX6, "grow", "(II)Z"⟩
abbrev cX6_book : ByteArray := prog_1_method_6_code
def yX6_book : MethodName := ⟨RX6, "book", "(II)I"⟩
abbrev cX6_gone : ByteArray := prog_1_method_7_code
def yX6_gone : MethodName := ⟨RX6, "gone", "(I)I"⟩
abbrev cX6_limit : ByteArray := prog_1_method_8_code
def yX6_limit : MethodName := ⟨RX6, "limit", "(I)Z"⟩
abbrev cX6_count : ByteArray := prog_1_method_9_code
def yX6_count : MethodName := ⟨RX6, "count", "(I)I"⟩
abbrev cX6_on : ByteArray := prog_1_method_10_code
def yX6_on : MethodName := ⟨RX6, "on", "(II)I"⟩
abbrev cX6_in : ByteArray := prog_1_method_11_code
def yX6_in : MethodName := ⟨RX6, "in", "(II)I"⟩
abbrev cX6_of : ByteArray := prog_1_method_12_code
def yX6_of : MethodName := ⟨RX6, "of", "(II)I"⟩
abbrev cX6_lasts : ByteArray := prog_1_method_13_code
def yX6_lasts : MethodName := ⟨RX6, "lasts", "()I"⟩
abbrev cX6_cut : ByteArray := prog_1_method_14_code
def yX6_cut : MethodName := ⟨RX6, "cut", "(II)I"⟩
abbrev cX6_price : ByteArray := prog_1_method_15_code
def yX6_price : MethodName := ⟨RX6, "price", "(II)I"⟩
abbrev cX6_best : ByteArray := prog_1_method_16_code
def yX6_best : MethodName := ⟨RX6, "best", "(Z)I"⟩
abbrev cX6_tight : ByteArray := prog_1_method_17_code
def yX6_tight : MethodName := ⟨RX6, "tight", "()I"⟩
abbrev cX6_more : ByteArray := prog_1_method_18_code
def yX6_more : MethodName := ⟨RX6, "more", "(II)I"⟩
abbrev cX6_plan : ByteArray := prog_1_method_19_code
def yX6_plan : MethodName := ⟨RX6, "plan", "(I)I"⟩
abbrev cX6_drop : ByteArray := prog_1_method_20_code
def yX6_drop : MethodName := ⟨RX6, "drop", "()I"⟩
abbrev cX6_move : ByteArray := prog_1_method_21_code
def yX6_move : MethodName := ⟨RX6, "move", "()I"⟩
abbrev cX6_day : ByteArray := prog_1_method_22_code
def yX6_day : MethodName := ⟨RX6, "day", "()I"⟩
abbrev cX6_planned : ByteArray := prog_1_method_23_code
def yX6_planned : MethodName := ⟨RX6, "planned", "(II)I"⟩
abbrev cX6_left : ByteArray := prog_1_method_24_code
def yX6_left : MethodName := ⟨RX6, "left", "(I)I"⟩
abbrev cX6_enough : ByteArray := prog_1_method_25_code
def yX6_enough : MethodName := ⟨RX6, "enough", "(I)I"⟩
abbrev cX6_log : ByteArray := prog_1_method_26_code
def yX6_log : MethodName := ⟨RX6, "log", "(II)I"⟩
abbrev cX6_isWithin : ByteArray := prog_1_method_27_code
def yX6_isWithin : MethodName := ⟨RX6, "isWithin", "(III)Z"⟩
abbrev cX6_hasShelf : ByteArray := prog_1_method_28_code
def yX6_hasShelf : MethodName := ⟨RX6, "hasShelf", "(I)Z"⟩
abbrev cX6_hasGroup : ByteArray := prog_1_method_29_code
def yX6_hasGroup : MethodName := ⟨RX6, "hasGroup", "(I)Z"⟩
abbrev cX6_hasBook : ByteArray := prog_1_method_30_code
def yX6_hasBook : MethodName := ⟨RX6, "hasBook", "(I)Z"⟩
abbrev cX6_roomOn : ByteArray := prog_1_method_31_code
def yX6_roomOn : MethodName := ⟨RX6, "roomOn", "(I)I"⟩
abbrev cX6_yearsOn : ByteArray := prog_1_method_32_code
def yX6_yearsOn : MethodName := ⟨RX6, "yearsOn", "(I)I"⟩
abbrev cX6_hasCuts : ByteArray := prog_1_method_33_code
def yX6_hasCuts : MethodName := ⟨RX6, "hasCuts", "(I)Z"⟩
abbrev cX6_isRoomFor : ByteArray := prog_1_method_34_code
def yX6_isRoomFor : MethodName := ⟨RX6, "isRoomFor", "(II)Z"⟩
abbrev cX6_moveAtOnce : ByteArray := prog_1_method_35_code
def yX6_moveAtOnce : MethodName := ⟨RX6, "moveAtOnce", "()V"⟩
abbrev cX6_makeNextMove : ByteArray := prog_1_method_36_code
def yX6_makeNextMove : MethodName := ⟨RX6, "makeNextMove", "()I"⟩
def RX7 : String := "ShelfShiftModel"
def TX7 : u_T := fun k => match k with
  | 0 => ("ShelfShiftModel", "raised", "I", false)
  | 1 => ("ShelfShiftModel", "shelves", "I", false)
  | 2 => ("ShelfShiftModel", "length", "[I", true)
  | 3 => ("ShelfShiftModel", "kind", "[I", true)
  | 4 => ("ShelfShiftModel", "groups", "I", false)
  | 5 => ("ShelfShiftModel", "growth", "[I", true)
  | 6 => ("ShelfShiftModel", "books", "I", false)
  | 7 => ("ShelfShiftModel", "group", "[I", true)
  | 8 => ("ShelfShiftModel", "width", "[I", true)
  | 9 => ("ShelfShiftModel", "shelf", "[I", true)
  | 10 => ("ShelfShiftModel", "handled", "[I", true)
  | 11 => ("ShelfShiftModel", "handledAll", "I", false)
  | 12 => ("ShelfShiftModel", "limit", "I", false)
  | 13 => ("ShelfShiftModel", "logs", "[I", true)
  | 14 => ("ShelfShiftModel", "logMany", "I", false)
  | 15 => ("ShelfShiftModel", "need", "[I", true)
  | 16 => ("ShelfShiftModel", "lost", "[I", true)
  | 17 => ("ShelfShiftModel", "least", "[I", true)
  | 18 => ("ShelfShiftModel", "cutMany", "[I", true)
  | 19 => ("ShelfShiftModel", "takes", "[I", true)
  | 20 => ("ShelfShiftModel", "goal", "[I", true)
  | 21 => ("ShelfShiftModel", "isPlanned", "Z", false)
  | 22 => ("ShelfShiftModel", "planYears", "I", false)
  | 23 => ("ShelfShiftModel", "planMany", "I", false)
  | 24 => ("ShelfShiftModel", "planDone", "I", false)
  | 25 => ("ShelfShiftModel", "planBook", "[I", true)
  | 26 => ("ShelfShiftModel", "planFrom", "[I", true)
  | 27 => ("ShelfShiftModel", "planTo", "[I", true)
  | _ => ("ShelfShiftModel", "planGoal", "[I", true)
def tyX7 : Nat → FieldType := fun k => match k with
  | 0 => .int
  | 1 => .int
  | 2 => .array .int
  | 3 => .array .int
  | 4 => .int
  | 5 => .array .int
  | 6 => .int
  | 7 => .array .int
  | 8 => .array .int
  | 9 => .array .int
  | 10 => .array .int
  | 11 => .int
  | 12 => .int
  | 13 => .array .int
  | 14 => .int
  | 15 => .array .int
  | 16 => .array .int
  | 17 => .array .int
  | 18 => .array .int
  | 19 => .array .int
  | 20 => .array .int
  | 21 => .boolean
  | 22 => .int
  | 23 => .int
  | 24 => .int
  | 25 => .array .int
  | 26 => .array .int
  | 27 => .array .int
  | _ => .array .int
abbrev wsX70 : List Cond := u_ws RX7 TX7 29
theorem nmX7 : ∀ a, a < 29 → ∀ b, b < 29 → a ≠ b → (TX7 a).2.1 ≠ (TX7 b).2.1 := by decide +kernel
theorem tyX7_ok : ∀ k, k < 29 → parseFieldDescriptor (TX7 k).2.2.1 = some (tyX7 k) := by decide +kernel
abbrev cX7_init : ByteArray := prog_9_method_1_code
def yX7_init : MethodName := ⟨RX7, "<init>", "()V"⟩
abbrev cX7_thrown : ByteArray := prog_9_method_2_code
def yX7_thrown : MethodName := ⟨RX7, "thrown", "()I"⟩
abbrev cX7_isIn : ByteArray := prog_9_method_3_code
def yX7_isIn : MethodName := ⟨RX7, "isIn", "(III)Z"⟩
abbrev cX7_isShelf : ByteArray := prog_9_method_4_code
def yX7_isShelf : MethodName := ⟨RX7, "isShelf", "(I)Z"⟩
abbrev cX7_isGroup : ByteArray := prog_9_method_5_code
def yX7_isGroup : MethodName := ⟨RX7, "isGroup", "(I)Z"⟩
abbrev cX7_isBook : ByteArray := prog_9_method_6_code
def yX7_isBook : MethodName := ⟨RX7, "isBook", "(I)Z"⟩
abbrev cX7_notes : ByteArray := prog_9_method_7_code
def yX7_notes : MethodName := ⟨RX7, "notes", "(IIII)V"⟩
abbrev cX7_log : ByteArray := prog_9_method_8_code
def yX7_log : MethodName := ⟨RX7, "log", "(II)I"⟩
abbrev cX7_widthOf : ByteArray := prog_9_method_9_code
def yX7_widthOf : MethodName := ⟨RX7, "widthOf", "(I)I"⟩
abbrev cX7_laysNeeds : ByteArray := prog_9_method_10_code
def yX7_laysNeeds : MethodName := ⟨RX7, "laysNeeds", "()V"⟩
abbrev cX7_loadOf : ByteArray := prog_9_method_11_code
def yX7_loadOf : MethodName := ⟨RX7, "loadOf", "(I)I"⟩
abbrev cX7_rateOf : ByteArray := prog_9_method_12_code
def yX7_rateOf : MethodName := ⟨RX7, "rateOf", "(I)I"⟩
abbrev cX7_lastsOf : ByteArray := prog_9_method_13_code
def yX7_lastsOf : MethodName := ⟨RX7, "lastsOf", "(I)I"⟩
abbrev cX7_firstOn : ByteArray := prog_9_method_14_code
def yX7_firstOn : MethodName := ⟨RX7, "firstOn", "(I)I"⟩
abbrev cX7_manyOn : ByteArray := prog_9_method_15_code
def yX7_manyOn : MethodName := ⟨RX7, "manyOn", "(I)I"⟩
abbrev cX7_cell : ByteArray := prog_9_method_16_code
def yX7_cell : MethodName := ⟨RX7, "cell", "(II)I"⟩
abbrev cX7_costOf : ByteArray := prog_9_method_17_code
def yX7_costOf : MethodName := ⟨RX7, "costOf", "(III)I"⟩
abbrev cX7_mostOn : ByteArray := prog_9_method_18_code
def yX7_mostOn : MethodName := ⟨RX7, "mostOn", "(II)I"⟩
abbrev cX7_cuts : ByteArray := prog_9_method_19_code
def yX7_cuts : MethodName := ⟨RX7, "cuts", "(I)Z"⟩
abbrev cX7_laysLeast : ByteArray := prog_9_method_20_code
def yX7_laysLeast : MethodName := ⟨RX7, "laysLeast", "(II)V"⟩
abbrev cX7_isYears : ByteArray := prog_9_method_21_code
def yX7_isYears : MethodName := ⟨RX7, "isYears", "(I)Z"⟩
abbrev cX7_cut : ByteArray := prog_9_method_22_code
def yX7_cut : MethodName := ⟨RX7, "cut", "(II)I"⟩
abbrev cX7_price : ByteArray := prog_9_method_23_code
def yX7_price : MethodName := ⟨RX7, "price", "(II)I"⟩
abbrev cX7_fits : ByteArray := prog_9_method_24_code
def yX7_fits : MethodName := ⟨RX7, "fits", "(IZ)Z"⟩
abbrev cX7_best : ByteArray := prog_9_method_25_code
def yX7_best : MethodName := ⟨RX7, "best", "(Z)I"⟩
abbrev cX7_tight : ByteArray := prog_9_method_26_code
def yX7_tight : MethodName := ⟨RX7, "tight", "()I"⟩
abbrev cX7_opens : ByteArray := prog_9_method_27_code
def yX7_opens : MethodName := ⟨RX7, "opens", "(I)V"⟩
abbrev cX7_closes : ByteArray := prog_9_method_28_code
def yX7_closes : MethodName := ⟨RX7, "closes", "(I)V"⟩
abbrev cX7_behind : ByteArray := prog_9_method_29_code
def yX7_behind : MethodName := ⟨RX7, "behind", "(I)I"⟩
abbrev cX7_comes : ByteArray := prog_9_method_30_code
def yX7_comes : MethodName := ⟨RX7, "comes", "(III)V"⟩
abbrev cX7_laysGoals : ByteArray := prog_9_method_31_code
def yX7_laysGoals : MethodName := ⟨RX7, "laysGoals", "()V"⟩
abbrev cX7_book : ByteArray := prog_9_method_32_code
def yX7_book : MethodName := ⟨RX7, "book", "(II)I"⟩
abbrev cX7_gone : ByteArray := prog_9_method_33_code
def yX7_gone : MethodName := ⟨RX7, "gone", "(I)I"⟩
abbrev cX7_more : ByteArray := prog_9_method_34_code
def yX7_more : MethodName := ⟨RX7, "more", "(II)I"⟩
abbrev cX7_ends : ByteArray := prog_9_method_35_code
def yX7_ends : MethodName := ⟨RX7, "ends", "()V"⟩
abbrev cX7_moves : ByteArray := prog_9_method_36_code
def yX7_moves : MethodName := ⟨RX7, "moves", "(II)V"⟩
abbrev cX7_plans : ByteArray := prog_9_method_37_code
def yX7_plans : MethodName := ⟨RX7, "plans", "(I)V"⟩
abbrev cX7_plan : ByteArray := prog_9_method_38_code
def yX7_plan : MethodName := ⟨RX7, "plan", "(I)I"⟩
abbrev cX7_drop : ByteArray := prog_9_method_39_code
def yX7_drop : MethodName := ⟨RX7, "drop", "()I"⟩
abbrev cX7_goesOn : ByteArray := prog_9_method_40_code
def yX7_goesOn : MethodName := ⟨RX7, "goesOn", "()I"⟩
abbrev cX7_move : ByteArray := prog_9_method_41_code
def yX7_move : MethodName := ⟨RX7, "move", "()I"⟩
abbrev cX7_day : ByteArray := prog_9_method_42_code
def yX7_day : MethodName := ⟨RX7, "day", "()I"⟩
abbrev cX7_dayOf : ByteArray := prog_9_method_43_code
def yX7_dayOf : MethodName := ⟨RX7, "dayOf", "(III)I"⟩
abbrev cX7_tripOf : ByteArray := prog_9_method_44_code
def yX7_tripOf : MethodName := ⟨RX7, "tripOf", "(II)I"⟩
abbrev cX7_taken : ByteArray := prog_9_method_45_code
def yX7_taken : MethodName := ⟨RX7, "taken", "(I)I"⟩
abbrev cX7_planned : ByteArray := prog_9_method_46_code
def yX7_planned : MethodName := ⟨RX7, "planned", "(II)I"⟩
abbrev cX7_leftWidths : ByteArray := prog_9_method_47_code
def yX7_leftWidths : MethodName := ⟨RX7, "leftWidths", "()I"⟩
abbrev cX7_leftRight : ByteArray := prog_9_method_48_code
def yX7_leftRight : MethodName := ⟨RX7, "leftRight", "()I"⟩
abbrev cX7_left : ByteArray := prog_9_method_49_code
def yX7_left : MethodName := ⟨RX7, "left", "(I)I"⟩
abbrev cX7_enough : ByteArray := prog_9_method_50_code
def yX7_enough : MethodName := ⟨RX7, "enough", "(I)I"⟩
abbrev cX7_shelf : ByteArray := prog_9_method_51_code
def yX7_shelf : MethodName := ⟨RX7, "shelf", "(II)I"⟩
abbrev cX7_turn : ByteArray := prog_9_method_52_code
def yX7_turn : MethodName := ⟨RX7, "turn", "(II)Z"⟩
abbrev cX7_group : ByteArray := prog_9_method_53_code
def yX7_group : MethodName := ⟨RX7, "group", "(I)I"⟩
abbrev cX7_grow : ByteArray := prog_9_method_54_code
def yX7_grow : MethodName := ⟨RX7, "grow", "(II)Z"⟩
abbrev cX7_limit : ByteArray := prog_9_method_55_code
def yX7_limit : MethodName := ⟨RX7, "limit", "(I)Z"⟩
abbrev cX7_allWidths : ByteArray := prog_9_method_56_code
def yX7_allWidths : MethodName := ⟨RX7, "allWidths", "()I"⟩
abbrev cX7_openLengths : ByteArray := prog_9_method_57_code
def yX7_openLengths : MethodName := ⟨RX7, "openLengths", "()I"⟩
abbrev cX7_count : ByteArray := prog_9_method_58_code
def yX7_count : MethodName := ⟨RX7, "count", "(I)I"⟩
abbrev cX7_on : ByteArray := prog_9_method_59_code
def yX7_on : MethodName := ⟨RX7, "on", "(II)I"⟩
abbrev cX7_booksOf : ByteArray := prog_9_method_60_code
def yX7_booksOf : MethodName := ⟨RX7, "booksOf", "(I)I"⟩
abbrev cX7_firstOf : ByteArray := prog_9_method_61_code
def yX7_firstOf : MethodName := ⟨RX7, "firstOf", "(I)I"⟩
abbrev cX7_shelvesOf : ByteArray := prog_9_method_62_code
def yX7_shelvesOf : MethodName := ⟨RX7, "shelvesOf", "(I)I"⟩
abbrev cX7_in : ByteArray := prog_9_method_63_code
def yX7_in : MethodName := ⟨RX7, "in", "(II)I"⟩
abbrev cX7_needOf : ByteArray := prog_9_method_64_code
def yX7_needOf : MethodName := ⟨RX7, "needOf", "(I)I"⟩
abbrev cX7_ahead : ByteArray := prog_9_method_65_code
def yX7_ahead : MethodName := ⟨RX7, "ahead", "(I)I"⟩
abbrev cX7_of : ByteArray := prog_9_method_66_code
def yX7_of : MethodName := ⟨RX7, "of", "(II)I"⟩
abbrev cX7_lasts : ByteArray := prog_9_method_67_code
def yX7_lasts : MethodName := ⟨RX7, "lasts", "()I"⟩
def RJx145de : String := "java/io/Serializable"
def TJx145de : u_T := fun k => match k with
  | _ => ("", "", "", false)
def tyJx145de : Nat → FieldType := fun k => match k with
  | _ => .int
abbrev wsJx145de0 : List Cond := u_ws RJx145de TJx145de 0
theorem nmJx145de : ∀ a, a < 0 → ∀ b, b < 0 → a ≠ b → (TJx145de a).2.1 ≠ (TJx145de b).2.1 := by decide +kernel
theorem tyJx145de_ok : ∀ k, k < 0 → parseFieldDescriptor (TJx145de k).2.2.1 = some (tyJx145de k) := by decide +kernel
def RJ9 : String := "java/lang/Math"
def TJ9 : u_T := fun k => match k with
  | _ => ("", "", "", false)
def tyJ9 : Nat → FieldType := fun k => match k with
  | _ => .int
abbrev wsJ90 : List Cond := u_ws RJ9 TJ9 0
theorem nmJ9 : ∀ a, a < 0 → ∀ b, b < 0 → a ≠ b → (TJ9 a).2.1 ≠ (TJ9 b).2.1 := by decide +kernel
theorem tyJ9_ok : ∀ k, k < 0 → parseFieldDescriptor (TJ9 k).2.2.1 = some (tyJ9 k) := by decide +kernel
abbrev cJ9_min_7cf53 : ByteArray := prog_12_method_69_code
def yJ9_min_7cf53 : MethodName := ⟨RJ9, "min", "(II)I"⟩
def RJ0 : String := "java/lang/String"
def TJ0 : u_T := fun k => match k with
  | _ => ("", "", "", false)
def tyJ0 : Nat → FieldType := fun k => match k with
  | _ => .int
abbrev wsJ00 : List Cond := u_ws RJ0 TJ0 0
theorem nmJ0 : ∀ a, a < 0 → ∀ b, b < 0 → a ≠ b → (TJ0 a).2.1 ≠ (TJ0 b).2.1 := by decide +kernel
theorem tyJ0_ok : ∀ k, k < 0 → parseFieldDescriptor (TJ0 k).2.2.1 = some (tyJ0 k) := by decide +kernel
def RJ10 : String := "java/lang/System"
def TJ10 : u_T := fun k => match k with
  | _ => ("", "", "", false)
def tyJ10 : Nat → FieldType := fun k => match k with
  | _ => .int
abbrev wsJ100 : List Cond := u_ws RJ10 TJ10 0
theorem nmJ10 : ∀ a, a < 0 → ∀ b, b < 0 → a ≠ b → (TJ10 a).2.1 ≠ (TJ10 b).2.1 := by decide +kernel
theorem tyJ10_ok : ∀ k, k < 0 → parseFieldDescriptor (TJ10 k).2.2.1 = some (tyJ10 k) := by decide +kernel
def RL : String := "ShelfShiftLaw"
abbrev cL_on : ByteArray := method_3_code
def yL_on : MethodName := ⟨RL, "on", "(LShelfShift;II[J)I"⟩
abbrev cL_in : ByteArray := method_4_code
def yL_in : MethodName := ⟨RL, "in", "(LShelfShift;II[J)I"⟩
abbrev cL_of : ByteArray := method_5_code
def yL_of : MethodName := ⟨RL, "of", "(LShelfShift;II[J)I"⟩
abbrev cL_law : ByteArray := code
def yL_law : MethodName := ⟨RL, "law", "([I)Z"⟩
abbrev vwCl : List vw_C := [(RX0, TX0, 8), (RX1, TX1, 12), (RX2, TX2, 2), (RX3, TX3, 3), (RX4, TX4, 8), (RX5, TX5, 3), (RX6, TX6, 7), (RX7, TX7, 29)]
end
section
theorem dX0_init_0 : decode cX0_init 0 = .ok (.aload_n 0, 1) := by decide +kernel
theorem dX0_init_1 : decode cX0_init 1 = .ok (.invokespecial 3, 3) := by decide +kernel
theorem dX0_init_4 : decode cX0_init 4 = .ok (.aload_n 0, 1) := by decide +kernel
theorem dX0_init_5 : decode cX0_init 5 = .ok (.bipush 60, 2) := by decide +kernel
theorem dX0_init_7 : decode cX0_init 7 = .ok (.newarray .int, 2) := by decide +kernel
theorem dX0_init_9 : decode cX0_init 9 = .ok (.putfield 9, 3) := by decide +kernel
theorem dX0_init_12 : decode cX0_init 12 = .ok (.aload_n 0, 1) := by decide +kernel
theorem dX0_init_13 : decode cX0_init 13 = .ok (.bipush 60, 2) := by decide +kernel
theorem dX0_init_15 : decode cX0_init 15 = .ok (.newarray .int, 2) := by decide +kernel
theorem dX0_init_17 : decode cX0_init 17 = .ok (.putfield 15, 3) := by decide +kernel
theorem dX0_init_20 : decode cX0_init 20 = .ok (.aload_n 0, 1) := by decide +kernel
theorem dX0_init_21 : decode cX0_init 21 = .ok (.bipush 60, 2) := by decide +kernel
theorem dX0_init_23 : decode cX0_init 23 = .ok (.newarray .int, 2) := by decide +kernel
theorem dX0_init_25 : decode cX0_init 25 = .ok (.putfield 18, 3) := by decide +kernel
theorem dX0_init_28 : decode cX0_init 28 = .ok (.aload_n 0, 1) := by decide +kernel
theorem dX0_init_29 : decode cX0_init 29 = .ok (.bipush 60, 2) := by decide +kernel
theorem dX0_init_31 : decode cX0_init 31 = .ok (.newarray .int, 2) := by decide +kernel
theorem dX0_init_33 : decode cX0_init 33 = .ok (.putfield 21, 3) := by decide +kernel
theorem dX0_init_36 : decode cX0_init 36 = .ok (.aload_n 0, 1) := by decide +kernel
theorem dX0_init_37 : decode cX0_init 37 = .ok (.bipush 60, 2) := by decide +kernel
theorem dX0_init_39 : decode cX0_init 39 = .ok (.newarray .int, 2) := by decide +kernel
theorem dX0_init_41 : decode cX0_init 41 = .ok (.putfield 24, 3) := by decide +kernel
theorem dX0_init_44 : decode cX0_init 44 = .ok (.aload_n 0, 1) := by decide +kernel
theorem dX0_init_45 : decode cX0_init 45 = .ok (.bipush 60, 2) := by decide +kernel
theorem dX0_init_47 : decode cX0_init 47 = .ok (.newarray .int, 2) := by decide +kernel
theorem dX0_init_49 : decode cX0_init 49 = .ok (.putfield 27, 3) := by decide +kernel
theorem dX0_init_52 : decode cX0_init 52 = .ok (.return_, 1) := by decide +kernel
theorem dX0_numberBehind_0 : decode cX0_numberBehind 0 = .ok (.iconst 0, 1) := by decide +kernel
theorem dX0_numberBehind_1 : decode cX0_numberBehind 1 = .ok (.istore_n 2, 1) := by decide +kernel
theorem dX0_numberBehind_2 : decode cX0_numberBehind 2 = .ok (.iload_n 2, 1) := by decide +kernel
theorem dX0_numberBehind_3 : decode cX0_numberBehind 3 = .ok (.aload_n 0, 1) := by decide +kernel
theorem dX0_numberBehind_4 : decode cX0_numberBehind 4 = .ok (.getfield 30, 3) := by decide +kernel
theorem dX0_numberBehind_7 : decode cX0_numberBehind 7 = .ok (.if_icmp .ge 19, 3) := by decide +kernel
theorem dX0_numberBehind_10 : decode cX0_numberBehind 10 = .ok (.aload_n 0, 1) := by decide +kernel
theorem dX0_numberBehind_11 : decode cX0_numberBehind 11 = .ok (.getfield 9, 3) := by decide +kernel
theorem dX0_numberBehind_14 : decode cX0_numberBehind 14 = .ok (.iload_n 2, 1) := by decide +kernel
theorem dX0_numberBehind_15 : decode cX0_numberBehind 15 = .ok (.iaload, 1) := by decide +kernel
theorem dX0_numberBehind_16 : decode cX0_numberBehind 16 = .ok (.iload_n 1, 1) := by decide +kernel
theorem dX0_numberBehind_17 : decode cX0_numberBehind 17 = .ok (.if_icmp .gt 9, 3) := by decide +kernel
theorem dX0_numberBehind_20 : decode cX0_numberBehind 20 = .ok (.iinc 2 1, 3) := by decide +kernel
theorem dX0_numberBehind_23 : decode cX0_numberBehind 23 = .ok (.goto (-21), 3) := by decide +kernel
theorem dX0_numberBehind_26 : decode cX0_numberBehind 26 = .ok (.iload_n 2, 1) := by decide +kernel
theorem dX0_numberBehind_27 : decode cX0_numberBehind 27 = .ok (.ireturn, 1) := by decide +kernel
theorem dX0_insert_0 : decode cX0_insert 0 = .ok (.aload_n 0, 1) := by decide +kernel
theorem dX0_insert_1 : decode cX0_insert 1 = .ok (.aload_n 0, 1) := by decide +kernel
theorem dX0_insert_2 : decode cX0_insert 2 = .ok (.getfield 9, 3) := by decide +kernel
theorem dX0_insert_5 : decode cX0_insert 5 = .ok (.iload_n 1, 1) := by decide +kernel
theorem dX0_insert_6 : decode cX0_insert 6 = .ok (.invokevirtual 34, 3) := by decide +kernel
theorem dX0_insert_9 : decode cX0_insert 9 = .ok (.aload_n 0, 1) := by decide +kernel
theorem dX0_insert_10 : decode cX0_insert 10 = .ok (.aload_n 0, 1) := by decide +kernel
theorem dX0_insert_11 : decode cX0_insert 11 = .ok (.getfield 15, 3) := by decide +kernel
theorem dX0_insert_14 : decode cX0_insert 14 = .ok (.iload_n 1, 1) := by decide +kernel
theorem dX0_insert_15 : decode cX0_insert 15 = .ok (.invokevirtual 34, 3) := by decide +kernel
theorem dX0_insert_18 : decode cX0_insert 18 = .ok (.aload_n 0, 1) := by decide +kernel
theorem dX0_insert_19 : decode cX0_insert 19 = .ok (.aload_n 0, 1) := by decide +kernel
theorem dX0_insert_20 : decode cX0_insert 20 = .ok (.getfield 18, 3) := by decide +kernel
theorem dX0_insert_23 : decode cX0_insert 23 = .ok (.iload_n 1, 1) := by decide +kernel
theorem dX0_insert_24 : decode cX0_insert 24 = .ok (.invokevirtual 34, 3) := by decide +kernel
theorem dX0_insert_27 : decode cX0_insert 27 = .ok (.aload_n 0, 1) := by decide +kernel
theorem dX0_insert_28 : decode cX0_insert 28 = .ok (.aload_n 0, 1) := by decide +kernel
theorem dX0_insert_29 : decode cX0_insert 29 = .ok (.getfield 21, 3) := by decide +kernel
theorem dX0_insert_32 : decode cX0_insert 32 = .ok (.iload_n 1, 1) := by decide +kernel
theorem dX0_insert_33 : decode cX0_insert 33 = .ok (.invokevirtual 34, 3) := by decide +kernel
theorem dX0_insert_36 : decode cX0_insert 36 = .ok (.aload_n 0, 1) := by decide +kernel
theorem dX0_insert_37 : decode cX0_insert 37 = .ok (.aload_n 0, 1) := by decide +kernel
theorem dX0_insert_38 : decode cX0_insert 38 = .ok (.getfield 24, 3) := by decide +kernel
theorem dX0_insert_41 : decode cX0_insert 41 = .ok (.iload_n 1, 1) := by decide +kernel
theorem dX0_insert_42 : decode cX0_insert 42 = .ok (.invokevirtual 34, 3) := by decide +kernel
theorem dX0_insert_45 : decode cX0_insert 45 = .ok (.aload_n 0, 1) := by decide +kernel
theorem dX0_insert_46 : decode cX0_insert 46 = .ok (.dup, 1) := by decide +kernel
theorem dX0_insert_47 : decode cX0_insert 47 = .ok (.getfield 30, 3) := by decide +kernel
theorem dX0_insert_50 : decode cX0_insert 50 = .ok (.iconst 1, 1) := by decide +kernel
theorem dX0_insert_51 : decode cX0_insert 51 = .ok (.iadd, 1) := by decide +kernel
theorem dX0_insert_52 : decode cX0_insert 52 = .ok (.putfield 30, 3) := by decide +kernel
theorem dX0_insert_55 : decode cX0_insert 55 = .ok (.aload_n 0, 1) := by decide +kernel
theorem dX0_insert_56 : decode cX0_insert 56 = .ok (.getfield 9, 3) := by decide +kernel
theorem dX0_insert_59 : decode cX0_insert 59 = .ok (.iload_n 1, 1) := by decide +kernel
theorem dX0_insert_60 : decode cX0_insert 60 = .ok (.iload_n 2, 1) := by decide +kernel
theorem dX0_insert_61 : decode cX0_insert 61 = .ok (.iastore, 1) := by decide +kernel
theorem dX0_insert_62 : decode cX0_insert 62 = .ok (.aload_n 0, 1) := by decide +kernel
theorem dX0_insert_63 : decode cX0_insert 63 = .ok (.getfield 15, 3) := by decide +kernel
theorem dX0_insert_66 : decode cX0_insert 66 = .ok (.iload_n 1, 1) := by decide +kernel
theorem dX0_insert_67 : decode cX0_insert 67 = .ok (.iload_n 3, 1) := by decide +kernel
theorem dX0_insert_68 : decode cX0_insert 68 = .ok (.iastore, 1) := by decide +kernel
theorem dX0_insert_69 : decode cX0_insert 69 = .ok (.aload_n 0, 1) := by decide +kernel
theorem dX0_insert_70 : decode cX0_insert 70 = .ok (.getfield 18, 3) := by decide +kernel
theorem dX0_insert_73 : decode cX0_insert 73 = .ok (.iload_n 1, 1) := by decide +kernel
theorem dX0_insert_74 : decode cX0_insert 74 = .ok (.iconst 0, 1) := by decide +kernel
theorem dX0_insert_75 : decode cX0_insert 75 = .ok (.iastore, 1) := by decide +kernel
theorem dX0_insert_76 : decode cX0_insert 76 = .ok (.aload_n 0, 1) := by decide +kernel
theorem dX0_insert_77 : decode cX0_insert 77 = .ok (.getfield 21, 3) := by decide +kernel
theorem dX0_insert_80 : decode cX0_insert 80 = .ok (.iload_n 1, 1) := by decide +kernel
theorem dX0_insert_81 : decode cX0_insert 81 = .ok (.iload 4, 2) := by decide +kernel
theorem dX0_insert_83 : decode cX0_insert 83 = .ok (.iastore, 1) := by decide +kernel
theorem dX0_insert_84 : decode cX0_insert 84 = .ok (.aload_n 0, 1) := by decide +kernel
theorem dX0_insert_85 : decode cX0_insert 85 = .ok (.getfield 24, 3) := by decide +kernel
theorem dX0_insert_88 : decode cX0_insert 88 = .ok (.iload_n 1, 1) := by decide +kernel
theorem dX0_insert_89 : decode cX0_insert 89 = .ok (.iconst 0, 1) := by decide +kernel
theorem dX0_insert_90 : decode cX0_insert 90 = .ok (.iastore, 1) := by decide +kernel
theorem dX0_insert_91 : decode cX0_insert 91 = .ok (.return_, 1) := by decide +kernel
theorem dX0_openGap_0 : decode cX0_openGap 0 = .ok (.aload_n 1, 1) := by decide +kernel
theorem dX0_openGap_1 : decode cX0_openGap 1 = .ok (.iload_n 2, 1) := by decide +kernel
theorem dX0_openGap_2 : decode cX0_openGap 2 = .ok (.aload_n 1, 1) := by decide +kernel
theorem dX0_openGap_3 : decode cX0_openGap 3 = .ok (.iload_n 2, 1) := by decide +kernel
theorem dX0_openGap_4 : decode cX0_openGap 4 = .ok (.iconst 1, 1) := by decide +kernel
theorem dX0_openGap_5 : decode cX0_openGap 5 = .ok (.iadd, 1) := by decide +kernel
theorem dX0_openGap_6 : decode cX0_openGap 6 = .ok (.aload_n 0, 1) := by decide +kernel
theorem dX0_openGap_7 : decode cX0_openGap 7 = .ok (.getfield 30, 3) := by decide +kernel
theorem dX0_openGap_10 : decode cX0_openGap 10 = .ok (.iload_n 2, 1) := by decide +kernel
theorem dX0_openGap_11 : decode cX0_openGap 11 = .ok (.isub, 1) := by decide +kernel
theorem dX0_openGap_12 : decode cX0_openGap 12 = .ok (.invokestatic 38, 3) := by decide +kernel
theorem dX0_openGap_15 : decode cX0_openGap 15 = .ok (.return_, 1) := by decide +kernel
theorem dX0_remove_0 : decode cX0_remove 0 = .ok (.aload_n 0, 1) := by decide +kernel
theorem dX0_remove_1 : decode cX0_remove 1 = .ok (.dup, 1) := by decide +kernel
theorem dX0_remove_2 : decode cX0_remove 2 = .ok (.getfield 30, 3) := by decide +kernel
theorem dX0_remove_5 : decode cX0_remove 5 = .ok (.iconst 1, 1) := by decide +kernel
theorem dX0_remove_6 : decode cX0_remove 6 = .ok (.isub, 1) := by decide +kernel
theorem dX0_remove_7 : decode cX0_remove 7 = .ok (.putfield 30, 3) := by decide +kernel
theorem dX0_remove_10 : decode cX0_remove 10 = .ok (.aload_n 0, 1) := by decide +kernel
theorem dX0_remove_11 : decode cX0_remove 11 = .ok (.aload_n 0, 1) := by decide +kernel
theorem dX0_remove_12 : decode cX0_remove 12 = .ok (.getfield 9, 3) := by decide +kernel
theorem dX0_remove_15 : decode cX0_remove 15 = .ok (.iload_n 1, 1) := by decide +kernel
theorem dX0_remove_16 : decode cX0_remove 16 = .ok (.invokevirtual 44, 3) := by decide +kernel
theorem dX0_remove_19 : decode cX0_remove 19 = .ok (.aload_n 0, 1) := by decide +kernel
theorem dX0_remove_20 : decode cX0_remove 20 = .ok (.aload_n 0, 1) := by decide +kernel
theorem dX0_remove_21 : decode cX0_remove 21 = .ok (.getfield 15, 3) := by decide +kernel
theorem dX0_remove_24 : decode cX0_remove 24 = .ok (.iload_n 1, 1) := by decide +kernel
theorem dX0_remove_25 : decode cX0_remove 25 = .ok (.invokevirtual 44, 3) := by decide +kernel
theorem dX0_remove_28 : decode cX0_remove 28 = .ok (.aload_n 0, 1) := by decide +kernel
theorem dX0_remove_29 : decode cX0_remove 29 = .ok (.aload_n 0, 1) := by decide +kernel
theorem dX0_remove_30 : decode cX0_remove 30 = .ok (.getfield 18, 3) := by decide +kernel
theorem dX0_remove_33 : decode cX0_remove 33 = .ok (.iload_n 1, 1) := by decide +kernel
theorem dX0_remove_34 : decode cX0_remove 34 = .ok (.invokevirtual 44, 3) := by decide +kernel
theorem dX0_remove_37 : decode cX0_remove 37 = .ok (.aload_n 0, 1) := by decide +kernel
theorem dX0_remove_38 : decode cX0_remove 38 = .ok (.aload_n 0, 1) := by decide +kernel
theorem dX0_remove_39 : decode cX0_remove 39 = .ok (.getfield 21, 3) := by decide +kernel
theorem dX0_remove_42 : decode cX0_remove 42 = .ok (.iload_n 1, 1) := by decide +kernel
theorem dX0_remove_43 : decode cX0_remove 43 = .ok (.invokevirtual 44, 3) := by decide +kernel
theorem dX0_remove_46 : decode cX0_remove 46 = .ok (.aload_n 0, 1) := by decide +kernel
theorem dX0_remove_47 : decode cX0_remove 47 = .ok (.aload_n 0, 1) := by decide +kernel
theorem dX0_remove_48 : decode cX0_remove 48 = .ok (.getfield 24, 3) := by decide +kernel
theorem dX0_remove_51 : decode cX0_remove 51 = .ok (.iload_n 1, 1) := by decide +kernel
theorem dX0_remove_52 : decode cX0_remove 52 = .ok (.invokevirtual 44, 3) := by decide +kernel
theorem dX0_remove_55 : decode cX0_remove 55 = .ok (.return_, 1) := by decide +kernel
theorem dX0_closeGap_0 : decode cX0_closeGap 0 = .ok (.aload_n 1, 1) := by decide +kernel
theorem dX0_closeGap_1 : decode cX0_closeGap 1 = .ok (.iload_n 2, 1) := by decide +kernel
theorem dX0_closeGap_2 : decode cX0_closeGap 2 = .ok (.iconst 1, 1) := by decide +kernel
theorem dX0_closeGap_3 : decode cX0_closeGap 3 = .ok (.iadd, 1) := by decide +kernel
theorem dX0_closeGap_4 : decode cX0_closeGap 4 = .ok (.aload_n 1, 1) := by decide +kernel
theorem dX0_closeGap_5 : decode cX0_closeGap 5 = .ok (.iload_n 2, 1) := by decide +kernel
theorem dX0_closeGap_6 : decode cX0_closeGap 6 = .ok (.aload_n 0, 1) := by decide +kernel
theorem dX0_closeGap_7 : decode cX0_closeGap 7 = .ok (.getfield 30, 3) := by decide +kernel
theorem dX0_closeGap_10 : decode cX0_closeGap 10 = .ok (.iload_n 2, 1) := by decide +kernel
theorem dX0_closeGap_11 : decode cX0_closeGap 11 = .ok (.isub, 1) := by decide +kernel
theorem dX0_closeGap_12 : decode cX0_closeGap 12 = .ok (.invokestatic 38, 3) := by decide +kernel
theorem dX0_closeGap_15 : decode cX0_closeGap 15 = .ok (.return_, 1) := by decide +kernel
theorem dX0_carry_0 : decode cX0_carry 0 = .ok (.aload_n 0, 1) := by decide +kernel
theorem dX0_carry_1 : decode cX0_carry 1 = .ok (.getfield 21, 3) := by decide +kernel
theorem dX0_carry_4 : decode cX0_carry 4 = .ok (.iload_n 1, 1) := by decide +kernel
theorem dX0_carry_5 : decode cX0_carry 5 = .ok (.iload_n 2, 1) := by decide +kernel
theorem dX0_carry_6 : decode cX0_carry 6 = .ok (.iastore, 1) := by decide +kernel
theorem dX0_carry_7 : decode cX0_carry 7 = .ok (.aload_n 0, 1) := by decide +kernel
theorem dX0_carry_8 : decode cX0_carry 8 = .ok (.getfield 24, 3) := by decide +kernel
theorem dX0_carry_11 : decode cX0_carry 11 = .ok (.iload_n 1, 1) := by decide +kernel
theorem dX0_carry_12 : decode cX0_carry 12 = .ok (.dup2, 1) := by decide +kernel
theorem dX0_carry_13 : decode cX0_carry 13 = .ok (.iaload, 1) := by decide +kernel
theorem dX0_carry_14 : decode cX0_carry 14 = .ok (.iconst 1, 1) := by decide +kernel
theorem dX0_carry_15 : decode cX0_carry 15 = .ok (.iadd, 1) := by decide +kernel
theorem dX0_carry_16 : decode cX0_carry 16 = .ok (.iastore, 1) := by decide +kernel
theorem dX0_carry_17 : decode cX0_carry 17 = .ok (.aload_n 0, 1) := by decide +kernel
theorem dX0_carry_18 : decode cX0_carry 18 = .ok (.dup, 1) := by decide +kernel
theorem dX0_carry_19 : decode cX0_carry 19 = .ok (.getfield 47, 3) := by decide +kernel
theorem dX0_carry_22 : decode cX0_carry 22 = .ok (.iconst 1, 1) := by decide +kernel
theorem dX0_carry_23 : decode cX0_carry 23 = .ok (.iadd, 1) := by decide +kernel
theorem dX0_carry_24 : decode cX0_carry 24 = .ok (.putfield 47, 3) := by decide +kernel
theorem dX0_carry_27 : decode cX0_carry 27 = .ok (.return_, 1) := by decide +kernel
theorem dX0_shareGrowth_0 : decode cX0_shareGrowth 0 = .ok (.aload_n 0, 1) := by decide +kernel
theorem dX0_shareGrowth_1 : decode cX0_shareGrowth 1 = .ok (.iload_n 1, 1) := by decide +kernel
theorem dX0_shareGrowth_2 : decode cX0_shareGrowth 2 = .ok (.invokevirtual 50, 3) := by decide +kernel
theorem dX0_shareGrowth_5 : decode cX0_shareGrowth 5 = .ok (.istore_n 3, 1) := by decide +kernel
theorem dX0_shareGrowth_6 : decode cX0_shareGrowth 6 = .ok (.iload_n 3, 1) := by decide +kernel
theorem dX0_shareGrowth_7 : decode cX0_shareGrowth 7 = .ok (.ifCond .gt 4, 3) := by decide +kernel
theorem dX0_shareGrowth_10 : decode cX0_shareGrowth 10 = .ok (.return_, 1) := by decide +kernel
theorem dX0_shareGrowth_11 : decode cX0_shareGrowth 11 = .ok (.iload_n 2, 1) := by decide +kernel
theorem dX0_shareGrowth_12 : decode cX0_shareGrowth 12 = .ok (.istore 4, 2) := by decide +kernel
theorem dX0_shareGrowth_14 : decode cX0_shareGrowth 14 = .ok (.iconst 0, 1) := by decide +kernel
theorem dX0_shareGrowth_15 : decode cX0_shareGrowth 15 = .ok (.istore 5, 2) := by decide +kernel
theorem dX0_shareGrowth_17 : decode cX0_shareGrowth 17 = .ok (.iload 5, 2) := by decide +kernel
theorem dX0_shareGrowth_19 : decode cX0_shareGrowth 19 = .ok (.aload_n 0, 1) := by decide +kernel
theorem dX0_shareGrowth_20 : decode cX0_shareGrowth 20 = .ok (.getfield 30, 3) := by decide +kernel
theorem dX0_shareGrowth_23 : decode cX0_shareGrowth 23 = .ok (.if_icmp .ge 68, 3) := by decide +kernel
theorem dX0_shareGrowth_26 : decode cX0_shareGrowth 26 = .ok (.aload_n 0, 1) := by decide +kernel
theorem dX0_shareGrowth_27 : decode cX0_shareGrowth 27 = .ok (.getfield 9, 3) := by decide +kernel
theorem dX0_shareGrowth_30 : decode cX0_shareGrowth 30 = .ok (.iload 5, 2) := by decide +kernel
theorem dX0_shareGrowth_32 : decode cX0_shareGrowth 32 = .ok (.iaload, 1) := by decide +kernel
theorem dX0_shareGrowth_33 : decode cX0_shareGrowth 33 = .ok (.iload_n 1, 1) := by decide +kernel
theorem dX0_shareGrowth_34 : decode cX0_shareGrowth 34 = .ok (.if_icmp .ne 51, 3) := by decide +kernel
theorem dX0_shareGrowth_37 : decode cX0_shareGrowth 37 = .ok (.aload_n 0, 1) := by decide +kernel
theorem dX0_shareGrowth_38 : decode cX0_shareGrowth 38 = .ok (.getfield 18, 3) := by decide +kernel
theorem dX0_shareGrowth_41 : decode cX0_shareGrowth 41 = .ok (.iload 5, 2) := by decide +kernel
theorem dX0_shareGrowth_43 : decode cX0_shareGrowth 43 = .ok (.iload_n 2, 1) := by decide +kernel
theorem dX0_shareGrowth_44 : decode cX0_shareGrowth 44 = .ok (.aload_n 0, 1) := by decide +kernel
theorem dX0_shareGrowth_45 : decode cX0_shareGrowth 45 = .ok (.getfield 15, 3) := by decide +kernel
theorem dX0_shareGrowth_48 : decode cX0_shareGrowth 48 = .ok (.iload 5, 2) := by decide +kernel
theorem dX0_shareGrowth_50 : decode cX0_shareGrowth 50 = .ok (.iaload, 1) := by decide +kernel
theorem dX0_shareGrowth_51 : decode cX0_shareGrowth 51 = .ok (.imul, 1) := by decide +kernel
theorem dX0_shareGrowth_52 : decode cX0_shareGrowth 52 = .ok (.iload_n 3, 1) := by decide +kernel
theorem dX0_shareGrowth_53 : decode cX0_shareGrowth 53 = .ok (.idiv, 1) := by decide +kernel
theorem dX0_shareGrowth_54 : decode cX0_shareGrowth 54 = .ok (.iastore, 1) := by decide +kernel
theorem dX0_shareGrowth_55 : decode cX0_shareGrowth 55 = .ok (.aload_n 0, 1) := by decide +kernel
theorem dX0_shareGrowth_56 : decode cX0_shareGrowth 56 = .ok (.getfield 27, 3) := by decide +kernel
theorem dX0_shareGrowth_59 : decode cX0_shareGrowth 59 = .ok (.iload 5, 2) := by decide +kernel
theorem dX0_shareGrowth_61 : decode cX0_shareGrowth 61 = .ok (.iload_n 2, 1) := by decide +kernel
theorem dX0_shareGrowth_62 : decode cX0_shareGrowth 62 = .ok (.aload_n 0, 1) := by decide +kernel
theorem dX0_shareGrowth_63 : decode cX0_shareGrowth 63 = .ok (.getfield 15, 3) := by decide +kernel
theorem dX0_shareGrowth_66 : decode cX0_shareGrowth 66 = .ok (.iload 5, 2) := by decide +kernel
theorem dX0_shareGrowth_68 : decode cX0_shareGrowth 68 = .ok (.iaload, 1) := by decide +kernel
theorem dX0_shareGrowth_69 : decode cX0_shareGrowth 69 = .ok (.imul, 1) := by decide +kernel
theorem dX0_shareGrowth_70 : decode cX0_shareGrowth 70 = .ok (.iload_n 3, 1) := by decide +kernel
theorem dX0_shareGrowth_71 : decode cX0_shareGrowth 71 = .ok (.irem, 1) := by decide +kernel
theorem dX0_shareGrowth_72 : decode cX0_shareGrowth 72 = .ok (.iastore, 1) := by decide +kernel
theorem dX0_shareGrowth_73 : decode cX0_shareGrowth 73 = .ok (.iload 4, 2) := by decide +kernel
theorem dX0_shareGrowth_75 : decode cX0_shareGrowth 75 = .ok (.aload_n 0, 1) := by decide +kernel
theorem dX0_shareGrowth_76 : decode cX0_shareGrowth 76 = .ok (.getfield 18, 3) := by decide +kernel
theorem dX0_shareGrowth_79 : decode cX0_shareGrowth 79 = .ok (.iload 5, 2) := by decide +kernel
theorem dX0_shareGrowth_81 : decode cX0_shareGrowth 81 = .ok (.iaload, 1) := by decide +kernel
theorem dX0_shareGrowth_82 : decode cX0_shareGrowth 82 = .ok (.isub, 1) := by decide +kernel
theorem dX0_shareGrowth_83 : decode cX0_shareGrowth 83 = .ok (.istore 4, 2) := by decide +kernel
theorem dX0_shareGrowth_85 : decode cX0_shareGrowth 85 = .ok (.iinc 5 1, 3) := by decide +kernel
theorem dX0_shareGrowth_88 : decode cX0_shareGrowth 88 = .ok (.goto (-71), 3) := by decide +kernel
theorem dX0_shareGrowth_91 : decode cX0_shareGrowth 91 = .ok (.iconst 0, 1) := by decide +kernel
theorem dX0_shareGrowth_92 : decode cX0_shareGrowth 92 = .ok (.istore 5, 2) := by decide +kernel
theorem dX0_shareGrowth_94 : decode cX0_shareGrowth 94 = .ok (.iload 5, 2) := by decide +kernel
theorem dX0_shareGrowth_96 : decode cX0_shareGrowth 96 = .ok (.aload_n 0, 1) := by decide +kernel
theorem dX0_shareGrowth_97 : decode cX0_shareGrowth 97 = .ok (.getfield 30, 3) := by decide +kernel
theorem dX0_shareGrowth_100 : decode cX0_shareGrowth 100 = .ok (.if_icmp .ge 24, 3) := by decide +kernel
theorem dX0_shareGrowth_103 : decode cX0_shareGrowth 103 = .ok (.iload 4, 2) := by decide +kernel
theorem dX0_shareGrowth_105 : decode cX0_shareGrowth 105 = .ok (.ifCond .le 19, 3) := by decide +kernel
theorem dX0_shareGrowth_108 : decode cX0_shareGrowth 108 = .ok (.iload 4, 2) := by decide +kernel
theorem dX0_shareGrowth_110 : decode cX0_shareGrowth 110 = .ok (.aload_n 0, 1) := by decide +kernel
theorem dX0_shareGrowth_111 : decode cX0_shareGrowth 111 = .ok (.iload_n 1, 1) := by decide +kernel
theorem dX0_shareGrowth_112 : decode cX0_shareGrowth 112 = .ok (.invokevirtual 54, 3) := by decide +kernel
theorem dX0_shareGrowth_115 : decode cX0_shareGrowth 115 = .ok (.isub, 1) := by decide +kernel
theorem dX0_shareGrowth_116 : decode cX0_shareGrowth 116 = .ok (.istore 4, 2) := by decide +kernel
theorem dX0_shareGrowth_118 : decode cX0_shareGrowth 118 = .ok (.iinc 5 1, 3) := by decide +kernel
theorem dX0_shareGrowth_121 : decode cX0_shareGrowth 121 = .ok (.goto (-27), 3) := by decide +kernel
theorem dX0_shareGrowth_124 : decode cX0_shareGrowth 124 = .ok (.return_, 1) := by decide +kernel
theorem dX0_giveOneMore_0 : decode cX0_giveOneMore 0 = .ok (.iconst (-1), 1) := by decide +kernel
theorem dX0_giveOneMore_1 : decode cX0_giveOneMore 1 = .ok (.istore_n 2, 1) := by decide +kernel
theorem dX0_giveOneMore_2 : decode cX0_giveOneMore 2 = .ok (.iconst 0, 1) := by decide +kernel
theorem dX0_giveOneMore_3 : decode cX0_giveOneMore 3 = .ok (.istore_n 3, 1) := by decide +kernel
theorem dX0_giveOneMore_4 : decode cX0_giveOneMore 4 = .ok (.iload_n 3, 1) := by decide +kernel
theorem dX0_giveOneMore_5 : decode cX0_giveOneMore 5 = .ok (.aload_n 0, 1) := by decide +kernel
theorem dX0_giveOneMore_6 : decode cX0_giveOneMore 6 = .ok (.getfield 30, 3) := by decide +kernel
theorem dX0_giveOneMore_9 : decode cX0_giveOneMore 9 = .ok (.if_icmp .ge 41, 3) := by decide +kernel
theorem dX0_giveOneMore_12 : decode cX0_giveOneMore 12 = .ok (.aload_n 0, 1) := by decide +kernel
theorem dX0_giveOneMore_13 : decode cX0_giveOneMore 13 = .ok (.getfield 9, 3) := by decide +kernel
theorem dX0_giveOneMore_16 : decode cX0_giveOneMore 16 = .ok (.iload_n 3, 1) := by decide +kernel
theorem dX0_giveOneMore_17 : decode cX0_giveOneMore 17 = .ok (.iaload, 1) := by decide +kernel
theorem dX0_giveOneMore_18 : decode cX0_giveOneMore 18 = .ok (.iload_n 1, 1) := by decide +kernel
theorem dX0_giveOneMore_19 : decode cX0_giveOneMore 19 = .ok (.if_icmp .ne 25, 3) := by decide +kernel
theorem dX0_giveOneMore_22 : decode cX0_giveOneMore 22 = .ok (.iload_n 2, 1) := by decide +kernel
theorem dX0_giveOneMore_23 : decode cX0_giveOneMore 23 = .ok (.iconst (-1), 1) := by decide +kernel
theorem dX0_giveOneMore_24 : decode cX0_giveOneMore 24 = .ok (.if_icmp .eq 18, 3) := by decide +kernel
theorem dX0_giveOneMore_27 : decode cX0_giveOneMore 27 = .ok (.aload_n 0, 1) := by decide +kernel
theorem dX0_giveOneMore_28 : decode cX0_giveOneMore 28 = .ok (.getfield 27, 3) := by decide +kernel
theorem dX0_giveOneMore_31 : decode cX0_giveOneMore 31 = .ok (.iload_n 3, 1) := by decide +kernel
theorem dX0_giveOneMore_32 : decode cX0_giveOneMore 32 = .ok (.iaload, 1) := by decide +kernel
theorem dX0_giveOneMore_33 : decode cX0_giveOneMore 33 = .ok (.aload_n 0, 1) := by decide +kernel
theorem dX0_giveOneMore_34 : decode cX0_giveOneMore 34 = .ok (.getfield 27, 3) := by decide +kernel
theorem dX0_giveOneMore_37 : decode cX0_giveOneMore 37 = .ok (.iload_n 2, 1) := by decide +kernel
theorem dX0_giveOneMore_38 : decode cX0_giveOneMore 38 = .ok (.iaload, 1) := by decide +kernel
theorem dX0_giveOneMore_39 : decode cX0_giveOneMore 39 = .ok (.if_icmp .le 5, 3) := by decide +kernel
theorem dX0_giveOneMore_42 : decode cX0_giveOneMore 42 = .ok (.iload_n 3, 1) := by decide +kernel
theorem dX0_giveOneMore_43 : decode cX0_giveOneMore 43 = .ok (.istore_n 2, 1) := by decide +kernel
theorem dX0_giveOneMore_44 : decode cX0_giveOneMore 44 = .ok (.iinc 3 1, 3) := by decide +kernel
theorem dX0_giveOneMore_47 : decode cX0_giveOneMore 47 = .ok (.goto (-43), 3) := by decide +kernel
theorem dX0_giveOneMore_50 : decode cX0_giveOneMore 50 = .ok (.iload_n 2, 1) := by decide +kernel
theorem dX0_giveOneMore_51 : decode cX0_giveOneMore 51 = .ok (.iconst (-1), 1) := by decide +kernel
theorem dX0_giveOneMore_52 : decode cX0_giveOneMore 52 = .ok (.if_icmp .ne 5, 3) := by decide +kernel
theorem dX0_giveOneMore_55 : decode cX0_giveOneMore 55 = .ok (.iconst 0, 1) := by decide +kernel
theorem dX0_giveOneMore_56 : decode cX0_giveOneMore 56 = .ok (.ireturn, 1) := by decide +kernel
theorem dX0_giveOneMore_57 : decode cX0_giveOneMore 57 = .ok (.aload_n 0, 1) := by decide +kernel
theorem dX0_giveOneMore_58 : decode cX0_giveOneMore 58 = .ok (.getfield 18, 3) := by decide +kernel
theorem dX0_giveOneMore_61 : decode cX0_giveOneMore 61 = .ok (.iload_n 2, 1) := by decide +kernel
theorem dX0_giveOneMore_62 : decode cX0_giveOneMore 62 = .ok (.dup2, 1) := by decide +kernel
theorem dX0_giveOneMore_63 : decode cX0_giveOneMore 63 = .ok (.iaload, 1) := by decide +kernel
theorem dX0_giveOneMore_64 : decode cX0_giveOneMore 64 = .ok (.iconst 1, 1) := by decide +kernel
theorem dX0_giveOneMore_65 : decode cX0_giveOneMore 65 = .ok (.iadd, 1) := by decide +kernel
theorem dX0_giveOneMore_66 : decode cX0_giveOneMore 66 = .ok (.iastore, 1) := by decide +kernel
theorem dX0_giveOneMore_67 : decode cX0_giveOneMore 67 = .ok (.aload_n 0, 1) := by decide +kernel
theorem dX0_giveOneMore_68 : decode cX0_giveOneMore 68 = .ok (.getfield 27, 3) := by decide +kernel
theorem dX0_giveOneMore_71 : decode cX0_giveOneMore 71 = .ok (.iload_n 2, 1) := by decide +kernel
theorem dX0_giveOneMore_72 : decode cX0_giveOneMore 72 = .ok (.iconst (-1), 1) := by decide +kernel
theorem dX0_giveOneMore_73 : decode cX0_giveOneMore 73 = .ok (.iastore, 1) := by decide +kernel
theorem dX0_giveOneMore_74 : decode cX0_giveOneMore 74 = .ok (.iconst 1, 1) := by decide +kernel
theorem dX0_giveOneMore_75 : decode cX0_giveOneMore 75 = .ok (.ireturn, 1) := by decide +kernel
theorem dX0_allWidths_0 : decode cX0_allWidths 0 = .ok (.iconst 0, 1) := by decide +kernel
theorem dX0_allWidths_1 : decode cX0_allWidths 1 = .ok (.istore_n 1, 1) := by decide +kernel
theorem dX0_allWidths_2 : decode cX0_allWidths 2 = .ok (.iconst 0, 1) := by decide +kernel
theorem dX0_allWidths_3 : decode cX0_allWidths 3 = .ok (.istore_n 2, 1) := by decide +kernel
theorem dX0_allWidths_4 : decode cX0_allWidths 4 = .ok (.iload_n 2, 1) := by decide +kernel
theorem dX0_allWidths_5 : decode cX0_allWidths 5 = .ok (.aload_n 0, 1) := by decide +kernel
theorem dX0_allWidths_6 : decode cX0_allWidths 6 = .ok (.getfield 30, 3) := by decide +kernel
theorem dX0_allWidths_9 : decode cX0_allWidths 9 = .ok (.if_icmp .ge 18, 3) := by decide +kernel
theorem dX0_allWidths_12 : decode cX0_allWidths 12 = .ok (.iload_n 1, 1) := by decide +kernel
theorem dX0_allWidths_13 : decode cX0_allWidths 13 = .ok (.aload_n 0, 1) := by decide +kernel
theorem dX0_allWidths_14 : decode cX0_allWidths 14 = .ok (.getfield 15, 3) := by decide +kernel
theorem dX0_allWidths_17 : decode cX0_allWidths 17 = .ok (.iload_n 2, 1) := by decide +kernel
theorem dX0_allWidths_18 : decode cX0_allWidths 18 = .ok (.iaload, 1) := by decide +kernel
theorem dX0_allWidths_19 : decode cX0_allWidths 19 = .ok (.iadd, 1) := by decide +kernel
theorem dX0_allWidths_20 : decode cX0_allWidths 20 = .ok (.istore_n 1, 1) := by decide +kernel
theorem dX0_allWidths_21 : decode cX0_allWidths 21 = .ok (.iinc 2 1, 3) := by decide +kernel
theorem dX0_allWidths_24 : decode cX0_allWidths 24 = .ok (.goto (-20), 3) := by decide +kernel
theorem dX0_allWidths_27 : decode cX0_allWidths 27 = .ok (.iload_n 1, 1) := by decide +kernel
theorem dX0_allWidths_28 : decode cX0_allWidths 28 = .ok (.ireturn, 1) := by decide +kernel
theorem dX0_loadOn_0 : decode cX0_loadOn 0 = .ok (.aload_n 0, 1) := by decide +kernel
theorem dX0_loadOn_1 : decode cX0_loadOn 1 = .ok (.aload_n 0, 1) := by decide +kernel
theorem dX0_loadOn_2 : decode cX0_loadOn 2 = .ok (.getfield 21, 3) := by decide +kernel
theorem dX0_loadOn_5 : decode cX0_loadOn 5 = .ok (.iload_n 1, 1) := by decide +kernel
theorem dX0_loadOn_6 : decode cX0_loadOn 6 = .ok (.aload_n 0, 1) := by decide +kernel
theorem dX0_loadOn_7 : decode cX0_loadOn 7 = .ok (.getfield 15, 3) := by decide +kernel
theorem dX0_loadOn_10 : decode cX0_loadOn 10 = .ok (.invokevirtual 57, 3) := by decide +kernel
theorem dX0_loadOn_13 : decode cX0_loadOn 13 = .ok (.ireturn, 1) := by decide +kernel
theorem dX0_rateOn_0 : decode cX0_rateOn 0 = .ok (.aload_n 0, 1) := by decide +kernel
theorem dX0_rateOn_1 : decode cX0_rateOn 1 = .ok (.aload_n 0, 1) := by decide +kernel
theorem dX0_rateOn_2 : decode cX0_rateOn 2 = .ok (.getfield 21, 3) := by decide +kernel
theorem dX0_rateOn_5 : decode cX0_rateOn 5 = .ok (.iload_n 1, 1) := by decide +kernel
theorem dX0_rateOn_6 : decode cX0_rateOn 6 = .ok (.aload_n 0, 1) := by decide +kernel
theorem dX0_rateOn_7 : decode cX0_rateOn 7 = .ok (.getfield 18, 3) := by decide +kernel
theorem dX0_rateOn_10 : decode cX0_rateOn 10 = .ok (.invokevirtual 57, 3) := by decide +kernel
theorem dX0_rateOn_13 : decode cX0_rateOn 13 = .ok (.ireturn, 1) := by decide +kernel
theorem dX0_firstOn_0 : decode cX0_firstOn 0 = .ok (.aload_n 0, 1) := by decide +kernel
theorem dX0_firstOn_1 : decode cX0_firstOn 1 = .ok (.aload_n 0, 1) := by decide +kernel
theorem dX0_firstOn_2 : decode cX0_firstOn 2 = .ok (.getfield 21, 3) := by decide +kernel
theorem dX0_firstOn_5 : decode cX0_firstOn 5 = .ok (.iload_n 1, 1) := by decide +kernel
theorem dX0_firstOn_6 : decode cX0_firstOn 6 = .ok (.invokevirtual 61, 3) := by decide +kernel
theorem dX0_firstOn_9 : decode cX0_firstOn 9 = .ok (.ireturn, 1) := by decide +kernel
theorem dX0_countOn_0 : decode cX0_countOn 0 = .ok (.aload_n 0, 1) := by decide +kernel
theorem dX0_countOn_1 : decode cX0_countOn 1 = .ok (.aload_n 0, 1) := by decide +kernel
theorem dX0_countOn_2 : decode cX0_countOn 2 = .ok (.getfield 21, 3) := by decide +kernel
theorem dX0_countOn_5 : decode cX0_countOn 5 = .ok (.iload_n 1, 1) := by decide +kernel
theorem dX0_countOn_6 : decode cX0_countOn 6 = .ok (.invokevirtual 65, 3) := by decide +kernel
theorem dX0_countOn_9 : decode cX0_countOn 9 = .ok (.ireturn, 1) := by decide +kernel
theorem dX0_firstIn_0 : decode cX0_firstIn 0 = .ok (.aload_n 0, 1) := by decide +kernel
theorem dX0_firstIn_1 : decode cX0_firstIn 1 = .ok (.aload_n 0, 1) := by decide +kernel
theorem dX0_firstIn_2 : decode cX0_firstIn 2 = .ok (.getfield 9, 3) := by decide +kernel
theorem dX0_firstIn_5 : decode cX0_firstIn 5 = .ok (.iload_n 1, 1) := by decide +kernel
theorem dX0_firstIn_6 : decode cX0_firstIn 6 = .ok (.invokevirtual 61, 3) := by decide +kernel
theorem dX0_firstIn_9 : decode cX0_firstIn 9 = .ok (.ireturn, 1) := by decide +kernel
theorem dX0_countIn_0 : decode cX0_countIn 0 = .ok (.aload_n 0, 1) := by decide +kernel
theorem dX0_countIn_1 : decode cX0_countIn 1 = .ok (.aload_n 0, 1) := by decide +kernel
theorem dX0_countIn_2 : decode cX0_countIn 2 = .ok (.getfield 9, 3) := by decide +kernel
theorem dX0_countIn_5 : decode cX0_countIn 5 = .ok (.iload_n 1, 1) := by decide +kernel
theorem dX0_countIn_6 : decode cX0_countIn 6 = .ok (.invokevirtual 65, 3) := by decide +kernel
theorem dX0_countIn_9 : decode cX0_countIn 9 = .ok (.ireturn, 1) := by decide +kernel
theorem dX0_widthsIn_0 : decode cX0_widthsIn 0 = .ok (.aload_n 0, 1) := by decide +kernel
theorem dX0_widthsIn_1 : decode cX0_widthsIn 1 = .ok (.aload_n 0, 1) := by decide +kernel
theorem dX0_widthsIn_2 : decode cX0_widthsIn 2 = .ok (.getfield 9, 3) := by decide +kernel
theorem dX0_widthsIn_5 : decode cX0_widthsIn 5 = .ok (.iload_n 1, 1) := by decide +kernel
theorem dX0_widthsIn_6 : decode cX0_widthsIn 6 = .ok (.aload_n 0, 1) := by decide +kernel
theorem dX0_widthsIn_7 : decode cX0_widthsIn 7 = .ok (.getfield 15, 3) := by decide +kernel
theorem dX0_widthsIn_10 : decode cX0_widthsIn 10 = .ok (.invokevirtual 57, 3) := by decide +kernel
theorem dX0_widthsIn_13 : decode cX0_widthsIn 13 = .ok (.ireturn, 1) := by decide +kernel
theorem dX0_firstWith_0 : decode cX0_firstWith 0 = .ok (.iconst 0, 1) := by decide +kernel
theorem dX0_firstWith_1 : decode cX0_firstWith 1 = .ok (.istore_n 3, 1) := by decide +kernel
theorem dX0_firstWith_2 : decode cX0_firstWith 2 = .ok (.iload_n 3, 1) := by decide +kernel
theorem dX0_firstWith_3 : decode cX0_firstWith 3 = .ok (.aload_n 0, 1) := by decide +kernel
theorem dX0_firstWith_4 : decode cX0_firstWith 4 = .ok (.getfield 30, 3) := by decide +kernel
theorem dX0_firstWith_7 : decode cX0_firstWith 7 = .ok (.if_icmp .ge 18, 3) := by decide +kernel
theorem dX0_firstWith_10 : decode cX0_firstWith 10 = .ok (.aload_n 1, 1) := by decide +kernel
theorem dX0_firstWith_11 : decode cX0_firstWith 11 = .ok (.iload_n 3, 1) := by decide +kernel
theorem dX0_firstWith_12 : decode cX0_firstWith 12 = .ok (.iaload, 1) := by decide +kernel
theorem dX0_firstWith_13 : decode cX0_firstWith 13 = .ok (.iload_n 2, 1) := by decide +kernel
theorem dX0_firstWith_14 : decode cX0_firstWith 14 = .ok (.if_icmp .ne 5, 3) := by decide +kernel
theorem dX0_firstWith_17 : decode cX0_firstWith 17 = .ok (.iload_n 3, 1) := by decide +kernel
theorem dX0_firstWith_18 : decode cX0_firstWith 18 = .ok (.ireturn, 1) := by decide +kernel
theorem dX0_firstWith_19 : decode cX0_firstWith 19 = .ok (.iinc 3 1, 3) := by decide +kernel
theorem dX0_firstWith_22 : decode cX0_firstWith 22 = .ok (.goto (-20), 3) := by decide +kernel
theorem dX0_firstWith_25 : decode cX0_firstWith 25 = .ok (.iconst (-1), 1) := by decide +kernel
theorem dX0_firstWith_26 : decode cX0_firstWith 26 = .ok (.ireturn, 1) := by decide +kernel
theorem dX0_sumWith_0 : decode cX0_sumWith 0 = .ok (.iconst 0, 1) := by decide +kernel
theorem dX0_sumWith_1 : decode cX0_sumWith 1 = .ok (.istore 4, 2) := by decide +kernel
theorem dX0_sumWith_3 : decode cX0_sumWith 3 = .ok (.iconst 0, 1) := by decide +kernel
theorem dX0_sumWith_4 : decode cX0_sumWith 4 = .ok (.istore 5, 2) := by decide +kernel
theorem dX0_sumWith_6 : decode cX0_sumWith 6 = .ok (.iload 5, 2) := by decide +kernel
theorem dX0_sumWith_8 : decode cX0_sumWith 8 = .ok (.aload_n 0, 1) := by decide +kernel
theorem dX0_sumWith_9 : decode cX0_sumWith 9 = .ok (.getfield 30, 3) := by decide +kernel
theorem dX0_sumWith_12 : decode cX0_sumWith 12 = .ok (.if_icmp .ge 26, 3) := by decide +kernel
theorem dX0_sumWith_15 : decode cX0_sumWith 15 = .ok (.aload_n 1, 1) := by decide +kernel
theorem dX0_sumWith_16 : decode cX0_sumWith 16 = .ok (.iload 5, 2) := by decide +kernel
theorem dX0_sumWith_18 : decode cX0_sumWith 18 = .ok (.iaload, 1) := by decide +kernel
theorem dX0_sumWith_19 : decode cX0_sumWith 19 = .ok (.iload_n 2, 1) := by decide +kernel
theorem dX0_sumWith_20 : decode cX0_sumWith 20 = .ok (.if_icmp .ne 12, 3) := by decide +kernel
theorem dX0_sumWith_23 : decode cX0_sumWith 23 = .ok (.iload 4, 2) := by decide +kernel
theorem dX0_sumWith_25 : decode cX0_sumWith 25 = .ok (.aload_n 3, 1) := by decide +kernel
theorem dX0_sumWith_26 : decode cX0_sumWith 26 = .ok (.iload 5, 2) := by decide +kernel
theorem dX0_sumWith_28 : decode cX0_sumWith 28 = .ok (.iaload, 1) := by decide +kernel
theorem dX0_sumWith_29 : decode cX0_sumWith 29 = .ok (.iadd, 1) := by decide +kernel
theorem dX0_sumWith_30 : decode cX0_sumWith 30 = .ok (.istore 4, 2) := by decide +kernel
theorem dX0_sumWith_32 : decode cX0_sumWith 32 = .ok (.iinc 5 1, 3) := by decide +kernel
theorem dX0_sumWith_35 : decode cX0_sumWith 35 = .ok (.goto (-29), 3) := by decide +kernel
theorem dX0_sumWith_38 : decode cX0_sumWith 38 = .ok (.iload 4, 2) := by decide +kernel
theorem dX0_sumWith_40 : decode cX0_sumWith 40 = .ok (.ireturn, 1) := by decide +kernel
theorem dX0_countWith_0 : decode cX0_countWith 0 = .ok (.iconst 0, 1) := by decide +kernel
theorem dX0_countWith_1 : decode cX0_countWith 1 = .ok (.istore_n 3, 1) := by decide +kernel
theorem dX0_countWith_2 : decode cX0_countWith 2 = .ok (.iconst 0, 1) := by decide +kernel
theorem dX0_countWith_3 : decode cX0_countWith 3 = .ok (.istore 4, 2) := by decide +kernel
theorem dX0_countWith_5 : decode cX0_countWith 5 = .ok (.iload 4, 2) := by decide +kernel
theorem dX0_countWith_7 : decode cX0_countWith 7 = .ok (.aload_n 0, 1) := by decide +kernel
theorem dX0_countWith_8 : decode cX0_countWith 8 = .ok (.getfield 30, 3) := by decide +kernel
theorem dX0_countWith_11 : decode cX0_countWith 11 = .ok (.if_icmp .ge 20, 3) := by decide +kernel
theorem dX0_countWith_14 : decode cX0_countWith 14 = .ok (.aload_n 1, 1) := by decide +kernel
theorem dX0_countWith_15 : decode cX0_countWith 15 = .ok (.iload 4, 2) := by decide +kernel
theorem dX0_countWith_17 : decode cX0_countWith 17 = .ok (.iaload, 1) := by decide +kernel
theorem dX0_countWith_18 : decode cX0_countWith 18 = .ok (.iload_n 2, 1) := by decide +kernel
theorem dX0_countWith_19 : decode cX0_countWith 19 = .ok (.if_icmp .ne 6, 3) := by decide +kernel
theorem dX0_countWith_22 : decode cX0_countWith 22 = .ok (.iinc 3 1, 3) := by decide +kernel
theorem dX0_countWith_25 : decode cX0_countWith 25 = .ok (.iinc 4 1, 3) := by decide +kernel
theorem dX0_countWith_28 : decode cX0_countWith 28 = .ok (.goto (-23), 3) := by decide +kernel
theorem dX0_countWith_31 : decode cX0_countWith 31 = .ok (.iload_n 3, 1) := by decide +kernel
theorem dX0_countWith_32 : decode cX0_countWith 32 = .ok (.ireturn, 1) := by decide +kernel
theorem dX0_shelvesOf_0 : decode cX0_shelvesOf 0 = .ok (.iconst 0, 1) := by decide +kernel
theorem dX0_shelvesOf_1 : decode cX0_shelvesOf 1 = .ok (.istore_n 2, 1) := by decide +kernel
theorem dX0_shelvesOf_2 : decode cX0_shelvesOf 2 = .ok (.iconst (-1), 1) := by decide +kernel
theorem dX0_shelvesOf_3 : decode cX0_shelvesOf 3 = .ok (.istore_n 3, 1) := by decide +kernel
theorem dX0_shelvesOf_4 : decode cX0_shelvesOf 4 = .ok (.iconst 0, 1) := by decide +kernel
theorem dX0_shelvesOf_5 : decode cX0_shelvesOf 5 = .ok (.istore 4, 2) := by decide +kernel
theorem dX0_shelvesOf_7 : decode cX0_shelvesOf 7 = .ok (.iload 4, 2) := by decide +kernel
theorem dX0_shelvesOf_9 : decode cX0_shelvesOf 9 = .ok (.aload_n 0, 1) := by decide +kernel
theorem dX0_shelvesOf_10 : decode cX0_shelvesOf 10 = .ok (.getfield 30, 3) := by decide +kernel
theorem dX0_shelvesOf_13 : decode cX0_shelvesOf 13 = .ok (.if_icmp .ge 42, 3) := by decide +kernel
theorem dX0_shelvesOf_16 : decode cX0_shelvesOf 16 = .ok (.aload_n 0, 1) := by decide +kernel
theorem dX0_shelvesOf_17 : decode cX0_shelvesOf 17 = .ok (.getfield 9, 3) := by decide +kernel
theorem dX0_shelvesOf_20 : decode cX0_shelvesOf 20 = .ok (.iload 4, 2) := by decide +kernel
theorem dX0_shelvesOf_22 : decode cX0_shelvesOf 22 = .ok (.iaload, 1) := by decide +kernel
theorem dX0_shelvesOf_23 : decode cX0_shelvesOf 23 = .ok (.iload_n 1, 1) := by decide +kernel
theorem dX0_shelvesOf_24 : decode cX0_shelvesOf 24 = .ok (.if_icmp .ne 25, 3) := by decide +kernel
theorem dX0_shelvesOf_27 : decode cX0_shelvesOf 27 = .ok (.aload_n 0, 1) := by decide +kernel
theorem dX0_shelvesOf_28 : decode cX0_shelvesOf 28 = .ok (.getfield 21, 3) := by decide +kernel
theorem dX0_shelvesOf_31 : decode cX0_shelvesOf 31 = .ok (.iload 4, 2) := by decide +kernel
theorem dX0_shelvesOf_33 : decode cX0_shelvesOf 33 = .ok (.iaload, 1) := by decide +kernel
theorem dX0_shelvesOf_34 : decode cX0_shelvesOf 34 = .ok (.iload_n 3, 1) := by decide +kernel
theorem dX0_shelvesOf_35 : decode cX0_shelvesOf 35 = .ok (.if_icmp .eq 14, 3) := by decide +kernel
theorem dX0_shelvesOf_38 : decode cX0_shelvesOf 38 = .ok (.aload_n 0, 1) := by decide +kernel
theorem dX0_shelvesOf_39 : decode cX0_shelvesOf 39 = .ok (.getfield 21, 3) := by decide +kernel
theorem dX0_shelvesOf_42 : decode cX0_shelvesOf 42 = .ok (.iload 4, 2) := by decide +kernel
theorem dX0_shelvesOf_44 : decode cX0_shelvesOf 44 = .ok (.iaload, 1) := by decide +kernel
theorem dX0_shelvesOf_45 : decode cX0_shelvesOf 45 = .ok (.istore_n 3, 1) := by decide +kernel
theorem dX0_shelvesOf_46 : decode cX0_shelvesOf 46 = .ok (.iinc 2 1, 3) := by decide +kernel
theorem dX0_shelvesOf_49 : decode cX0_shelvesOf 49 = .ok (.iinc 4 1, 3) := by decide +kernel
theorem dX0_shelvesOf_52 : decode cX0_shelvesOf 52 = .ok (.goto (-45), 3) := by decide +kernel
theorem dX0_shelvesOf_55 : decode cX0_shelvesOf 55 = .ok (.iload_n 2, 1) := by decide +kernel
theorem dX0_shelvesOf_56 : decode cX0_shelvesOf 56 = .ok (.ireturn, 1) := by decide +kernel
theorem dX0_widthsAheadOf_0 : decode cX0_widthsAheadOf 0 = .ok (.iconst 0, 1) := by decide +kernel
theorem dX0_widthsAheadOf_1 : decode cX0_widthsAheadOf 1 = .ok (.istore_n 2, 1) := by decide +kernel
theorem dX0_widthsAheadOf_2 : decode cX0_widthsAheadOf 2 = .ok (.iconst 0, 1) := by decide +kernel
theorem dX0_widthsAheadOf_3 : decode cX0_widthsAheadOf 3 = .ok (.istore_n 3, 1) := by decide +kernel
theorem dX0_widthsAheadOf_4 : decode cX0_widthsAheadOf 4 = .ok (.iload_n 3, 1) := by decide +kernel
theorem dX0_widthsAheadOf_5 : decode cX0_widthsAheadOf 5 = .ok (.iload_n 1, 1) := by decide +kernel
theorem dX0_widthsAheadOf_6 : decode cX0_widthsAheadOf 6 = .ok (.if_icmp .ge 33, 3) := by decide +kernel
theorem dX0_widthsAheadOf_9 : decode cX0_widthsAheadOf 9 = .ok (.aload_n 0, 1) := by decide +kernel
theorem dX0_widthsAheadOf_10 : decode cX0_widthsAheadOf 10 = .ok (.getfield 21, 3) := by decide +kernel
theorem dX0_widthsAheadOf_13 : decode cX0_widthsAheadOf 13 = .ok (.iload_n 3, 1) := by decide +kernel
theorem dX0_widthsAheadOf_14 : decode cX0_widthsAheadOf 14 = .ok (.iaload, 1) := by decide +kernel
theorem dX0_widthsAheadOf_15 : decode cX0_widthsAheadOf 15 = .ok (.aload_n 0, 1) := by decide +kernel
theorem dX0_widthsAheadOf_16 : decode cX0_widthsAheadOf 16 = .ok (.getfield 21, 3) := by decide +kernel
theorem dX0_widthsAheadOf_19 : decode cX0_widthsAheadOf 19 = .ok (.iload_n 1, 1) := by decide +kernel
theorem dX0_widthsAheadOf_20 : decode cX0_widthsAheadOf 20 = .ok (.iaload, 1) := by decide +kernel
theorem dX0_widthsAheadOf_21 : decode cX0_widthsAheadOf 21 = .ok (.if_icmp .ne 12, 3) := by decide +kernel
theorem dX0_widthsAheadOf_24 : decode cX0_widthsAheadOf 24 = .ok (.iload_n 2, 1) := by decide +kernel
theorem dX0_widthsAheadOf_25 : decode cX0_widthsAheadOf 25 = .ok (.aload_n 0, 1) := by decide +kernel
theorem dX0_widthsAheadOf_26 : decode cX0_widthsAheadOf 26 = .ok (.getfield 15, 3) := by decide +kernel
theorem dX0_widthsAheadOf_29 : decode cX0_widthsAheadOf 29 = .ok (.iload_n 3, 1) := by decide +kernel
theorem dX0_widthsAheadOf_30 : decode cX0_widthsAheadOf 30 = .ok (.iaload, 1) := by decide +kernel
theorem dX0_widthsAheadOf_31 : decode cX0_widthsAheadOf 31 = .ok (.iadd, 1) := by decide +kernel
theorem dX0_widthsAheadOf_32 : decode cX0_widthsAheadOf 32 = .ok (.istore_n 2, 1) := by decide +kernel
theorem dX0_widthsAheadOf_33 : decode cX0_widthsAheadOf 33 = .ok (.iinc 3 1, 3) := by decide +kernel
theorem dX0_widthsAheadOf_36 : decode cX0_widthsAheadOf 36 = .ok (.goto (-32), 3) := by decide +kernel
theorem dX0_widthsAheadOf_39 : decode cX0_widthsAheadOf 39 = .ok (.iload_n 2, 1) := by decide +kernel
theorem dX0_widthsAheadOf_40 : decode cX0_widthsAheadOf 40 = .ok (.ireturn, 1) := by decide +kernel
theorem dX1_init_0 : decode cX1_init 0 = .ok (.aload_n 0, 1) := by decide +kernel
theorem dX1_init_1 : decode cX1_init 1 = .ok (.invokespecial 3, 3) := by decide +kernel
theorem dX1_init_4 : decode cX1_init 4 = .ok (.aload_n 0, 1) := by decide +kernel
theorem dX1_init_5 : decode cX1_init 5 = .ok (.bipush 60, 2) := by decide +kernel
theorem dX1_init_7 : decode cX1_init 7 = .ok (.newarray .int, 2) := by decide +kernel
theorem dX1_init_9 : decode cX1_init 9 = .ok (.putfield 9, 3) := by decide +kernel
theorem dX1_init_12 : decode cX1_init 12 = .ok (.aload_n 0, 1) := by decide +kernel
theorem dX1_init_13 : decode cX1_init 13 = .ok (.bipush 12, 2) := by decide +kernel
theorem dX1_init_15 : decode cX1_init 15 = .ok (.newarray .int, 2) := by decide +kernel
theorem dX1_init_17 : decode cX1_init 17 = .ok (.putfield 15, 3) := by decide +kernel
theorem dX1_init_20 : decode cX1_init 20 = .ok (.aload_n 0, 1) := by decide +kernel
theorem dX1_init_21 : decode cX1_init 21 = .ok (.bipush 12, 2) := by decide +kernel
theorem dX1_init_23 : decode cX1_init 23 = .ok (.newarray .int, 2) := by decide +kernel
theorem dX1_init_25 : decode cX1_init 25 = .ok (.putfield 18, 3) := by decide +kernel
theorem dX1_init_28 : decode cX1_init 28 = .ok (.aload_n 0, 1) := by decide +kernel
theorem dX1_init_29 : decode cX1_init 29 = .ok (.bipush 12, 2) := by decide +kernel
theorem dX1_init_31 : decode cX1_init 31 = .ok (.newarray .int, 2) := by decide +kernel
theorem dX1_init_33 : decode cX1_init 33 = .ok (.putfield 21, 3) := by decide +kernel
theorem dX1_init_36 : decode cX1_init 36 = .ok (.aload_n 0, 1) := by decide +kernel
theorem dX1_init_37 : decode cX1_init 37 = .ok (.bipush 60, 2) := by decide +kernel
theorem dX1_init_39 : decode cX1_init 39 = .ok (.newarray .int, 2) := by decide +kernel
theorem dX1_init_41 : decode cX1_init 41 = .ok (.putfield 24, 3) := by decide +kernel
theorem dX1_init_44 : decode cX1_init 44 = .ok (.aload_n 0, 1) := by decide +kernel
theorem dX1_init_45 : decode cX1_init 45 = .ok (.bipush 60, 2) := by decide +kernel
theorem dX1_init_47 : decode cX1_init 47 = .ok (.newarray .int, 2) := by decide +kernel
theorem dX1_init_49 : decode cX1_init 49 = .ok (.putfield 27, 3) := by decide +kernel
theorem dX1_init_52 : decode cX1_init 52 = .ok (.aload_n 0, 1) := by decide +kernel
theorem dX1_init_53 : decode cX1_init 53 = .ok (.bipush 60, 2) := by decide +kernel
theorem dX1_init_55 : decode cX1_init 55 = .ok (.newarray .int, 2) := by decide +kernel
theorem dX1_init_57 : decode cX1_init 57 = .ok (.putfield 30, 3) := by decide +kernel
theorem dX1_init_60 : decode cX1_init 60 = .ok (.aload_n 0, 1) := by decide +kernel
theorem dX1_init_61 : decode cX1_init 61 = .ok (.bipush 13, 2) := by decide +kernel
theorem dX1_init_63 : decode cX1_init 63 = .ok (.bipush 61, 2) := by decide +kernel
theorem dX1_init_65 : decode cX1_init 65 = .ok (.multianewarray 33 2, 4) := by decide +kernel
theorem dX1_init_69 : decode cX1_init 69 = .ok (.putfield 35, 3) := by decide +kernel
theorem dX1_init_72 : decode cX1_init 72 = .ok (.aload_n 0, 1) := by decide +kernel
theorem dX1_init_73 : decode cX1_init 73 = .ok (.bipush 12, 2) := by decide +kernel
theorem dX1_init_75 : decode cX1_init 75 = .ok (.bipush 61, 2) := by decide +kernel
theorem dX1_init_77 : decode cX1_init 77 = .ok (.multianewarray 33 2, 4) := by decide +kernel
theorem dX1_init_81 : decode cX1_init 81 = .ok (.putfield 38, 3) := by decide +kernel
theorem dX1_init_84 : decode cX1_init 84 = .ok (.return_, 1) := by decide +kernel
theorem dX1_load_0 : decode cX1_load 0 = .ok (.aload_n 0, 1) := by decide +kernel
theorem dX1_load_1 : decode cX1_load 1 = .ok (.aload_n 1, 1) := by decide +kernel
theorem dX1_load_2 : decode cX1_load 2 = .ok (.getfield 41, 3) := by decide +kernel
theorem dX1_load_5 : decode cX1_load 5 = .ok (.putfield 47, 3) := by decide +kernel
theorem dX1_load_8 : decode cX1_load 8 = .ok (.iconst 0, 1) := by decide +kernel
theorem dX1_load_9 : decode cX1_load 9 = .ok (.istore 4, 2) := by decide +kernel
theorem dX1_load_11 : decode cX1_load 11 = .ok (.iload 4, 2) := by decide +kernel
theorem dX1_load_13 : decode cX1_load 13 = .ok (.aload_n 0, 1) := by decide +kernel
theorem dX1_load_14 : decode cX1_load 14 = .ok (.getfield 47, 3) := by decide +kernel
theorem dX1_load_17 : decode cX1_load 17 = .ok (.if_icmp .ge 37, 3) := by decide +kernel
theorem dX1_load_20 : decode cX1_load 20 = .ok (.aload_n 0, 1) := by decide +kernel
theorem dX1_load_21 : decode cX1_load 21 = .ok (.getfield 18, 3) := by decide +kernel
theorem dX1_load_24 : decode cX1_load 24 = .ok (.iload 4, 2) := by decide +kernel
theorem dX1_load_26 : decode cX1_load 26 = .ok (.aload_n 1, 1) := by decide +kernel
theorem dX1_load_27 : decode cX1_load 27 = .ok (.getfield 50, 3) := by decide +kernel
theorem dX1_load_30 : decode cX1_load 30 = .ok (.iload 4, 2) := by decide +kernel
theorem dX1_load_32 : decode cX1_load 32 = .ok (.iaload, 1) := by decide +kernel
theorem dX1_load_33 : decode cX1_load 33 = .ok (.iastore, 1) := by decide +kernel
theorem dX1_load_34 : decode cX1_load 34 = .ok (.aload_n 0, 1) := by decide +kernel
theorem dX1_load_35 : decode cX1_load 35 = .ok (.getfield 21, 3) := by decide +kernel
theorem dX1_load_38 : decode cX1_load 38 = .ok (.iload 4, 2) := by decide +kernel
theorem dX1_load_40 : decode cX1_load 40 = .ok (.aload_n 1, 1) := by decide +kernel
theorem dX1_load_41 : decode cX1_load 41 = .ok (.getfield 51, 3) := by decide +kernel
theorem dX1_load_44 : decode cX1_load 44 = .ok (.iload 4, 2) := by decide +kernel
theorem dX1_load_46 : decode cX1_load 46 = .ok (.iaload, 1) := by decide +kernel
theorem dX1_load_47 : decode cX1_load 47 = .ok (.iastore, 1) := by decide +kernel
theorem dX1_load_48 : decode cX1_load 48 = .ok (.iinc 4 1, 3) := by decide +kernel
theorem dX1_load_51 : decode cX1_load 51 = .ok (.goto (-40), 3) := by decide +kernel
theorem dX1_load_54 : decode cX1_load 54 = .ok (.aload_n 0, 1) := by decide +kernel
theorem dX1_load_55 : decode cX1_load 55 = .ok (.aload_n 2, 1) := by decide +kernel
theorem dX1_load_56 : decode cX1_load 56 = .ok (.getfield 52, 3) := by decide +kernel
theorem dX1_load_59 : decode cX1_load 59 = .ok (.putfield 55, 3) := by decide +kernel
theorem dX1_load_62 : decode cX1_load 62 = .ok (.iconst 0, 1) := by decide +kernel
theorem dX1_load_63 : decode cX1_load 63 = .ok (.istore 4, 2) := by decide +kernel
theorem dX1_load_65 : decode cX1_load 65 = .ok (.iload 4, 2) := by decide +kernel
theorem dX1_load_67 : decode cX1_load 67 = .ok (.aload_n 0, 1) := by decide +kernel
theorem dX1_load_68 : decode cX1_load 68 = .ok (.getfield 55, 3) := by decide +kernel
theorem dX1_load_71 : decode cX1_load 71 = .ok (.if_icmp .ge 61, 3) := by decide +kernel
theorem dX1_load_74 : decode cX1_load 74 = .ok (.aload_n 0, 1) := by decide +kernel
theorem dX1_load_75 : decode cX1_load 75 = .ok (.getfield 24, 3) := by decide +kernel
theorem dX1_load_78 : decode cX1_load 78 = .ok (.iload 4, 2) := by decide +kernel
theorem dX1_load_80 : decode cX1_load 80 = .ok (.aload_n 2, 1) := by decide +kernel
theorem dX1_load_81 : decode cX1_load 81 = .ok (.getfield 56, 3) := by decide +kernel
theorem dX1_load_84 : decode cX1_load 84 = .ok (.iload 4, 2) := by decide +kernel
theorem dX1_load_86 : decode cX1_load 86 = .ok (.iaload, 1) := by decide +kernel
theorem dX1_load_87 : decode cX1_load 87 = .ok (.iastore, 1) := by decide +kernel
theorem dX1_load_88 : decode cX1_load 88 = .ok (.aload_n 0, 1) := by decide +kernel
theorem dX1_load_89 : decode cX1_load 89 = .ok (.getfield 27, 3) := by decide +kernel
theorem dX1_load_92 : decode cX1_load 92 = .ok (.iload 4, 2) := by decide +kernel
theorem dX1_load_94 : decode cX1_load 94 = .ok (.aload_n 2, 1) := by decide +kernel
theorem dX1_load_95 : decode cX1_load 95 = .ok (.getfield 56, 3) := by decide +kernel
theorem dX1_load_98 : decode cX1_load 98 = .ok (.iload 4, 2) := by decide +kernel
theorem dX1_load_100 : decode cX1_load 100 = .ok (.iaload, 1) := by decide +kernel
theorem dX1_load_101 : decode cX1_load 101 = .ok (.iload_n 3, 1) := by decide +kernel
theorem dX1_load_102 : decode cX1_load 102 = .ok (.aload_n 2, 1) := by decide +kernel
theorem dX1_load_103 : decode cX1_load 103 = .ok (.getfield 57, 3) := by decide +kernel
theorem dX1_load_106 : decode cX1_load 106 = .ok (.iload 4, 2) := by decide +kernel
theorem dX1_load_108 : decode cX1_load 108 = .ok (.iaload, 1) := by decide +kernel
theorem dX1_load_109 : decode cX1_load 109 = .ok (.imul, 1) := by decide +kernel
theorem dX1_load_110 : decode cX1_load 110 = .ok (.iadd, 1) := by decide +kernel
theorem dX1_load_111 : decode cX1_load 111 = .ok (.iastore, 1) := by decide +kernel
theorem dX1_load_112 : decode cX1_load 112 = .ok (.aload_n 0, 1) := by decide +kernel
theorem dX1_load_113 : decode cX1_load 113 = .ok (.getfield 30, 3) := by decide +kernel
theorem dX1_load_116 : decode cX1_load 116 = .ok (.iload 4, 2) := by decide +kernel
theorem dX1_load_118 : decode cX1_load 118 = .ok (.aload_n 2, 1) := by decide +kernel
theorem dX1_load_119 : decode cX1_load 119 = .ok (.getfield 60, 3) := by decide +kernel
theorem dX1_load_122 : decode cX1_load 122 = .ok (.iload 4, 2) := by decide +kernel
theorem dX1_load_124 : decode cX1_load 124 = .ok (.iaload, 1) := by decide +kernel
theorem dX1_load_125 : decode cX1_load 125 = .ok (.iastore, 1) := by decide +kernel
theorem dX1_load_126 : decode cX1_load 126 = .ok (.iinc 4 1, 3) := by decide +kernel
theorem dX1_load_129 : decode cX1_load 129 = .ok (.goto (-64), 3) := by decide +kernel
theorem dX1_load_132 : decode cX1_load 132 = .ok (.return_, 1) := by decide +kernel
theorem dX1_insert_0 : decode cX1_insert 0 = .ok (.aload_n 0, 1) := by decide +kernel
theorem dX1_insert_1 : decode cX1_insert 1 = .ok (.getfield 55, 3) := by decide +kernel
theorem dX1_insert_4 : decode cX1_insert 4 = .ok (.bipush 60, 2) := by decide +kernel
theorem dX1_insert_6 : decode cX1_insert 6 = .ok (.if_icmp .lt 4, 3) := by decide +kernel
theorem dX1_insert_9 : decode cX1_insert 9 = .ok (.return_, 1) := by decide +kernel
theorem dX1_insert_10 : decode cX1_insert 10 = .ok (.aload_n 0, 1) := by decide +kernel
theorem dX1_insert_11 : decode cX1_insert 11 = .ok (.getfield 24, 3) := by decide +kernel
theorem dX1_insert_14 : decode cX1_insert 14 = .ok (.iload_n 1, 1) := by decide +kernel
theorem dX1_insert_15 : decode cX1_insert 15 = .ok (.aload_n 0, 1) := by decide +kernel
theorem dX1_insert_16 : decode cX1_insert 16 = .ok (.getfield 24, 3) := by decide +kernel
theorem dX1_insert_19 : decode cX1_insert 19 = .ok (.iload_n 1, 1) := by decide +kernel
theorem dX1_insert_20 : decode cX1_insert 20 = .ok (.iconst 1, 1) := by decide +kernel
theorem dX1_insert_21 : decode cX1_insert 21 = .ok (.iadd, 1) := by decide +kernel
theorem dX1_insert_22 : decode cX1_insert 22 = .ok (.aload_n 0, 1) := by decide +kernel
theorem dX1_insert_23 : decode cX1_insert 23 = .ok (.getfield 55, 3) := by decide +kernel
theorem dX1_insert_26 : decode cX1_insert 26 = .ok (.iload_n 1, 1) := by decide +kernel
theorem dX1_insert_27 : decode cX1_insert 27 = .ok (.isub, 1) := by decide +kernel
theorem dX1_insert_28 : decode cX1_insert 28 = .ok (.invokestatic 63, 3) := by decide +kernel
theorem dX1_insert_31 : decode cX1_insert 31 = .ok (.aload_n 0, 1) := by decide +kernel
theorem dX1_insert_32 : decode cX1_insert 32 = .ok (.getfield 27, 3) := by decide +kernel
theorem dX1_insert_35 : decode cX1_insert 35 = .ok (.iload_n 1, 1) := by decide +kernel
theorem dX1_insert_36 : decode cX1_insert 36 = .ok (.aload_n 0, 1) := by decide +kernel
theorem dX1_insert_37 : decode cX1_insert 37 = .ok (.getfield 27, 3) := by decide +kernel
theorem dX1_insert_40 : decode cX1_insert 40 = .ok (.iload_n 1, 1) := by decide +kernel
theorem dX1_insert_41 : decode cX1_insert 41 = .ok (.iconst 1, 1) := by decide +kernel
theorem dX1_insert_42 : decode cX1_insert 42 = .ok (.iadd, 1) := by decide +kernel
theorem dX1_insert_43 : decode cX1_insert 43 = .ok (.aload_n 0, 1) := by decide +kernel
theorem dX1_insert_44 : decode cX1_insert 44 = .ok (.getfield 55, 3) := by decide +kernel
theorem dX1_insert_47 : decode cX1_insert 47 = .ok (.iload_n 1, 1) := by decide +kernel
theorem dX1_insert_48 : decode cX1_insert 48 = .ok (.isub, 1) := by decide +kernel
theorem dX1_insert_49 : decode cX1_insert 49 = .ok (.invokestatic 63, 3) := by decide +kernel
theorem dX1_insert_52 : decode cX1_insert 52 = .ok (.aload_n 0, 1) := by decide +kernel
theorem dX1_insert_53 : decode cX1_insert 53 = .ok (.getfield 30, 3) := by decide +kernel
theorem dX1_insert_56 : decode cX1_insert 56 = .ok (.iload_n 1, 1) := by decide +kernel
theorem dX1_insert_57 : decode cX1_insert 57 = .ok (.aload_n 0, 1) := by decide +kernel
theorem dX1_insert_58 : decode cX1_insert 58 = .ok (.getfield 30, 3) := by decide +kernel
theorem dX1_insert_61 : decode cX1_insert 61 = .ok (.iload_n 1, 1) := by decide +kernel
theorem dX1_insert_62 : decode cX1_insert 62 = .ok (.iconst 1, 1) := by decide +kernel
theorem dX1_insert_63 : decode cX1_insert 63 = .ok (.iadd, 1) := by decide +kernel
theorem dX1_insert_64 : decode cX1_insert 64 = .ok (.aload_n 0, 1) := by decide +kernel
theorem dX1_insert_65 : decode cX1_insert 65 = .ok (.getfield 55, 3) := by decide +kernel
theorem dX1_insert_68 : decode cX1_insert 68 = .ok (.iload_n 1, 1) := by decide +kernel
theorem dX1_insert_69 : decode cX1_insert 69 = .ok (.isub, 1) := by decide +kernel
theorem dX1_insert_70 : decode cX1_insert 70 = .ok (.invokestatic 63, 3) := by decide +kernel
theorem dX1_insert_73 : decode cX1_insert 73 = .ok (.aload_n 0, 1) := by decide +kernel
theorem dX1_insert_74 : decode cX1_insert 74 = .ok (.dup, 1) := by decide +kernel
theorem dX1_insert_75 : decode cX1_insert 75 = .ok (.getfield 55, 3) := by decide +kernel
theorem dX1_insert_78 : decode cX1_insert 78 = .ok (.iconst 1, 1) := by decide +kernel
theorem dX1_insert_79 : decode cX1_insert 79 = .ok (.iadd, 1) := by decide +kernel
theorem dX1_insert_80 : decode cX1_insert 80 = .ok (.putfield 55, 3) := by decide +kernel
theorem dX1_insert_83 : decode cX1_insert 83 = .ok (.aload_n 0, 1) := by decide +kernel
theorem dX1_insert_84 : decode cX1_insert 84 = .ok (.getfield 24, 3) := by decide +kernel
theorem dX1_insert_87 : decode cX1_insert 87 = .ok (.iload_n 1, 1) := by decide +kernel
theorem dX1_insert_88 : decode cX1_insert 88 = .ok (.iload_n 2, 1) := by decide +kernel
theorem dX1_insert_89 : decode cX1_insert 89 = .ok (.iastore, 1) := by decide +kernel
theorem dX1_insert_90 : decode cX1_insert 90 = .ok (.aload_n 0, 1) := by decide +kernel
theorem dX1_insert_91 : decode cX1_insert 91 = .ok (.getfield 27, 3) := by decide +kernel
theorem dX1_insert_94 : decode cX1_insert 94 = .ok (.iload_n 1, 1) := by decide +kernel
theorem dX1_insert_95 : decode cX1_insert 95 = .ok (.iload_n 2, 1) := by decide +kernel
theorem dX1_insert_96 : decode cX1_insert 96 = .ok (.iastore, 1) := by decide +kernel
theorem dX1_insert_97 : decode cX1_insert 97 = .ok (.aload_n 0, 1) := by decide +kernel
theorem dX1_insert_98 : decode cX1_insert 98 = .ok (.getfield 30, 3) := by decide +kernel
theorem dX1_insert_101 : decode cX1_insert 101 = .ok (.iload_n 1, 1) := by decide +kernel
theorem dX1_insert_102 : decode cX1_insert 102 = .ok (.iconst (-1), 1) := by decide +kernel
theorem dX1_insert_103 : decode cX1_insert 103 = .ok (.iastore, 1) := by decide +kernel
theorem dX1_insert_104 : decode cX1_insert 104 = .ok (.return_, 1) := by decide +kernel
theorem dX1_forget_0 : decode cX1_forget 0 = .ok (.aload_n 0, 1) := by decide +kernel
theorem dX1_forget_1 : decode cX1_forget 1 = .ok (.getfield 9, 3) := by decide +kernel
theorem dX1_forget_4 : decode cX1_forget 4 = .ok (.iload_n 1, 1) := by decide +kernel
theorem dX1_forget_5 : decode cX1_forget 5 = .ok (.iconst 1, 1) := by decide +kernel
theorem dX1_forget_6 : decode cX1_forget 6 = .ok (.iadd, 1) := by decide +kernel
theorem dX1_forget_7 : decode cX1_forget 7 = .ok (.aload_n 0, 1) := by decide +kernel
theorem dX1_forget_8 : decode cX1_forget 8 = .ok (.getfield 9, 3) := by decide +kernel
theorem dX1_forget_11 : decode cX1_forget 11 = .ok (.iload_n 1, 1) := by decide +kernel
theorem dX1_forget_12 : decode cX1_forget 12 = .ok (.aload_n 0, 1) := by decide +kernel
theorem dX1_forget_13 : decode cX1_forget 13 = .ok (.getfield 55, 3) := by decide +kernel
theorem dX1_forget_16 : decode cX1_forget 16 = .ok (.iload_n 1, 1) := by decide +kernel
theorem dX1_forget_17 : decode cX1_forget 17 = .ok (.isub, 1) := by decide +kernel
theorem dX1_forget_18 : decode cX1_forget 18 = .ok (.iconst 1, 1) := by decide +kernel
theorem dX1_forget_19 : decode cX1_forget 19 = .ok (.isub, 1) := by decide +kernel
theorem dX1_forget_20 : decode cX1_forget 20 = .ok (.invokestatic 63, 3) := by decide +kernel
theorem dX1_forget_23 : decode cX1_forget 23 = .ok (.aload_n 0, 1) := by decide +kernel
theorem dX1_forget_24 : decode cX1_forget 24 = .ok (.dup, 1) := by decide +kernel
theorem dX1_forget_25 : decode cX1_forget 25 = .ok (.getfield 55, 3) := by decide +kernel
theorem dX1_forget_28 : decode cX1_forget 28 = .ok (.iconst 1, 1) := by decide +kernel
theorem dX1_forget_29 : decode cX1_forget 29 = .ok (.isub, 1) := by decide +kernel
theorem dX1_forget_30 : decode cX1_forget 30 = .ok (.putfield 55, 3) := by decide +kernel
theorem dX1_forget_33 : decode cX1_forget 33 = .ok (.return_, 1) := by decide +kernel
theorem dX1_shelvesFilled_0 : decode cX1_shelvesFilled 0 = .ok (.iconst 0, 1) := by decide +kernel
theorem dX1_shelvesFilled_1 : decode cX1_shelvesFilled 1 = .ok (.istore_n 2, 1) := by decide +kernel
theorem dX1_shelvesFilled_2 : decode cX1_shelvesFilled 2 = .ok (.iconst 0, 1) := by decide +kernel
theorem dX1_shelvesFilled_3 : decode cX1_shelvesFilled 3 = .ok (.istore_n 3, 1) := by decide +kernel
theorem dX1_shelvesFilled_4 : decode cX1_shelvesFilled 4 = .ok (.iload_n 3, 1) := by decide +kernel
theorem dX1_shelvesFilled_5 : decode cX1_shelvesFilled 5 = .ok (.aload_n 0, 1) := by decide +kernel
theorem dX1_shelvesFilled_6 : decode cX1_shelvesFilled 6 = .ok (.getfield 47, 3) := by decide +kernel
theorem dX1_shelvesFilled_9 : decode cX1_shelvesFilled 9 = .ok (.if_icmp .ge 34, 3) := by decide +kernel
theorem dX1_shelvesFilled_12 : decode cX1_shelvesFilled 12 = .ok (.iload_n 2, 1) := by decide +kernel
theorem dX1_shelvesFilled_13 : decode cX1_shelvesFilled 13 = .ok (.aload_n 0, 1) := by decide +kernel
theorem dX1_shelvesFilled_14 : decode cX1_shelvesFilled 14 = .ok (.getfield 55, 3) := by decide +kernel
theorem dX1_shelvesFilled_17 : decode cX1_shelvesFilled 17 = .ok (.if_icmp .ge 26, 3) := by decide +kernel
theorem dX1_shelvesFilled_20 : decode cX1_shelvesFilled 20 = .ok (.aload_n 0, 1) := by decide +kernel
theorem dX1_shelvesFilled_21 : decode cX1_shelvesFilled 21 = .ok (.getfield 21, 3) := by decide +kernel
theorem dX1_shelvesFilled_24 : decode cX1_shelvesFilled 24 = .ok (.iload_n 3, 1) := by decide +kernel
theorem dX1_shelvesFilled_25 : decode cX1_shelvesFilled 25 = .ok (.iaload, 1) := by decide +kernel
theorem dX1_shelvesFilled_26 : decode cX1_shelvesFilled 26 = .ok (.iload_n 1, 1) := by decide +kernel
theorem dX1_shelvesFilled_27 : decode cX1_shelvesFilled 27 = .ok (.if_icmp .gt 10, 3) := by decide +kernel
theorem dX1_shelvesFilled_30 : decode cX1_shelvesFilled 30 = .ok (.aload_n 0, 1) := by decide +kernel
theorem dX1_shelvesFilled_31 : decode cX1_shelvesFilled 31 = .ok (.iload_n 2, 1) := by decide +kernel
theorem dX1_shelvesFilled_32 : decode cX1_shelvesFilled 32 = .ok (.iload_n 3, 1) := by decide +kernel
theorem dX1_shelvesFilled_33 : decode cX1_shelvesFilled 33 = .ok (.invokevirtual 69, 3) := by decide +kernel
theorem dX1_shelvesFilled_36 : decode cX1_shelvesFilled 36 = .ok (.istore_n 2, 1) := by decide +kernel
theorem dX1_shelvesFilled_37 : decode cX1_shelvesFilled 37 = .ok (.iinc 3 1, 3) := by decide +kernel
theorem dX1_shelvesFilled_40 : decode cX1_shelvesFilled 40 = .ok (.goto (-36), 3) := by decide +kernel
theorem dX1_shelvesFilled_43 : decode cX1_shelvesFilled 43 = .ok (.iload_n 2, 1) := by decide +kernel
theorem dX1_shelvesFilled_44 : decode cX1_shelvesFilled 44 = .ok (.aload_n 0, 1) := by decide +kernel
theorem dX1_shelvesFilled_45 : decode cX1_shelvesFilled 45 = .ok (.getfield 55, 3) := by decide +kernel
theorem dX1_shelvesFilled_48 : decode cX1_shelvesFilled 48 = .ok (.if_icmp .ne 7, 3) := by decide +kernel
theorem dX1_shelvesFilled_51 : decode cX1_shelvesFilled 51 = .ok (.iload_n 3, 1) := by decide +kernel
theorem dX1_shelvesFilled_52 : decode cX1_shelvesFilled 52 = .ok (.goto 4, 3) := by decide +kernel
theorem dX1_shelvesFilled_55 : decode cX1_shelvesFilled 55 = .ok (.iconst (-1), 1) := by decide +kernel
theorem dX1_shelvesFilled_56 : decode cX1_shelvesFilled 56 = .ok (.ireturn, 1) := by decide +kernel
theorem dX1_fill_0 : decode cX1_fill 0 = .ok (.aload_n 0, 1) := by decide +kernel
theorem dX1_fill_1 : decode cX1_fill 1 = .ok (.getfield 18, 3) := by decide +kernel
theorem dX1_fill_4 : decode cX1_fill 4 = .ok (.iload_n 2, 1) := by decide +kernel
theorem dX1_fill_5 : decode cX1_fill 5 = .ok (.iaload, 1) := by decide +kernel
theorem dX1_fill_6 : decode cX1_fill 6 = .ok (.istore_n 3, 1) := by decide +kernel
theorem dX1_fill_7 : decode cX1_fill 7 = .ok (.iload_n 1, 1) := by decide +kernel
theorem dX1_fill_8 : decode cX1_fill 8 = .ok (.istore 4, 2) := by decide +kernel
theorem dX1_fill_10 : decode cX1_fill 10 = .ok (.iload 4, 2) := by decide +kernel
theorem dX1_fill_12 : decode cX1_fill 12 = .ok (.aload_n 0, 1) := by decide +kernel
theorem dX1_fill_13 : decode cX1_fill 13 = .ok (.getfield 55, 3) := by decide +kernel
theorem dX1_fill_16 : decode cX1_fill 16 = .ok (.if_icmp .ge 30, 3) := by decide +kernel
theorem dX1_fill_19 : decode cX1_fill 19 = .ok (.aload_n 0, 1) := by decide +kernel
theorem dX1_fill_20 : decode cX1_fill 20 = .ok (.getfield 27, 3) := by decide +kernel
theorem dX1_fill_23 : decode cX1_fill 23 = .ok (.iload 4, 2) := by decide +kernel
theorem dX1_fill_25 : decode cX1_fill 25 = .ok (.iaload, 1) := by decide +kernel
theorem dX1_fill_26 : decode cX1_fill 26 = .ok (.iload_n 3, 1) := by decide +kernel
theorem dX1_fill_27 : decode cX1_fill 27 = .ok (.if_icmp .gt 19, 3) := by decide +kernel
theorem dX1_fill_30 : decode cX1_fill 30 = .ok (.iload_n 3, 1) := by decide +kernel
theorem dX1_fill_31 : decode cX1_fill 31 = .ok (.aload_n 0, 1) := by decide +kernel
theorem dX1_fill_32 : decode cX1_fill 32 = .ok (.getfield 27, 3) := by decide +kernel
theorem dX1_fill_35 : decode cX1_fill 35 = .ok (.iload 4, 2) := by decide +kernel
theorem dX1_fill_37 : decode cX1_fill 37 = .ok (.iaload, 1) := by decide +kernel
theorem dX1_fill_38 : decode cX1_fill 38 = .ok (.isub, 1) := by decide +kernel
theorem dX1_fill_39 : decode cX1_fill 39 = .ok (.istore_n 3, 1) := by decide +kernel
theorem dX1_fill_40 : decode cX1_fill 40 = .ok (.iinc 4 1, 3) := by decide +kernel
theorem dX1_fill_43 : decode cX1_fill 43 = .ok (.goto (-33), 3) := by decide +kernel
theorem dX1_fill_46 : decode cX1_fill 46 = .ok (.iload 4, 2) := by decide +kernel
theorem dX1_fill_48 : decode cX1_fill 48 = .ok (.ireturn, 1) := by decide +kernel
theorem dX1_findCuts_0 : decode cX1_findCuts 0 = .ok (.iconst 0, 1) := by decide +kernel
theorem dX1_findCuts_1 : decode cX1_findCuts 1 = .ok (.istore_n 1, 1) := by decide +kernel
theorem dX1_findCuts_2 : decode cX1_findCuts 2 = .ok (.iload_n 1, 1) := by decide +kernel
theorem dX1_findCuts_3 : decode cX1_findCuts 3 = .ok (.aload_n 0, 1) := by decide +kernel
theorem dX1_findCuts_4 : decode cX1_findCuts 4 = .ok (.getfield 55, 3) := by decide +kernel
theorem dX1_findCuts_7 : decode cX1_findCuts 7 = .ok (.if_icmp .ge 22, 3) := by decide +kernel
theorem dX1_findCuts_10 : decode cX1_findCuts 10 = .ok (.aload_n 0, 1) := by decide +kernel
theorem dX1_findCuts_11 : decode cX1_findCuts 11 = .ok (.getfield 35, 3) := by decide +kernel
theorem dX1_findCuts_14 : decode cX1_findCuts 14 = .ok (.aload_n 0, 1) := by decide +kernel
theorem dX1_findCuts_15 : decode cX1_findCuts 15 = .ok (.getfield 47, 3) := by decide +kernel
theorem dX1_findCuts_18 : decode cX1_findCuts 18 = .ok (.aaload, 1) := by decide +kernel
theorem dX1_findCuts_19 : decode cX1_findCuts 19 = .ok (.iload_n 1, 1) := by decide +kernel
theorem dX1_findCuts_20 : decode cX1_findCuts 20 = .ok (.ldc 73, 2) := by decide +kernel
theorem dX1_findCuts_22 : decode cX1_findCuts 22 = .ok (.iastore, 1) := by decide +kernel
theorem dX1_findCuts_23 : decode cX1_findCuts 23 = .ok (.iinc 1 1, 3) := by decide +kernel
theorem dX1_findCuts_26 : decode cX1_findCuts 26 = .ok (.goto (-24), 3) := by decide +kernel
theorem dX1_findCuts_29 : decode cX1_findCuts 29 = .ok (.aload_n 0, 1) := by decide +kernel
theorem dX1_findCuts_30 : decode cX1_findCuts 30 = .ok (.getfield 35, 3) := by decide +kernel
theorem dX1_findCuts_33 : decode cX1_findCuts 33 = .ok (.aload_n 0, 1) := by decide +kernel
theorem dX1_findCuts_34 : decode cX1_findCuts 34 = .ok (.getfield 47, 3) := by decide +kernel
theorem dX1_findCuts_37 : decode cX1_findCuts 37 = .ok (.aaload, 1) := by decide +kernel
theorem dX1_findCuts_38 : decode cX1_findCuts 38 = .ok (.aload_n 0, 1) := by decide +kernel
theorem dX1_findCuts_39 : decode cX1_findCuts 39 = .ok (.getfield 55, 3) := by decide +kernel
theorem dX1_findCuts_42 : decode cX1_findCuts 42 = .ok (.iconst 0, 1) := by decide +kernel
theorem dX1_findCuts_43 : decode cX1_findCuts 43 = .ok (.iastore, 1) := by decide +kernel
theorem dX1_findCuts_44 : decode cX1_findCuts 44 = .ok (.aload_n 0, 1) := by decide +kernel
theorem dX1_findCuts_45 : decode cX1_findCuts 45 = .ok (.getfield 47, 3) := by decide +kernel
theorem dX1_findCuts_48 : decode cX1_findCuts 48 = .ok (.iconst 1, 1) := by decide +kernel
theorem dX1_findCuts_49 : decode cX1_findCuts 49 = .ok (.isub, 1) := by decide +kernel
theorem dX1_findCuts_50 : decode cX1_findCuts 50 = .ok (.istore_n 1, 1) := by decide +kernel
theorem dX1_findCuts_51 : decode cX1_findCuts 51 = .ok (.iload_n 1, 1) := by decide +kernel
theorem dX1_findCuts_52 : decode cX1_findCuts 52 = .ok (.ifCond .lt 31, 3) := by decide +kernel
theorem dX1_findCuts_55 : decode cX1_findCuts 55 = .ok (.iconst 0, 1) := by decide +kernel
theorem dX1_findCuts_56 : decode cX1_findCuts 56 = .ok (.istore_n 2, 1) := by decide +kernel
theorem dX1_findCuts_57 : decode cX1_findCuts 57 = .ok (.iload_n 2, 1) := by decide +kernel
theorem dX1_findCuts_58 : decode cX1_findCuts 58 = .ok (.aload_n 0, 1) := by decide +kernel
theorem dX1_findCuts_59 : decode cX1_findCuts 59 = .ok (.getfield 55, 3) := by decide +kernel
theorem dX1_findCuts_62 : decode cX1_findCuts 62 = .ok (.if_icmp .gt 15, 3) := by decide +kernel
theorem dX1_findCuts_65 : decode cX1_findCuts 65 = .ok (.aload_n 0, 1) := by decide +kernel
theorem dX1_findCuts_66 : decode cX1_findCuts 66 = .ok (.iload_n 1, 1) := by decide +kernel
theorem dX1_findCuts_67 : decode cX1_findCuts 67 = .ok (.iload_n 2, 1) := by decide +kernel
theorem dX1_findCuts_68 : decode cX1_findCuts 68 = .ok (.invokevirtual 74, 3) := by decide +kernel
theorem dX1_findCuts_71 : decode cX1_findCuts 71 = .ok (.iinc 2 1, 3) := by decide +kernel
theorem dX1_findCuts_74 : decode cX1_findCuts 74 = .ok (.goto (-17), 3) := by decide +kernel
theorem dX1_findCuts_77 : decode cX1_findCuts 77 = .ok (.iinc 1 (-1), 3) := by decide +kernel
theorem dX1_findCuts_80 : decode cX1_findCuts 80 = .ok (.goto (-29), 3) := by decide +kernel
theorem dX1_findCuts_83 : decode cX1_findCuts 83 = .ok (.aload_n 0, 1) := by decide +kernel
theorem dX1_findCuts_84 : decode cX1_findCuts 84 = .ok (.aload_n 0, 1) := by decide +kernel
theorem dX1_findCuts_85 : decode cX1_findCuts 85 = .ok (.getfield 35, 3) := by decide +kernel
theorem dX1_findCuts_88 : decode cX1_findCuts 88 = .ok (.iconst 0, 1) := by decide +kernel
theorem dX1_findCuts_89 : decode cX1_findCuts 89 = .ok (.aaload, 1) := by decide +kernel
theorem dX1_findCuts_90 : decode cX1_findCuts 90 = .ok (.iconst 0, 1) := by decide +kernel
theorem dX1_findCuts_91 : decode cX1_findCuts 91 = .ok (.iaload, 1) := by decide +kernel
theorem dX1_findCuts_92 : decode cX1_findCuts 92 = .ok (.putfield 78, 3) := by decide +kernel
theorem dX1_findCuts_95 : decode cX1_findCuts 95 = .ok (.aload_n 0, 1) := by decide +kernel
theorem dX1_findCuts_96 : decode cX1_findCuts 96 = .ok (.getfield 78, 3) := by decide +kernel
theorem dX1_findCuts_99 : decode cX1_findCuts 99 = .ok (.ldc 73, 2) := by decide +kernel
theorem dX1_findCuts_101 : decode cX1_findCuts 101 = .ok (.if_icmp .lt 5, 3) := by decide +kernel
theorem dX1_findCuts_104 : decode cX1_findCuts 104 = .ok (.iconst 0, 1) := by decide +kernel
theorem dX1_findCuts_105 : decode cX1_findCuts 105 = .ok (.ireturn, 1) := by decide +kernel
theorem dX1_findCuts_106 : decode cX1_findCuts 106 = .ok (.aload_n 0, 1) := by decide +kernel
theorem dX1_findCuts_107 : decode cX1_findCuts 107 = .ok (.invokevirtual 81, 3) := by decide +kernel
theorem dX1_findCuts_110 : decode cX1_findCuts 110 = .ok (.iconst 1, 1) := by decide +kernel
theorem dX1_findCuts_111 : decode cX1_findCuts 111 = .ok (.ireturn, 1) := by decide +kernel
theorem dX1_chooseMost_0 : decode cX1_chooseMost 0 = .ok (.aload_n 0, 1) := by decide +kernel
theorem dX1_chooseMost_1 : decode cX1_chooseMost 1 = .ok (.getfield 35, 3) := by decide +kernel
theorem dX1_chooseMost_4 : decode cX1_chooseMost 4 = .ok (.iload_n 1, 1) := by decide +kernel
theorem dX1_chooseMost_5 : decode cX1_chooseMost 5 = .ok (.iconst 1, 1) := by decide +kernel
theorem dX1_chooseMost_6 : decode cX1_chooseMost 6 = .ok (.iadd, 1) := by decide +kernel
theorem dX1_chooseMost_7 : decode cX1_chooseMost 7 = .ok (.aaload, 1) := by decide +kernel
theorem dX1_chooseMost_8 : decode cX1_chooseMost 8 = .ok (.astore_n 3, 1) := by decide +kernel
theorem dX1_chooseMost_9 : decode cX1_chooseMost 9 = .ok (.aload_n 3, 1) := by decide +kernel
theorem dX1_chooseMost_10 : decode cX1_chooseMost 10 = .ok (.iload_n 2, 1) := by decide +kernel
theorem dX1_chooseMost_11 : decode cX1_chooseMost 11 = .ok (.iaload, 1) := by decide +kernel
theorem dX1_chooseMost_12 : decode cX1_chooseMost 12 = .ok (.istore 4, 2) := by decide +kernel
theorem dX1_chooseMost_14 : decode cX1_chooseMost 14 = .ok (.iconst 0, 1) := by decide +kernel
theorem dX1_chooseMost_15 : decode cX1_chooseMost 15 = .ok (.istore 5, 2) := by decide +kernel
theorem dX1_chooseMost_17 : decode cX1_chooseMost 17 = .ok (.aload_n 0, 1) := by decide +kernel
theorem dX1_chooseMost_18 : decode cX1_chooseMost 18 = .ok (.getfield 21, 3) := by decide +kernel
theorem dX1_chooseMost_21 : decode cX1_chooseMost 21 = .ok (.iload_n 1, 1) := by decide +kernel
theorem dX1_chooseMost_22 : decode cX1_chooseMost 22 = .ok (.iaload, 1) := by decide +kernel
theorem dX1_chooseMost_23 : decode cX1_chooseMost 23 = .ok (.iconst 1, 1) := by decide +kernel
theorem dX1_chooseMost_24 : decode cX1_chooseMost 24 = .ok (.if_icmp .ne 8, 3) := by decide +kernel
theorem dX1_chooseMost_27 : decode cX1_chooseMost 27 = .ok (.ldc 84, 2) := by decide +kernel
theorem dX1_chooseMost_29 : decode cX1_chooseMost 29 = .ok (.goto 4, 3) := by decide +kernel
theorem dX1_chooseMost_32 : decode cX1_chooseMost 32 = .ok (.iconst 0, 1) := by decide +kernel
theorem dX1_chooseMost_33 : decode cX1_chooseMost 33 = .ok (.istore 6, 2) := by decide +kernel
theorem dX1_chooseMost_35 : decode cX1_chooseMost 35 = .ok (.aload_n 0, 1) := by decide +kernel
theorem dX1_chooseMost_36 : decode cX1_chooseMost 36 = .ok (.getfield 21, 3) := by decide +kernel
theorem dX1_chooseMost_39 : decode cX1_chooseMost 39 = .ok (.iload_n 1, 1) := by decide +kernel
theorem dX1_chooseMost_40 : decode cX1_chooseMost 40 = .ok (.iaload, 1) := by decide +kernel
theorem dX1_chooseMost_41 : decode cX1_chooseMost 41 = .ok (.iconst 2, 1) := by decide +kernel
theorem dX1_chooseMost_42 : decode cX1_chooseMost 42 = .ok (.if_icmp .ne 7, 3) := by decide +kernel
theorem dX1_chooseMost_45 : decode cX1_chooseMost 45 = .ok (.iconst 0, 1) := by decide +kernel
theorem dX1_chooseMost_46 : decode cX1_chooseMost 46 = .ok (.goto 9, 3) := by decide +kernel
theorem dX1_chooseMost_49 : decode cX1_chooseMost 49 = .ok (.aload_n 0, 1) := by decide +kernel
theorem dX1_chooseMost_50 : decode cX1_chooseMost 50 = .ok (.getfield 18, 3) := by decide +kernel
theorem dX1_chooseMost_53 : decode cX1_chooseMost 53 = .ok (.iload_n 1, 1) := by decide +kernel
theorem dX1_chooseMost_54 : decode cX1_chooseMost 54 = .ok (.iaload, 1) := by decide +kernel
theorem dX1_chooseMost_55 : decode cX1_chooseMost 55 = .ok (.istore 7, 2) := by decide +kernel
theorem dX1_chooseMost_57 : decode cX1_chooseMost 57 = .ok (.iload_n 2, 1) := by decide +kernel
theorem dX1_chooseMost_58 : decode cX1_chooseMost 58 = .ok (.istore 8, 2) := by decide +kernel
theorem dX1_chooseMost_60 : decode cX1_chooseMost 60 = .ok (.iload 8, 2) := by decide +kernel
theorem dX1_chooseMost_62 : decode cX1_chooseMost 62 = .ok (.aload_n 0, 1) := by decide +kernel
theorem dX1_chooseMost_63 : decode cX1_chooseMost 63 = .ok (.getfield 55, 3) := by decide +kernel
theorem dX1_chooseMost_66 : decode cX1_chooseMost 66 = .ok (.if_icmp .ge 78, 3) := by decide +kernel
theorem dX1_chooseMost_69 : decode cX1_chooseMost 69 = .ok (.aload_n 0, 1) := by decide +kernel
theorem dX1_chooseMost_70 : decode cX1_chooseMost 70 = .ok (.getfield 27, 3) := by decide +kernel
theorem dX1_chooseMost_73 : decode cX1_chooseMost 73 = .ok (.iload 8, 2) := by decide +kernel
theorem dX1_chooseMost_75 : decode cX1_chooseMost 75 = .ok (.iaload, 1) := by decide +kernel
theorem dX1_chooseMost_76 : decode cX1_chooseMost 76 = .ok (.iload 7, 2) := by decide +kernel
theorem dX1_chooseMost_78 : decode cX1_chooseMost 78 = .ok (.if_icmp .gt 66, 3) := by decide +kernel
theorem dX1_chooseMost_81 : decode cX1_chooseMost 81 = .ok (.iload 7, 2) := by decide +kernel
theorem dX1_chooseMost_83 : decode cX1_chooseMost 83 = .ok (.aload_n 0, 1) := by decide +kernel
theorem dX1_chooseMost_84 : decode cX1_chooseMost 84 = .ok (.getfield 27, 3) := by decide +kernel
theorem dX1_chooseMost_87 : decode cX1_chooseMost 87 = .ok (.iload 8, 2) := by decide +kernel
theorem dX1_chooseMost_89 : decode cX1_chooseMost 89 = .ok (.iaload, 1) := by decide +kernel
theorem dX1_chooseMost_90 : decode cX1_chooseMost 90 = .ok (.isub, 1) := by decide +kernel
theorem dX1_chooseMost_91 : decode cX1_chooseMost 91 = .ok (.istore 7, 2) := by decide +kernel
theorem dX1_chooseMost_93 : decode cX1_chooseMost 93 = .ok (.iload 6, 2) := by decide +kernel
theorem dX1_chooseMost_95 : decode cX1_chooseMost 95 = .ok (.aload_n 0, 1) := by decide +kernel
theorem dX1_chooseMost_96 : decode cX1_chooseMost 96 = .ok (.iload 8, 2) := by decide +kernel
theorem dX1_chooseMost_98 : decode cX1_chooseMost 98 = .ok (.iload_n 1, 1) := by decide +kernel
theorem dX1_chooseMost_99 : decode cX1_chooseMost 99 = .ok (.invokevirtual 85, 3) := by decide +kernel
theorem dX1_chooseMost_102 : decode cX1_chooseMost 102 = .ok (.iadd, 1) := by decide +kernel
theorem dX1_chooseMost_103 : decode cX1_chooseMost 103 = .ok (.istore 6, 2) := by decide +kernel
theorem dX1_chooseMost_105 : decode cX1_chooseMost 105 = .ok (.iload 6, 2) := by decide +kernel
theorem dX1_chooseMost_107 : decode cX1_chooseMost 107 = .ok (.aload_n 3, 1) := by decide +kernel
theorem dX1_chooseMost_108 : decode cX1_chooseMost 108 = .ok (.iload 8, 2) := by decide +kernel
theorem dX1_chooseMost_110 : decode cX1_chooseMost 110 = .ok (.iconst 1, 1) := by decide +kernel
theorem dX1_chooseMost_111 : decode cX1_chooseMost 111 = .ok (.iadd, 1) := by decide +kernel
theorem dX1_chooseMost_112 : decode cX1_chooseMost 112 = .ok (.iaload, 1) := by decide +kernel
theorem dX1_chooseMost_113 : decode cX1_chooseMost 113 = .ok (.iadd, 1) := by decide +kernel
theorem dX1_chooseMost_114 : decode cX1_chooseMost 114 = .ok (.iload 4, 2) := by decide +kernel
theorem dX1_chooseMost_116 : decode cX1_chooseMost 116 = .ok (.if_icmp .gt 22, 3) := by decide +kernel
theorem dX1_chooseMost_119 : decode cX1_chooseMost 119 = .ok (.iload 6, 2) := by decide +kernel
theorem dX1_chooseMost_121 : decode cX1_chooseMost 121 = .ok (.aload_n 3, 1) := by decide +kernel
theorem dX1_chooseMost_122 : decode cX1_chooseMost 122 = .ok (.iload 8, 2) := by decide +kernel
theorem dX1_chooseMost_124 : decode cX1_chooseMost 124 = .ok (.iconst 1, 1) := by decide +kernel
theorem dX1_chooseMost_125 : decode cX1_chooseMost 125 = .ok (.iadd, 1) := by decide +kernel
theorem dX1_chooseMost_126 : decode cX1_chooseMost 126 = .ok (.iaload, 1) := by decide +kernel
theorem dX1_chooseMost_127 : decode cX1_chooseMost 127 = .ok (.iadd, 1) := by decide +kernel
theorem dX1_chooseMost_128 : decode cX1_chooseMost 128 = .ok (.istore 4, 2) := by decide +kernel
theorem dX1_chooseMost_130 : decode cX1_chooseMost 130 = .ok (.iload 8, 2) := by decide +kernel
theorem dX1_chooseMost_132 : decode cX1_chooseMost 132 = .ok (.iconst 1, 1) := by decide +kernel
theorem dX1_chooseMost_133 : decode cX1_chooseMost 133 = .ok (.iadd, 1) := by decide +kernel
theorem dX1_chooseMost_134 : decode cX1_chooseMost 134 = .ok (.iload_n 2, 1) := by decide +kernel
theorem dX1_chooseMost_135 : decode cX1_chooseMost 135 = .ok (.isub, 1) := by decide +kernel
theorem dX1_chooseMost_136 : decode cX1_chooseMost 136 = .ok (.istore 5, 2) := by decide +kernel
theorem dX1_chooseMost_138 : decode cX1_chooseMost 138 = .ok (.iinc 8 1, 3) := by decide +kernel
theorem dX1_chooseMost_141 : decode cX1_chooseMost 141 = .ok (.goto (-81), 3) := by decide +kernel
theorem dX1_chooseMost_144 : decode cX1_chooseMost 144 = .ok (.aload_n 0, 1) := by decide +kernel
theorem dX1_chooseMost_145 : decode cX1_chooseMost 145 = .ok (.getfield 35, 3) := by decide +kernel
theorem dX1_chooseMost_148 : decode cX1_chooseMost 148 = .ok (.iload_n 1, 1) := by decide +kernel
theorem dX1_chooseMost_149 : decode cX1_chooseMost 149 = .ok (.aaload, 1) := by decide +kernel
theorem dX1_chooseMost_150 : decode cX1_chooseMost 150 = .ok (.iload_n 2, 1) := by decide +kernel
theorem dX1_chooseMost_151 : decode cX1_chooseMost 151 = .ok (.iload 4, 2) := by decide +kernel
theorem dX1_chooseMost_153 : decode cX1_chooseMost 153 = .ok (.iastore, 1) := by decide +kernel
theorem dX1_chooseMost_154 : decode cX1_chooseMost 154 = .ok (.aload_n 0, 1) := by decide +kernel
theorem dX1_chooseMost_155 : decode cX1_chooseMost 155 = .ok (.getfield 38, 3) := by decide +kernel
theorem dX1_chooseMost_158 : decode cX1_chooseMost 158 = .ok (.iload_n 1, 1) := by decide +kernel
theorem dX1_chooseMost_159 : decode cX1_chooseMost 159 = .ok (.aaload, 1) := by decide +kernel
theorem dX1_chooseMost_160 : decode cX1_chooseMost 160 = .ok (.iload_n 2, 1) := by decide +kernel
theorem dX1_chooseMost_161 : decode cX1_chooseMost 161 = .ok (.iload 5, 2) := by decide +kernel
theorem dX1_chooseMost_163 : decode cX1_chooseMost 163 = .ok (.iastore, 1) := by decide +kernel
theorem dX1_chooseMost_164 : decode cX1_chooseMost 164 = .ok (.return_, 1) := by decide +kernel
theorem dX1_priceOfMove_0 : decode cX1_priceOfMove 0 = .ok (.aload_n 0, 1) := by decide +kernel
theorem dX1_priceOfMove_1 : decode cX1_priceOfMove 1 = .ok (.getfield 30, 3) := by decide +kernel
theorem dX1_priceOfMove_4 : decode cX1_priceOfMove 4 = .ok (.iload_n 1, 1) := by decide +kernel
theorem dX1_priceOfMove_5 : decode cX1_priceOfMove 5 = .ok (.iaload, 1) := by decide +kernel
theorem dX1_priceOfMove_6 : decode cX1_priceOfMove 6 = .ok (.iload_n 2, 1) := by decide +kernel
theorem dX1_priceOfMove_7 : decode cX1_priceOfMove 7 = .ok (.if_icmp .eq 13, 3) := by decide +kernel
theorem dX1_priceOfMove_10 : decode cX1_priceOfMove 10 = .ok (.aload_n 0, 1) := by decide +kernel
theorem dX1_priceOfMove_11 : decode cX1_priceOfMove 11 = .ok (.getfield 30, 3) := by decide +kernel
theorem dX1_priceOfMove_14 : decode cX1_priceOfMove 14 = .ok (.iload_n 1, 1) := by decide +kernel
theorem dX1_priceOfMove_15 : decode cX1_priceOfMove 15 = .ok (.iaload, 1) := by decide +kernel
theorem dX1_priceOfMove_16 : decode cX1_priceOfMove 16 = .ok (.iconst (-1), 1) := by decide +kernel
theorem dX1_priceOfMove_17 : decode cX1_priceOfMove 17 = .ok (.if_icmp .ne 7, 3) := by decide +kernel
theorem dX1_priceOfMove_20 : decode cX1_priceOfMove 20 = .ok (.iconst 1, 1) := by decide +kernel
theorem dX1_priceOfMove_21 : decode cX1_priceOfMove 21 = .ok (.goto 4, 3) := by decide +kernel
theorem dX1_priceOfMove_24 : decode cX1_priceOfMove 24 = .ok (.iconst 0, 1) := by decide +kernel
theorem dX1_priceOfMove_25 : decode cX1_priceOfMove 25 = .ok (.istore_n 3, 1) := by decide +kernel
theorem dX1_priceOfMove_26 : decode cX1_priceOfMove 26 = .ok (.iload_n 3, 1) := by decide +kernel
theorem dX1_priceOfMove_27 : decode cX1_priceOfMove 27 = .ok (.ifCond .eq 7, 3) := by decide +kernel
theorem dX1_priceOfMove_30 : decode cX1_priceOfMove 30 = .ok (.iconst 0, 1) := by decide +kernel
theorem dX1_priceOfMove_31 : decode cX1_priceOfMove 31 = .ok (.goto 14, 3) := by decide +kernel
theorem dX1_priceOfMove_34 : decode cX1_priceOfMove 34 = .ok (.bipush 100, 2) := by decide +kernel
theorem dX1_priceOfMove_36 : decode cX1_priceOfMove 36 = .ok (.aload_n 0, 1) := by decide +kernel
theorem dX1_priceOfMove_37 : decode cX1_priceOfMove 37 = .ok (.getfield 24, 3) := by decide +kernel
theorem dX1_priceOfMove_40 : decode cX1_priceOfMove 40 = .ok (.iload_n 1, 1) := by decide +kernel
theorem dX1_priceOfMove_41 : decode cX1_priceOfMove 41 = .ok (.iaload, 1) := by decide +kernel
theorem dX1_priceOfMove_42 : decode cX1_priceOfMove 42 = .ok (.imul, 1) := by decide +kernel
theorem dX1_priceOfMove_43 : decode cX1_priceOfMove 43 = .ok (.iconst 1, 1) := by decide +kernel
theorem dX1_priceOfMove_44 : decode cX1_priceOfMove 44 = .ok (.iadd, 1) := by decide +kernel
theorem dX1_priceOfMove_45 : decode cX1_priceOfMove 45 = .ok (.ireturn, 1) := by decide +kernel
theorem dX1_follow_0 : decode cX1_follow 0 = .ok (.iconst 0, 1) := by decide +kernel
theorem dX1_follow_1 : decode cX1_follow 1 = .ok (.istore_n 1, 1) := by decide +kernel
theorem dX1_follow_2 : decode cX1_follow 2 = .ok (.iconst 0, 1) := by decide +kernel
theorem dX1_follow_3 : decode cX1_follow 3 = .ok (.istore_n 2, 1) := by decide +kernel
theorem dX1_follow_4 : decode cX1_follow 4 = .ok (.iload_n 2, 1) := by decide +kernel
theorem dX1_follow_5 : decode cX1_follow 5 = .ok (.aload_n 0, 1) := by decide +kernel
theorem dX1_follow_6 : decode cX1_follow 6 = .ok (.getfield 47, 3) := by decide +kernel
theorem dX1_follow_9 : decode cX1_follow 9 = .ok (.if_icmp .ge 57, 3) := by decide +kernel
theorem dX1_follow_12 : decode cX1_follow 12 = .ok (.aload_n 0, 1) := by decide +kernel
theorem dX1_follow_13 : decode cX1_follow 13 = .ok (.getfield 15, 3) := by decide +kernel
theorem dX1_follow_16 : decode cX1_follow 16 = .ok (.iload_n 2, 1) := by decide +kernel
theorem dX1_follow_17 : decode cX1_follow 17 = .ok (.aload_n 0, 1) := by decide +kernel
theorem dX1_follow_18 : decode cX1_follow 18 = .ok (.getfield 38, 3) := by decide +kernel
theorem dX1_follow_21 : decode cX1_follow 21 = .ok (.iload_n 2, 1) := by decide +kernel
theorem dX1_follow_22 : decode cX1_follow 22 = .ok (.aaload, 1) := by decide +kernel
theorem dX1_follow_23 : decode cX1_follow 23 = .ok (.iload_n 1, 1) := by decide +kernel
theorem dX1_follow_24 : decode cX1_follow 24 = .ok (.iaload, 1) := by decide +kernel
theorem dX1_follow_25 : decode cX1_follow 25 = .ok (.iastore, 1) := by decide +kernel
theorem dX1_follow_26 : decode cX1_follow 26 = .ok (.iload_n 1, 1) := by decide +kernel
theorem dX1_follow_27 : decode cX1_follow 27 = .ok (.aload_n 0, 1) := by decide +kernel
theorem dX1_follow_28 : decode cX1_follow 28 = .ok (.getfield 15, 3) := by decide +kernel
theorem dX1_follow_31 : decode cX1_follow 31 = .ok (.iload_n 2, 1) := by decide +kernel
theorem dX1_follow_32 : decode cX1_follow 32 = .ok (.iaload, 1) := by decide +kernel
theorem dX1_follow_33 : decode cX1_follow 33 = .ok (.iadd, 1) := by decide +kernel
theorem dX1_follow_34 : decode cX1_follow 34 = .ok (.istore_n 3, 1) := by decide +kernel
theorem dX1_follow_35 : decode cX1_follow 35 = .ok (.iload_n 1, 1) := by decide +kernel
theorem dX1_follow_36 : decode cX1_follow 36 = .ok (.istore 4, 2) := by decide +kernel
theorem dX1_follow_38 : decode cX1_follow 38 = .ok (.iload 4, 2) := by decide +kernel
theorem dX1_follow_40 : decode cX1_follow 40 = .ok (.iload_n 3, 1) := by decide +kernel
theorem dX1_follow_41 : decode cX1_follow 41 = .ok (.if_icmp .ge 17, 3) := by decide +kernel
theorem dX1_follow_44 : decode cX1_follow 44 = .ok (.aload_n 0, 1) := by decide +kernel
theorem dX1_follow_45 : decode cX1_follow 45 = .ok (.getfield 9, 3) := by decide +kernel
theorem dX1_follow_48 : decode cX1_follow 48 = .ok (.iload 4, 2) := by decide +kernel
theorem dX1_follow_50 : decode cX1_follow 50 = .ok (.iload_n 2, 1) := by decide +kernel
theorem dX1_follow_51 : decode cX1_follow 51 = .ok (.iastore, 1) := by decide +kernel
theorem dX1_follow_52 : decode cX1_follow 52 = .ok (.iinc 4 1, 3) := by decide +kernel
theorem dX1_follow_55 : decode cX1_follow 55 = .ok (.goto (-17), 3) := by decide +kernel
theorem dX1_follow_58 : decode cX1_follow 58 = .ok (.iload_n 3, 1) := by decide +kernel
theorem dX1_follow_59 : decode cX1_follow 59 = .ok (.istore_n 1, 1) := by decide +kernel
theorem dX1_follow_60 : decode cX1_follow 60 = .ok (.iinc 2 1, 3) := by decide +kernel
theorem dX1_follow_63 : decode cX1_follow 63 = .ok (.goto (-59), 3) := by decide +kernel
theorem dX1_follow_66 : decode cX1_follow 66 = .ok (.return_, 1) := by decide +kernel
theorem dX1_partOfPrice_0 : decode cX1_partOfPrice 0 = .ok (.iload_n 1, 1) := by decide +kernel
theorem dX1_partOfPrice_1 : decode cX1_partOfPrice 1 = .ok (.lookupswitch 46 #[(0, 27), (1, 35)], 27) := by decide +kernel
theorem dX1_partOfPrice_28 : decode cX1_partOfPrice 28 = .ok (.aload_n 0, 1) := by decide +kernel
theorem dX1_partOfPrice_29 : decode cX1_partOfPrice 29 = .ok (.getfield 78, 3) := by decide +kernel
theorem dX1_partOfPrice_32 : decode cX1_partOfPrice 32 = .ok (.ldc 84, 2) := by decide +kernel
theorem dX1_partOfPrice_34 : decode cX1_partOfPrice 34 = .ok (.idiv, 1) := by decide +kernel
theorem dX1_partOfPrice_35 : decode cX1_partOfPrice 35 = .ok (.ireturn, 1) := by decide +kernel
theorem dX1_partOfPrice_36 : decode cX1_partOfPrice 36 = .ok (.aload_n 0, 1) := by decide +kernel
theorem dX1_partOfPrice_37 : decode cX1_partOfPrice 37 = .ok (.getfield 78, 3) := by decide +kernel
theorem dX1_partOfPrice_40 : decode cX1_partOfPrice 40 = .ok (.ldc 84, 2) := by decide +kernel
theorem dX1_partOfPrice_42 : decode cX1_partOfPrice 42 = .ok (.irem, 1) := by decide +kernel
theorem dX1_partOfPrice_43 : decode cX1_partOfPrice 43 = .ok (.bipush 100, 2) := by decide +kernel
theorem dX1_partOfPrice_45 : decode cX1_partOfPrice 45 = .ok (.idiv, 1) := by decide +kernel
theorem dX1_partOfPrice_46 : decode cX1_partOfPrice 46 = .ok (.ireturn, 1) := by decide +kernel
theorem dX1_partOfPrice_47 : decode cX1_partOfPrice 47 = .ok (.aload_n 0, 1) := by decide +kernel
theorem dX1_partOfPrice_48 : decode cX1_partOfPrice 48 = .ok (.getfield 78, 3) := by decide +kernel
theorem dX1_partOfPrice_51 : decode cX1_partOfPrice 51 = .ok (.bipush 100, 2) := by decide +kernel
theorem dX1_partOfPrice_53 : decode cX1_partOfPrice 53 = .ok (.irem, 1) := by decide +kernel
theorem dX1_partOfPrice_54 : decode cX1_partOfPrice 54 = .ok (.ireturn, 1) := by decide +kernel
theorem dX2_init_0 : decode cX2_init 0 = .ok (.aload_n 0, 1) := by decide +kernel
theorem dX2_init_1 : decode cX2_init 1 = .ok (.invokespecial 3, 3) := by decide +kernel
theorem dX2_init_4 : decode cX2_init 4 = .ok (.aload_n 0, 1) := by decide +kernel
theorem dX2_init_5 : decode cX2_init 5 = .ok (.bipush 8, 2) := by decide +kernel
theorem dX2_init_7 : decode cX2_init 7 = .ok (.newarray .int, 2) := by decide +kernel
theorem dX2_init_9 : decode cX2_init 9 = .ok (.putfield 9, 3) := by decide +kernel
theorem dX2_init_12 : decode cX2_init 12 = .ok (.return_, 1) := by decide +kernel
theorem dX2_add_0 : decode cX2_add 0 = .ok (.aload_n 0, 1) := by decide +kernel
theorem dX2_add_1 : decode cX2_add 1 = .ok (.getfield 15, 3) := by decide +kernel
theorem dX2_add_4 : decode cX2_add 4 = .ok (.istore_n 2, 1) := by decide +kernel
theorem dX2_add_5 : decode cX2_add 5 = .ok (.aload_n 0, 1) := by decide +kernel
theorem dX2_add_6 : decode cX2_add 6 = .ok (.getfield 9, 3) := by decide +kernel
theorem dX2_add_9 : decode cX2_add 9 = .ok (.iload_n 2, 1) := by decide +kernel
theorem dX2_add_10 : decode cX2_add 10 = .ok (.iload_n 1, 1) := by decide +kernel
theorem dX2_add_11 : decode cX2_add 11 = .ok (.iastore, 1) := by decide +kernel
theorem dX2_add_12 : decode cX2_add 12 = .ok (.aload_n 0, 1) := by decide +kernel
theorem dX2_add_13 : decode cX2_add 13 = .ok (.dup, 1) := by decide +kernel
theorem dX2_add_14 : decode cX2_add 14 = .ok (.getfield 15, 3) := by decide +kernel
theorem dX2_add_17 : decode cX2_add 17 = .ok (.iconst 1, 1) := by decide +kernel
theorem dX2_add_18 : decode cX2_add 18 = .ok (.iadd, 1) := by decide +kernel
theorem dX2_add_19 : decode cX2_add 19 = .ok (.putfield 15, 3) := by decide +kernel
theorem dX2_add_22 : decode cX2_add 22 = .ok (.iload_n 2, 1) := by decide +kernel
theorem dX2_add_23 : decode cX2_add 23 = .ok (.ireturn, 1) := by decide +kernel
theorem dX3_init_0 : decode cX3_init 0 = .ok (.aload_n 0, 1) := by decide +kernel
theorem dX3_init_1 : decode cX3_init 1 = .ok (.invokespecial 3, 3) := by decide +kernel
theorem dX3_init_4 : decode cX3_init 4 = .ok (.aload_n 0, 1) := by decide +kernel
theorem dX3_init_5 : decode cX3_init 5 = .ok (.sipush 200, 3) := by decide +kernel
theorem dX3_init_8 : decode cX3_init 8 = .ok (.newarray .int, 2) := by decide +kernel
theorem dX3_init_10 : decode cX3_init 10 = .ok (.putfield 11, 3) := by decide +kernel
theorem dX3_init_13 : decode cX3_init 13 = .ok (.return_, 1) := by decide +kernel
theorem dX3_write_0 : decode cX3_write 0 = .ok (.aload_n 0, 1) := by decide +kernel
theorem dX3_write_1 : decode cX3_write 1 = .ok (.getfield 15, 3) := by decide +kernel
theorem dX3_write_4 : decode cX3_write 4 = .ok (.iconst 5, 1) := by decide +kernel
theorem dX3_write_5 : decode cX3_write 5 = .ok (.imul, 1) := by decide +kernel
theorem dX3_write_6 : decode cX3_write 6 = .ok (.istore 6, 2) := by decide +kernel
theorem dX3_write_8 : decode cX3_write 8 = .ok (.aload_n 0, 1) := by decide +kernel
theorem dX3_write_9 : decode cX3_write 9 = .ok (.getfield 11, 3) := by decide +kernel
theorem dX3_write_12 : decode cX3_write 12 = .ok (.iload 6, 2) := by decide +kernel
theorem dX3_write_14 : decode cX3_write 14 = .ok (.iload_n 1, 1) := by decide +kernel
theorem dX3_write_15 : decode cX3_write 15 = .ok (.iastore, 1) := by decide +kernel
theorem dX3_write_16 : decode cX3_write 16 = .ok (.aload_n 0, 1) := by decide +kernel
theorem dX3_write_17 : decode cX3_write 17 = .ok (.getfield 11, 3) := by decide +kernel
theorem dX3_write_20 : decode cX3_write 20 = .ok (.iload 6, 2) := by decide +kernel
theorem dX3_write_22 : decode cX3_write 22 = .ok (.iconst 1, 1) := by decide +kernel
theorem dX3_write_23 : decode cX3_write 23 = .ok (.iadd, 1) := by decide +kernel
theorem dX3_write_24 : decode cX3_write 24 = .ok (.iload_n 2, 1) := by decide +kernel
theorem dX3_write_25 : decode cX3_write 25 = .ok (.iastore, 1) := by decide +kernel
theorem dX3_write_26 : decode cX3_write 26 = .ok (.aload_n 0, 1) := by decide +kernel
theorem dX3_write_27 : decode cX3_write 27 = .ok (.getfield 11, 3) := by decide +kernel
theorem dX3_write_30 : decode cX3_write 30 = .ok (.iload 6, 2) := by decide +kernel
theorem dX3_write_32 : decode cX3_write 32 = .ok (.iconst 2, 1) := by decide +kernel
theorem dX3_write_33 : decode cX3_write 33 = .ok (.iadd, 1) := by decide +kernel
theorem dX3_write_34 : decode cX3_write 34 = .ok (.iload_n 3, 1) := by decide +kernel
theorem dX3_write_35 : decode cX3_write 35 = .ok (.iastore, 1) := by decide +kernel
theorem dX3_write_36 : decode cX3_write 36 = .ok (.aload_n 0, 1) := by decide +kernel
theorem dX3_write_37 : decode cX3_write 37 = .ok (.getfield 11, 3) := by decide +kernel
theorem dX3_write_40 : decode cX3_write 40 = .ok (.iload 6, 2) := by decide +kernel
theorem dX3_write_42 : decode cX3_write 42 = .ok (.iconst 3, 1) := by decide +kernel
theorem dX3_write_43 : decode cX3_write 43 = .ok (.iadd, 1) := by decide +kernel
theorem dX3_write_44 : decode cX3_write 44 = .ok (.iload 4, 2) := by decide +kernel
theorem dX3_write_46 : decode cX3_write 46 = .ok (.iastore, 1) := by decide +kernel
theorem dX3_write_47 : decode cX3_write 47 = .ok (.aload_n 0, 1) := by decide +kernel
theorem dX3_write_48 : decode cX3_write 48 = .ok (.getfield 11, 3) := by decide +kernel
theorem dX3_write_51 : decode cX3_write 51 = .ok (.iload 6, 2) := by decide +kernel
theorem dX3_write_53 : decode cX3_write 53 = .ok (.iconst 4, 1) := by decide +kernel
theorem dX3_write_54 : decode cX3_write 54 = .ok (.iadd, 1) := by decide +kernel
theorem dX3_write_55 : decode cX3_write 55 = .ok (.iload 5, 2) := by decide +kernel
theorem dX3_write_57 : decode cX3_write 57 = .ok (.iastore, 1) := by decide +kernel
theorem dX3_write_58 : decode cX3_write 58 = .ok (.aload_n 0, 1) := by decide +kernel
theorem dX3_write_59 : decode cX3_write 59 = .ok (.aload_n 0, 1) := by decide +kernel
theorem dX3_write_60 : decode cX3_write 60 = .ok (.getfield 15, 3) := by decide +kernel
theorem dX3_write_63 : decode cX3_write 63 = .ok (.iconst 1, 1) := by decide +kernel
theorem dX3_write_64 : decode cX3_write 64 = .ok (.iadd, 1) := by decide +kernel
theorem dX3_write_65 : decode cX3_write 65 = .ok (.bipush 40, 2) := by decide +kernel
theorem dX3_write_67 : decode cX3_write 67 = .ok (.irem, 1) := by decide +kernel
theorem dX3_write_68 : decode cX3_write 68 = .ok (.putfield 15, 3) := by decide +kernel
theorem dX3_write_71 : decode cX3_write 71 = .ok (.aload_n 0, 1) := by decide +kernel
theorem dX3_write_72 : decode cX3_write 72 = .ok (.aload_n 0, 1) := by decide +kernel
theorem dX3_write_73 : decode cX3_write 73 = .ok (.getfield 19, 3) := by decide +kernel
theorem dX3_write_76 : decode cX3_write 76 = .ok (.iconst 1, 1) := by decide +kernel
theorem dX3_write_77 : decode cX3_write 77 = .ok (.iadd, 1) := by decide +kernel
theorem dX3_write_78 : decode cX3_write 78 = .ok (.bipush 40, 2) := by decide +kernel
theorem dX3_write_80 : decode cX3_write 80 = .ok (.invokestatic 22, 3) := by decide +kernel
theorem dX3_write_83 : decode cX3_write 83 = .ok (.putfield 19, 3) := by decide +kernel
theorem dX3_write_86 : decode cX3_write 86 = .ok (.return_, 1) := by decide +kernel
theorem dX3_read_0 : decode cX3_read 0 = .ok (.iload_n 1, 1) := by decide +kernel
theorem dX3_read_1 : decode cX3_read 1 = .ok (.ifCond .lt 20, 3) := by decide +kernel
theorem dX3_read_4 : decode cX3_read 4 = .ok (.iload_n 1, 1) := by decide +kernel
theorem dX3_read_5 : decode cX3_read 5 = .ok (.aload_n 0, 1) := by decide +kernel
theorem dX3_read_6 : decode cX3_read 6 = .ok (.getfield 19, 3) := by decide +kernel
theorem dX3_read_9 : decode cX3_read 9 = .ok (.if_icmp .ge 12, 3) := by decide +kernel
theorem dX3_read_12 : decode cX3_read 12 = .ok (.iload_n 2, 1) := by decide +kernel
theorem dX3_read_13 : decode cX3_read 13 = .ok (.ifCond .lt 8, 3) := by decide +kernel
theorem dX3_read_16 : decode cX3_read 16 = .ok (.iload_n 2, 1) := by decide +kernel
theorem dX3_read_17 : decode cX3_read 17 = .ok (.iconst 5, 1) := by decide +kernel
theorem dX3_read_18 : decode cX3_read 18 = .ok (.if_icmp .lt 5, 3) := by decide +kernel
theorem dX3_read_21 : decode cX3_read 21 = .ok (.iconst (-1), 1) := by decide +kernel
theorem dX3_read_22 : decode cX3_read 22 = .ok (.ireturn, 1) := by decide +kernel
theorem dX3_read_23 : decode cX3_read 23 = .ok (.aload_n 0, 1) := by decide +kernel
theorem dX3_read_24 : decode cX3_read 24 = .ok (.getfield 15, 3) := by decide +kernel
theorem dX3_read_27 : decode cX3_read 27 = .ok (.bipush 40, 2) := by decide +kernel
theorem dX3_read_29 : decode cX3_read 29 = .ok (.iadd, 1) := by decide +kernel
theorem dX3_read_30 : decode cX3_read 30 = .ok (.iconst 1, 1) := by decide +kernel
theorem dX3_read_31 : decode cX3_read 31 = .ok (.isub, 1) := by decide +kernel
theorem dX3_read_32 : decode cX3_read 32 = .ok (.iload_n 1, 1) := by decide +kernel
theorem dX3_read_33 : decode cX3_read 33 = .ok (.isub, 1) := by decide +kernel
theorem dX3_read_34 : decode cX3_read 34 = .ok (.bipush 40, 2) := by decide +kernel
theorem dX3_read_36 : decode cX3_read 36 = .ok (.irem, 1) := by decide +kernel
theorem dX3_read_37 : decode cX3_read 37 = .ok (.istore_n 3, 1) := by decide +kernel
theorem dX3_read_38 : decode cX3_read 38 = .ok (.aload_n 0, 1) := by decide +kernel
theorem dX3_read_39 : decode cX3_read 39 = .ok (.getfield 11, 3) := by decide +kernel
theorem dX3_read_42 : decode cX3_read 42 = .ok (.iload_n 3, 1) := by decide +kernel
theorem dX3_read_43 : decode cX3_read 43 = .ok (.iconst 5, 1) := by decide +kernel
theorem dX3_read_44 : decode cX3_read 44 = .ok (.imul, 1) := by decide +kernel
theorem dX3_read_45 : decode cX3_read 45 = .ok (.iload_n 2, 1) := by decide +kernel
theorem dX3_read_46 : decode cX3_read 46 = .ok (.iadd, 1) := by decide +kernel
theorem dX3_read_47 : decode cX3_read 47 = .ok (.iaload, 1) := by decide +kernel
theorem dX3_read_48 : decode cX3_read 48 = .ok (.ireturn, 1) := by decide +kernel
theorem dX4_init_0 : decode cX4_init 0 = .ok (.aload_n 0, 1) := by decide +kernel
theorem dX4_init_1 : decode cX4_init 1 = .ok (.invokespecial 3, 3) := by decide +kernel
theorem dX4_init_4 : decode cX4_init 4 = .ok (.aload_n 0, 1) := by decide +kernel
theorem dX4_init_5 : decode cX4_init 5 = .ok (.bipush 60, 2) := by decide +kernel
theorem dX4_init_7 : decode cX4_init 7 = .ok (.newarray .int, 2) := by decide +kernel
theorem dX4_init_9 : decode cX4_init 9 = .ok (.putfield 9, 3) := by decide +kernel
theorem dX4_init_12 : decode cX4_init 12 = .ok (.aload_n 0, 1) := by decide +kernel
theorem dX4_init_13 : decode cX4_init 13 = .ok (.bipush 60, 2) := by decide +kernel
theorem dX4_init_15 : decode cX4_init 15 = .ok (.newarray .int, 2) := by decide +kernel
theorem dX4_init_17 : decode cX4_init 17 = .ok (.putfield 15, 3) := by decide +kernel
theorem dX4_init_20 : decode cX4_init 20 = .ok (.aload_n 0, 1) := by decide +kernel
theorem dX4_init_21 : decode cX4_init 21 = .ok (.bipush 60, 2) := by decide +kernel
theorem dX4_init_23 : decode cX4_init 23 = .ok (.newarray .int, 2) := by decide +kernel
theorem dX4_init_25 : decode cX4_init 25 = .ok (.putfield 18, 3) := by decide +kernel
theorem dX4_init_28 : decode cX4_init 28 = .ok (.aload_n 0, 1) := by decide +kernel
theorem dX4_init_29 : decode cX4_init 29 = .ok (.bipush 60, 2) := by decide +kernel
theorem dX4_init_31 : decode cX4_init 31 = .ok (.newarray .int, 2) := by decide +kernel
theorem dX4_init_33 : decode cX4_init 33 = .ok (.putfield 21, 3) := by decide +kernel
theorem dX4_init_36 : decode cX4_init 36 = .ok (.aload_n 0, 1) := by decide +kernel
theorem dX4_init_37 : decode cX4_init 37 = .ok (.bipush 60, 2) := by decide +kernel
theorem dX4_init_39 : decode cX4_init 39 = .ok (.newarray .int, 2) := by decide +kernel
theorem dX4_init_41 : decode cX4_init 41 = .ok (.putfield 24, 3) := by decide +kernel
theorem dX4_init_44 : decode cX4_init 44 = .ok (.return_, 1) := by decide +kernel
theorem dX4_exists_0 : decode cX4_exists 0 = .ok (.aload_n 0, 1) := by decide +kernel
theorem dX4_exists_1 : decode cX4_exists 1 = .ok (.getfield 27, 3) := by decide +kernel
theorem dX4_exists_4 : decode cX4_exists 4 = .ok (.aload_n 0, 1) := by decide +kernel
theorem dX4_exists_5 : decode cX4_exists 5 = .ok (.getfield 31, 3) := by decide +kernel
theorem dX4_exists_8 : decode cX4_exists 8 = .ok (.if_icmp .ge 7, 3) := by decide +kernel
theorem dX4_exists_11 : decode cX4_exists 11 = .ok (.iconst 1, 1) := by decide +kernel
theorem dX4_exists_12 : decode cX4_exists 12 = .ok (.goto 4, 3) := by decide +kernel
theorem dX4_exists_15 : decode cX4_exists 15 = .ok (.iconst 0, 1) := by decide +kernel
theorem dX4_exists_16 : decode cX4_exists 16 = .ok (.ireturn, 1) := by decide +kernel
theorem dX4_end_0 : decode cX4_end 0 = .ok (.aload_n 0, 1) := by decide +kernel
theorem dX4_end_1 : decode cX4_end 1 = .ok (.iconst 0, 1) := by decide +kernel
theorem dX4_end_2 : decode cX4_end 2 = .ok (.putfield 31, 3) := by decide +kernel
theorem dX4_end_5 : decode cX4_end 5 = .ok (.aload_n 0, 1) := by decide +kernel
theorem dX4_end_6 : decode cX4_end 6 = .ok (.iconst 0, 1) := by decide +kernel
theorem dX4_end_7 : decode cX4_end 7 = .ok (.putfield 27, 3) := by decide +kernel
theorem dX4_end_10 : decode cX4_end 10 = .ok (.return_, 1) := by decide +kernel
theorem dX4_make_0 : decode cX4_make 0 = .ok (.aload_n 0, 1) := by decide +kernel
theorem dX4_make_1 : decode cX4_make 1 = .ok (.invokevirtual 34, 3) := by decide +kernel
theorem dX4_make_4 : decode cX4_make 4 = .ok (.aload_n 0, 1) := by decide +kernel
theorem dX4_make_5 : decode cX4_make 5 = .ok (.iload_n 3, 1) := by decide +kernel
theorem dX4_make_6 : decode cX4_make 6 = .ok (.putfield 37, 3) := by decide +kernel
theorem dX4_make_9 : decode cX4_make 9 = .ok (.aload_n 2, 1) := by decide +kernel
theorem dX4_make_10 : decode cX4_make 10 = .ok (.iconst 0, 1) := by decide +kernel
theorem dX4_make_11 : decode cX4_make 11 = .ok (.aload_n 0, 1) := by decide +kernel
theorem dX4_make_12 : decode cX4_make 12 = .ok (.getfield 9, 3) := by decide +kernel
theorem dX4_make_15 : decode cX4_make 15 = .ok (.iconst 0, 1) := by decide +kernel
theorem dX4_make_16 : decode cX4_make 16 = .ok (.aload_n 1, 1) := by decide +kernel
theorem dX4_make_17 : decode cX4_make 17 = .ok (.getfield 40, 3) := by decide +kernel
theorem dX4_make_20 : decode cX4_make 20 = .ok (.invokestatic 45, 3) := by decide +kernel
theorem dX4_make_23 : decode cX4_make 23 = .ok (.aload_n 1, 1) := by decide +kernel
theorem dX4_make_24 : decode cX4_make 24 = .ok (.getfield 40, 3) := by decide +kernel
theorem dX4_make_27 : decode cX4_make 27 = .ok (.iconst 1, 1) := by decide +kernel
theorem dX4_make_28 : decode cX4_make 28 = .ok (.isub, 1) := by decide +kernel
theorem dX4_make_29 : decode cX4_make 29 = .ok (.istore 4, 2) := by decide +kernel
theorem dX4_make_31 : decode cX4_make 31 = .ok (.iload 4, 2) := by decide +kernel
theorem dX4_make_33 : decode cX4_make 33 = .ok (.ifCond .lt 33, 3) := by decide +kernel
theorem dX4_make_36 : decode cX4_make 36 = .ok (.aload_n 0, 1) := by decide +kernel
theorem dX4_make_37 : decode cX4_make 37 = .ok (.getfield 9, 3) := by decide +kernel
theorem dX4_make_40 : decode cX4_make 40 = .ok (.iload 4, 2) := by decide +kernel
theorem dX4_make_42 : decode cX4_make 42 = .ok (.iaload, 1) := by decide +kernel
theorem dX4_make_43 : decode cX4_make 43 = .ok (.aload_n 1, 1) := by decide +kernel
theorem dX4_make_44 : decode cX4_make 44 = .ok (.getfield 51, 3) := by decide +kernel
theorem dX4_make_47 : decode cX4_make 47 = .ok (.iload 4, 2) := by decide +kernel
theorem dX4_make_49 : decode cX4_make 49 = .ok (.iaload, 1) := by decide +kernel
theorem dX4_make_50 : decode cX4_make 50 = .ok (.if_icmp .le 10, 3) := by decide +kernel
theorem dX4_make_53 : decode cX4_make 53 = .ok (.aload_n 0, 1) := by decide +kernel
theorem dX4_make_54 : decode cX4_make 54 = .ok (.aload_n 1, 1) := by decide +kernel
theorem dX4_make_55 : decode cX4_make 55 = .ok (.iload 4, 2) := by decide +kernel
theorem dX4_make_57 : decode cX4_make 57 = .ok (.invokevirtual 54, 3) := by decide +kernel
theorem dX4_make_60 : decode cX4_make 60 = .ok (.iinc 4 (-1), 3) := by decide +kernel
theorem dX4_make_63 : decode cX4_make 63 = .ok (.goto (-32), 3) := by decide +kernel
theorem dX4_make_66 : decode cX4_make 66 = .ok (.iconst 0, 1) := by decide +kernel
theorem dX4_make_67 : decode cX4_make 67 = .ok (.istore 4, 2) := by decide +kernel
theorem dX4_make_69 : decode cX4_make 69 = .ok (.iload 4, 2) := by decide +kernel
theorem dX4_make_71 : decode cX4_make 71 = .ok (.aload_n 1, 1) := by decide +kernel
theorem dX4_make_72 : decode cX4_make 72 = .ok (.getfield 40, 3) := by decide +kernel
theorem dX4_make_75 : decode cX4_make 75 = .ok (.if_icmp .ge 33, 3) := by decide +kernel
theorem dX4_make_78 : decode cX4_make 78 = .ok (.aload_n 0, 1) := by decide +kernel
theorem dX4_make_79 : decode cX4_make 79 = .ok (.getfield 9, 3) := by decide +kernel
theorem dX4_make_82 : decode cX4_make 82 = .ok (.iload 4, 2) := by decide +kernel
theorem dX4_make_84 : decode cX4_make 84 = .ok (.iaload, 1) := by decide +kernel
theorem dX4_make_85 : decode cX4_make 85 = .ok (.aload_n 1, 1) := by decide +kernel
theorem dX4_make_86 : decode cX4_make 86 = .ok (.getfield 51, 3) := by decide +kernel
theorem dX4_make_89 : decode cX4_make 89 = .ok (.iload 4, 2) := by decide +kernel
theorem dX4_make_91 : decode cX4_make 91 = .ok (.iaload, 1) := by decide +kernel
theorem dX4_make_92 : decode cX4_make 92 = .ok (.if_icmp .ge 10, 3) := by decide +kernel
theorem dX4_make_95 : decode cX4_make 95 = .ok (.aload_n 0, 1) := by decide +kernel
theorem dX4_make_96 : decode cX4_make 96 = .ok (.aload_n 1, 1) := by decide +kernel
theorem dX4_make_97 : decode cX4_make 97 = .ok (.iload 4, 2) := by decide +kernel
theorem dX4_make_99 : decode cX4_make 99 = .ok (.invokevirtual 54, 3) := by decide +kernel
theorem dX4_make_102 : decode cX4_make 102 = .ok (.iinc 4 1, 3) := by decide +kernel
theorem dX4_make_105 : decode cX4_make 105 = .ok (.goto (-36), 3) := by decide +kernel
theorem dX4_make_108 : decode cX4_make 108 = .ok (.return_, 1) := by decide +kernel
theorem dX4_add_0 : decode cX4_add 0 = .ok (.aload_n 0, 1) := by decide +kernel
theorem dX4_add_1 : decode cX4_add 1 = .ok (.getfield 31, 3) := by decide +kernel
theorem dX4_add_4 : decode cX4_add 4 = .ok (.bipush 60, 2) := by decide +kernel
theorem dX4_add_6 : decode cX4_add 6 = .ok (.if_icmp .lt 4, 3) := by decide +kernel
theorem dX4_add_9 : decode cX4_add 9 = .ok (.return_, 1) := by decide +kernel
theorem dX4_add_10 : decode cX4_add 10 = .ok (.aload_n 0, 1) := by decide +kernel
theorem dX4_add_11 : decode cX4_add 11 = .ok (.getfield 15, 3) := by decide +kernel
theorem dX4_add_14 : decode cX4_add 14 = .ok (.aload_n 0, 1) := by decide +kernel
theorem dX4_add_15 : decode cX4_add 15 = .ok (.getfield 31, 3) := by decide +kernel
theorem dX4_add_18 : decode cX4_add 18 = .ok (.iload_n 2, 1) := by decide +kernel
theorem dX4_add_19 : decode cX4_add 19 = .ok (.iastore, 1) := by decide +kernel
theorem dX4_add_20 : decode cX4_add 20 = .ok (.aload_n 0, 1) := by decide +kernel
theorem dX4_add_21 : decode cX4_add 21 = .ok (.getfield 18, 3) := by decide +kernel
theorem dX4_add_24 : decode cX4_add 24 = .ok (.aload_n 0, 1) := by decide +kernel
theorem dX4_add_25 : decode cX4_add 25 = .ok (.getfield 31, 3) := by decide +kernel
theorem dX4_add_28 : decode cX4_add 28 = .ok (.aload_n 1, 1) := by decide +kernel
theorem dX4_add_29 : decode cX4_add 29 = .ok (.getfield 58, 3) := by decide +kernel
theorem dX4_add_32 : decode cX4_add 32 = .ok (.iload_n 2, 1) := by decide +kernel
theorem dX4_add_33 : decode cX4_add 33 = .ok (.iaload, 1) := by decide +kernel
theorem dX4_add_34 : decode cX4_add 34 = .ok (.iastore, 1) := by decide +kernel
theorem dX4_add_35 : decode cX4_add 35 = .ok (.aload_n 0, 1) := by decide +kernel
theorem dX4_add_36 : decode cX4_add 36 = .ok (.getfield 21, 3) := by decide +kernel
theorem dX4_add_39 : decode cX4_add 39 = .ok (.aload_n 0, 1) := by decide +kernel
theorem dX4_add_40 : decode cX4_add 40 = .ok (.getfield 31, 3) := by decide +kernel
theorem dX4_add_43 : decode cX4_add 43 = .ok (.aload_n 1, 1) := by decide +kernel
theorem dX4_add_44 : decode cX4_add 44 = .ok (.getfield 51, 3) := by decide +kernel
theorem dX4_add_47 : decode cX4_add 47 = .ok (.iload_n 2, 1) := by decide +kernel
theorem dX4_add_48 : decode cX4_add 48 = .ok (.iaload, 1) := by decide +kernel
theorem dX4_add_49 : decode cX4_add 49 = .ok (.iastore, 1) := by decide +kernel
theorem dX4_add_50 : decode cX4_add 50 = .ok (.aload_n 0, 1) := by decide +kernel
theorem dX4_add_51 : decode cX4_add 51 = .ok (.getfield 24, 3) := by decide +kernel
theorem dX4_add_54 : decode cX4_add 54 = .ok (.aload_n 0, 1) := by decide +kernel
theorem dX4_add_55 : decode cX4_add 55 = .ok (.getfield 31, 3) := by decide +kernel
theorem dX4_add_58 : decode cX4_add 58 = .ok (.aload_n 0, 1) := by decide +kernel
theorem dX4_add_59 : decode cX4_add 59 = .ok (.getfield 9, 3) := by decide +kernel
theorem dX4_add_62 : decode cX4_add 62 = .ok (.iload_n 2, 1) := by decide +kernel
theorem dX4_add_63 : decode cX4_add 63 = .ok (.iaload, 1) := by decide +kernel
theorem dX4_add_64 : decode cX4_add 64 = .ok (.iastore, 1) := by decide +kernel
theorem dX4_add_65 : decode cX4_add 65 = .ok (.aload_n 0, 1) := by decide +kernel
theorem dX4_add_66 : decode cX4_add 66 = .ok (.dup, 1) := by decide +kernel
theorem dX4_add_67 : decode cX4_add 67 = .ok (.getfield 31, 3) := by decide +kernel
theorem dX4_add_70 : decode cX4_add 70 = .ok (.iconst 1, 1) := by decide +kernel
theorem dX4_add_71 : decode cX4_add 71 = .ok (.iadd, 1) := by decide +kernel
theorem dX4_add_72 : decode cX4_add 72 = .ok (.putfield 31, 3) := by decide +kernel
theorem dX4_add_75 : decode cX4_add 75 = .ok (.return_, 1) := by decide +kernel
theorem dX4_stepOn_0 : decode cX4_stepOn 0 = .ok (.aload_n 0, 1) := by decide +kernel
theorem dX4_stepOn_1 : decode cX4_stepOn 1 = .ok (.dup, 1) := by decide +kernel
theorem dX4_stepOn_2 : decode cX4_stepOn 2 = .ok (.getfield 27, 3) := by decide +kernel
theorem dX4_stepOn_5 : decode cX4_stepOn 5 = .ok (.iconst 1, 1) := by decide +kernel
theorem dX4_stepOn_6 : decode cX4_stepOn 6 = .ok (.iadd, 1) := by decide +kernel
theorem dX4_stepOn_7 : decode cX4_stepOn 7 = .ok (.putfield 27, 3) := by decide +kernel
theorem dX4_stepOn_10 : decode cX4_stepOn 10 = .ok (.aload_n 0, 1) := by decide +kernel
theorem dX4_stepOn_11 : decode cX4_stepOn 11 = .ok (.getfield 27, 3) := by decide +kernel
theorem dX4_stepOn_14 : decode cX4_stepOn 14 = .ok (.aload_n 0, 1) := by decide +kernel
theorem dX4_stepOn_15 : decode cX4_stepOn 15 = .ok (.getfield 31, 3) := by decide +kernel
theorem dX4_stepOn_18 : decode cX4_stepOn 18 = .ok (.if_icmp .lt 7, 3) := by decide +kernel
theorem dX4_stepOn_21 : decode cX4_stepOn 21 = .ok (.aload_n 0, 1) := by decide +kernel
theorem dX4_stepOn_22 : decode cX4_stepOn 22 = .ok (.invokevirtual 34, 3) := by decide +kernel
theorem dX4_stepOn_25 : decode cX4_stepOn 25 = .ok (.return_, 1) := by decide +kernel
theorem dX4_direction_0 : decode cX4_direction 0 = .ok (.aload_n 0, 1) := by decide +kernel
theorem dX4_direction_1 : decode cX4_direction 1 = .ok (.getfield 24, 3) := by decide +kernel
theorem dX4_direction_4 : decode cX4_direction 4 = .ok (.iload_n 1, 1) := by decide +kernel
theorem dX4_direction_5 : decode cX4_direction 5 = .ok (.iaload, 1) := by decide +kernel
theorem dX4_direction_6 : decode cX4_direction 6 = .ok (.aload_n 0, 1) := by decide +kernel
theorem dX4_direction_7 : decode cX4_direction 7 = .ok (.getfield 21, 3) := by decide +kernel
theorem dX4_direction_10 : decode cX4_direction 10 = .ok (.iload_n 1, 1) := by decide +kernel
theorem dX4_direction_11 : decode cX4_direction 11 = .ok (.iaload, 1) := by decide +kernel
theorem dX4_direction_12 : decode cX4_direction 12 = .ok (.if_icmp .le 7, 3) := by decide +kernel
theorem dX4_direction_15 : decode cX4_direction 15 = .ok (.iconst 1, 1) := by decide +kernel
theorem dX4_direction_16 : decode cX4_direction 16 = .ok (.goto 4, 3) := by decide +kernel
theorem dX4_direction_19 : decode cX4_direction 19 = .ok (.iconst 2, 1) := by decide +kernel
theorem dX4_direction_20 : decode cX4_direction 20 = .ok (.ireturn, 1) := by decide +kernel
theorem dX4_movesOfNextDay_0 : decode cX4_movesOfNextDay 0 = .ok (.iconst 0, 1) := by decide +kernel
theorem dX4_movesOfNextDay_1 : decode cX4_movesOfNextDay 1 = .ok (.istore_n 2, 1) := by decide +kernel
theorem dX4_movesOfNextDay_2 : decode cX4_movesOfNextDay 2 = .ok (.aload_n 0, 1) := by decide +kernel
theorem dX4_movesOfNextDay_3 : decode cX4_movesOfNextDay 3 = .ok (.getfield 27, 3) := by decide +kernel
theorem dX4_movesOfNextDay_6 : decode cX4_movesOfNextDay 6 = .ok (.istore_n 3, 1) := by decide +kernel
theorem dX4_movesOfNextDay_7 : decode cX4_movesOfNextDay 7 = .ok (.iload_n 3, 1) := by decide +kernel
theorem dX4_movesOfNextDay_8 : decode cX4_movesOfNextDay 8 = .ok (.aload_n 0, 1) := by decide +kernel
theorem dX4_movesOfNextDay_9 : decode cX4_movesOfNextDay 9 = .ok (.getfield 31, 3) := by decide +kernel
theorem dX4_movesOfNextDay_12 : decode cX4_movesOfNextDay 12 = .ok (.if_icmp .ge 30, 3) := by decide +kernel
theorem dX4_movesOfNextDay_15 : decode cX4_movesOfNextDay 15 = .ok (.iload_n 2, 1) := by decide +kernel
theorem dX4_movesOfNextDay_16 : decode cX4_movesOfNextDay 16 = .ok (.aload_n 0, 1) := by decide +kernel
theorem dX4_movesOfNextDay_17 : decode cX4_movesOfNextDay 17 = .ok (.getfield 18, 3) := by decide +kernel
theorem dX4_movesOfNextDay_20 : decode cX4_movesOfNextDay 20 = .ok (.iload_n 3, 1) := by decide +kernel
theorem dX4_movesOfNextDay_21 : decode cX4_movesOfNextDay 21 = .ok (.iaload, 1) := by decide +kernel
theorem dX4_movesOfNextDay_22 : decode cX4_movesOfNextDay 22 = .ok (.iadd, 1) := by decide +kernel
theorem dX4_movesOfNextDay_23 : decode cX4_movesOfNextDay 23 = .ok (.iload_n 1, 1) := by decide +kernel
theorem dX4_movesOfNextDay_24 : decode cX4_movesOfNextDay 24 = .ok (.if_icmp .gt 18, 3) := by decide +kernel
theorem dX4_movesOfNextDay_27 : decode cX4_movesOfNextDay 27 = .ok (.iload_n 2, 1) := by decide +kernel
theorem dX4_movesOfNextDay_28 : decode cX4_movesOfNextDay 28 = .ok (.aload_n 0, 1) := by decide +kernel
theorem dX4_movesOfNextDay_29 : decode cX4_movesOfNextDay 29 = .ok (.getfield 18, 3) := by decide +kernel
theorem dX4_movesOfNextDay_32 : decode cX4_movesOfNextDay 32 = .ok (.iload_n 3, 1) := by decide +kernel
theorem dX4_movesOfNextDay_33 : decode cX4_movesOfNextDay 33 = .ok (.iaload, 1) := by decide +kernel
theorem dX4_movesOfNextDay_34 : decode cX4_movesOfNextDay 34 = .ok (.iadd, 1) := by decide +kernel
theorem dX4_movesOfNextDay_35 : decode cX4_movesOfNextDay 35 = .ok (.istore_n 2, 1) := by decide +kernel
theorem dX4_movesOfNextDay_36 : decode cX4_movesOfNextDay 36 = .ok (.iinc 3 1, 3) := by decide +kernel
theorem dX4_movesOfNextDay_39 : decode cX4_movesOfNextDay 39 = .ok (.goto (-32), 3) := by decide +kernel
theorem dX4_movesOfNextDay_42 : decode cX4_movesOfNextDay 42 = .ok (.iload_n 3, 1) := by decide +kernel
theorem dX4_movesOfNextDay_43 : decode cX4_movesOfNextDay 43 = .ok (.aload_n 0, 1) := by decide +kernel
theorem dX4_movesOfNextDay_44 : decode cX4_movesOfNextDay 44 = .ok (.getfield 27, 3) := by decide +kernel
theorem dX4_movesOfNextDay_47 : decode cX4_movesOfNextDay 47 = .ok (.isub, 1) := by decide +kernel
theorem dX4_movesOfNextDay_48 : decode cX4_movesOfNextDay 48 = .ok (.ireturn, 1) := by decide +kernel
theorem dX4_days_0 : decode cX4_days 0 = .ok (.iconst 0, 1) := by decide +kernel
theorem dX4_days_1 : decode cX4_days 1 = .ok (.istore 4, 2) := by decide +kernel
theorem dX4_days_3 : decode cX4_days 3 = .ok (.iconst 0, 1) := by decide +kernel
theorem dX4_days_4 : decode cX4_days 4 = .ok (.istore 5, 2) := by decide +kernel
theorem dX4_days_6 : decode cX4_days 6 = .ok (.iload_n 1, 1) := by decide +kernel
theorem dX4_days_7 : decode cX4_days 7 = .ok (.istore 6, 2) := by decide +kernel
theorem dX4_days_9 : decode cX4_days 9 = .ok (.iload 6, 2) := by decide +kernel
theorem dX4_days_11 : decode cX4_days 11 = .ok (.iload_n 2, 1) := by decide +kernel
theorem dX4_days_12 : decode cX4_days 12 = .ok (.if_icmp .ge 47, 3) := by decide +kernel
theorem dX4_days_15 : decode cX4_days 15 = .ok (.iload 6, 2) := by decide +kernel
theorem dX4_days_17 : decode cX4_days 17 = .ok (.iload_n 1, 1) := by decide +kernel
theorem dX4_days_18 : decode cX4_days 18 = .ok (.if_icmp .eq 17, 3) := by decide +kernel
theorem dX4_days_21 : decode cX4_days 21 = .ok (.iload 5, 2) := by decide +kernel
theorem dX4_days_23 : decode cX4_days 23 = .ok (.aload_n 0, 1) := by decide +kernel
theorem dX4_days_24 : decode cX4_days 24 = .ok (.getfield 18, 3) := by decide +kernel
theorem dX4_days_27 : decode cX4_days 27 = .ok (.iload 6, 2) := by decide +kernel
theorem dX4_days_29 : decode cX4_days 29 = .ok (.iaload, 1) := by decide +kernel
theorem dX4_days_30 : decode cX4_days 30 = .ok (.iadd, 1) := by decide +kernel
theorem dX4_days_31 : decode cX4_days 31 = .ok (.iload_n 3, 1) := by decide +kernel
theorem dX4_days_32 : decode cX4_days 32 = .ok (.if_icmp .le 9, 3) := by decide +kernel
theorem dX4_days_35 : decode cX4_days 35 = .ok (.iinc 4 1, 3) := by decide +kernel
theorem dX4_days_38 : decode cX4_days 38 = .ok (.iconst 0, 1) := by decide +kernel
theorem dX4_days_39 : decode cX4_days 39 = .ok (.istore 5, 2) := by decide +kernel
theorem dX4_days_41 : decode cX4_days 41 = .ok (.iload 5, 2) := by decide +kernel
theorem dX4_days_43 : decode cX4_days 43 = .ok (.aload_n 0, 1) := by decide +kernel
theorem dX4_days_44 : decode cX4_days 44 = .ok (.getfield 18, 3) := by decide +kernel
theorem dX4_days_47 : decode cX4_days 47 = .ok (.iload 6, 2) := by decide +kernel
theorem dX4_days_49 : decode cX4_days 49 = .ok (.iaload, 1) := by decide +kernel
theorem dX4_days_50 : decode cX4_days 50 = .ok (.iadd, 1) := by decide +kernel
theorem dX4_days_51 : decode cX4_days 51 = .ok (.istore 5, 2) := by decide +kernel
theorem dX4_days_53 : decode cX4_days 53 = .ok (.iinc 6 1, 3) := by decide +kernel
theorem dX4_days_56 : decode cX4_days 56 = .ok (.goto (-47), 3) := by decide +kernel
theorem dX4_days_59 : decode cX4_days 59 = .ok (.iload 4, 2) := by decide +kernel
theorem dX4_days_61 : decode cX4_days 61 = .ok (.ireturn, 1) := by decide +kernel
theorem dX4_trips_0 : decode cX4_trips 0 = .ok (.iconst 0, 1) := by decide +kernel
theorem dX4_trips_1 : decode cX4_trips 1 = .ok (.istore_n 3, 1) := by decide +kernel
theorem dX4_trips_2 : decode cX4_trips 2 = .ok (.iload_n 1, 1) := by decide +kernel
theorem dX4_trips_3 : decode cX4_trips 3 = .ok (.istore 4, 2) := by decide +kernel
theorem dX4_trips_5 : decode cX4_trips 5 = .ok (.iload 4, 2) := by decide +kernel
theorem dX4_trips_7 : decode cX4_trips 7 = .ok (.iload_n 2, 1) := by decide +kernel
theorem dX4_trips_8 : decode cX4_trips 8 = .ok (.if_icmp .ge 56, 3) := by decide +kernel
theorem dX4_trips_11 : decode cX4_trips 11 = .ok (.iload 4, 2) := by decide +kernel
theorem dX4_trips_13 : decode cX4_trips 13 = .ok (.iload_n 1, 1) := by decide +kernel
theorem dX4_trips_14 : decode cX4_trips 14 = .ok (.if_icmp .eq 41, 3) := by decide +kernel
theorem dX4_trips_17 : decode cX4_trips 17 = .ok (.aload_n 0, 1) := by decide +kernel
theorem dX4_trips_18 : decode cX4_trips 18 = .ok (.getfield 21, 3) := by decide +kernel
theorem dX4_trips_21 : decode cX4_trips 21 = .ok (.iload 4, 2) := by decide +kernel
theorem dX4_trips_23 : decode cX4_trips 23 = .ok (.iaload, 1) := by decide +kernel
theorem dX4_trips_24 : decode cX4_trips 24 = .ok (.aload_n 0, 1) := by decide +kernel
theorem dX4_trips_25 : decode cX4_trips 25 = .ok (.getfield 21, 3) := by decide +kernel
theorem dX4_trips_28 : decode cX4_trips 28 = .ok (.iload 4, 2) := by decide +kernel
theorem dX4_trips_30 : decode cX4_trips 30 = .ok (.iconst 1, 1) := by decide +kernel
theorem dX4_trips_31 : decode cX4_trips 31 = .ok (.isub, 1) := by decide +kernel
theorem dX4_trips_32 : decode cX4_trips 32 = .ok (.iaload, 1) := by decide +kernel
theorem dX4_trips_33 : decode cX4_trips 33 = .ok (.if_icmp .ne 22, 3) := by decide +kernel
theorem dX4_trips_36 : decode cX4_trips 36 = .ok (.aload_n 0, 1) := by decide +kernel
theorem dX4_trips_37 : decode cX4_trips 37 = .ok (.getfield 24, 3) := by decide +kernel
theorem dX4_trips_40 : decode cX4_trips 40 = .ok (.iload 4, 2) := by decide +kernel
theorem dX4_trips_42 : decode cX4_trips 42 = .ok (.iaload, 1) := by decide +kernel
theorem dX4_trips_43 : decode cX4_trips 43 = .ok (.aload_n 0, 1) := by decide +kernel
theorem dX4_trips_44 : decode cX4_trips 44 = .ok (.getfield 24, 3) := by decide +kernel
theorem dX4_trips_47 : decode cX4_trips 47 = .ok (.iload 4, 2) := by decide +kernel
theorem dX4_trips_49 : decode cX4_trips 49 = .ok (.iconst 1, 1) := by decide +kernel
theorem dX4_trips_50 : decode cX4_trips 50 = .ok (.isub, 1) := by decide +kernel
theorem dX4_trips_51 : decode cX4_trips 51 = .ok (.iaload, 1) := by decide +kernel
theorem dX4_trips_52 : decode cX4_trips 52 = .ok (.if_icmp .eq 6, 3) := by decide +kernel
theorem dX4_trips_55 : decode cX4_trips 55 = .ok (.iinc 3 1, 3) := by decide +kernel
theorem dX4_trips_58 : decode cX4_trips 58 = .ok (.iinc 4 1, 3) := by decide +kernel
theorem dX4_trips_61 : decode cX4_trips 61 = .ok (.goto (-56), 3) := by decide +kernel
theorem dX4_trips_64 : decode cX4_trips 64 = .ok (.iload_n 3, 1) := by decide +kernel
theorem dX4_trips_65 : decode cX4_trips 65 = .ok (.ireturn, 1) := by decide +kernel
theorem dX4_takenAheadOf_0 : decode cX4_takenAheadOf 0 = .ok (.iconst 0, 1) := by decide +kernel
theorem dX4_takenAheadOf_1 : decode cX4_takenAheadOf 1 = .ok (.istore_n 2, 1) := by decide +kernel
theorem dX4_takenAheadOf_2 : decode cX4_takenAheadOf 2 = .ok (.iconst 0, 1) := by decide +kernel
theorem dX4_takenAheadOf_3 : decode cX4_takenAheadOf 3 = .ok (.istore_n 3, 1) := by decide +kernel
theorem dX4_takenAheadOf_4 : decode cX4_takenAheadOf 4 = .ok (.iload_n 3, 1) := by decide +kernel
theorem dX4_takenAheadOf_5 : decode cX4_takenAheadOf 5 = .ok (.iload_n 1, 1) := by decide +kernel
theorem dX4_takenAheadOf_6 : decode cX4_takenAheadOf 6 = .ok (.if_icmp .ge 27, 3) := by decide +kernel
theorem dX4_takenAheadOf_9 : decode cX4_takenAheadOf 9 = .ok (.aload_n 0, 1) := by decide +kernel
theorem dX4_takenAheadOf_10 : decode cX4_takenAheadOf 10 = .ok (.getfield 21, 3) := by decide +kernel
theorem dX4_takenAheadOf_13 : decode cX4_takenAheadOf 13 = .ok (.iload_n 3, 1) := by decide +kernel
theorem dX4_takenAheadOf_14 : decode cX4_takenAheadOf 14 = .ok (.iaload, 1) := by decide +kernel
theorem dX4_takenAheadOf_15 : decode cX4_takenAheadOf 15 = .ok (.aload_n 0, 1) := by decide +kernel
theorem dX4_takenAheadOf_16 : decode cX4_takenAheadOf 16 = .ok (.getfield 24, 3) := by decide +kernel
theorem dX4_takenAheadOf_19 : decode cX4_takenAheadOf 19 = .ok (.iload_n 1, 1) := by decide +kernel
theorem dX4_takenAheadOf_20 : decode cX4_takenAheadOf 20 = .ok (.iaload, 1) := by decide +kernel
theorem dX4_takenAheadOf_21 : decode cX4_takenAheadOf 21 = .ok (.if_icmp .ne 6, 3) := by decide +kernel
theorem dX4_takenAheadOf_24 : decode cX4_takenAheadOf 24 = .ok (.iinc 2 1, 3) := by decide +kernel
theorem dX4_takenAheadOf_27 : decode cX4_takenAheadOf 27 = .ok (.iinc 3 1, 3) := by decide +kernel
theorem dX4_takenAheadOf_30 : decode cX4_takenAheadOf 30 = .ok (.goto (-26), 3) := by decide +kernel
theorem dX4_takenAheadOf_33 : decode cX4_takenAheadOf 33 = .ok (.iload_n 2, 1) := by decide +kernel
theorem dX4_takenAheadOf_34 : decode cX4_takenAheadOf 34 = .ok (.ireturn, 1) := by decide +kernel
theorem dX4_widthsLeft_0 : decode cX4_widthsLeft 0 = .ok (.iconst 0, 1) := by decide +kernel
theorem dX4_widthsLeft_1 : decode cX4_widthsLeft 1 = .ok (.istore_n 1, 1) := by decide +kernel
theorem dX4_widthsLeft_2 : decode cX4_widthsLeft 2 = .ok (.aload_n 0, 1) := by decide +kernel
theorem dX4_widthsLeft_3 : decode cX4_widthsLeft 3 = .ok (.getfield 27, 3) := by decide +kernel
theorem dX4_widthsLeft_6 : decode cX4_widthsLeft 6 = .ok (.istore_n 2, 1) := by decide +kernel
theorem dX4_widthsLeft_7 : decode cX4_widthsLeft 7 = .ok (.iload_n 2, 1) := by decide +kernel
theorem dX4_widthsLeft_8 : decode cX4_widthsLeft 8 = .ok (.aload_n 0, 1) := by decide +kernel
theorem dX4_widthsLeft_9 : decode cX4_widthsLeft 9 = .ok (.getfield 31, 3) := by decide +kernel
theorem dX4_widthsLeft_12 : decode cX4_widthsLeft 12 = .ok (.if_icmp .ge 18, 3) := by decide +kernel
theorem dX4_widthsLeft_15 : decode cX4_widthsLeft 15 = .ok (.iload_n 1, 1) := by decide +kernel
theorem dX4_widthsLeft_16 : decode cX4_widthsLeft 16 = .ok (.aload_n 0, 1) := by decide +kernel
theorem dX4_widthsLeft_17 : decode cX4_widthsLeft 17 = .ok (.getfield 18, 3) := by decide +kernel
theorem dX4_widthsLeft_20 : decode cX4_widthsLeft 20 = .ok (.iload_n 2, 1) := by decide +kernel
theorem dX4_widthsLeft_21 : decode cX4_widthsLeft 21 = .ok (.iaload, 1) := by decide +kernel
theorem dX4_widthsLeft_22 : decode cX4_widthsLeft 22 = .ok (.iadd, 1) := by decide +kernel
theorem dX4_widthsLeft_23 : decode cX4_widthsLeft 23 = .ok (.istore_n 1, 1) := by decide +kernel
theorem dX4_widthsLeft_24 : decode cX4_widthsLeft 24 = .ok (.iinc 2 1, 3) := by decide +kernel
theorem dX4_widthsLeft_27 : decode cX4_widthsLeft 27 = .ok (.goto (-20), 3) := by decide +kernel
theorem dX4_widthsLeft_30 : decode cX4_widthsLeft 30 = .ok (.iload_n 1, 1) := by decide +kernel
theorem dX4_widthsLeft_31 : decode cX4_widthsLeft 31 = .ok (.ireturn, 1) := by decide +kernel
theorem dX4_rightsLeft_0 : decode cX4_rightsLeft 0 = .ok (.iconst 0, 1) := by decide +kernel
theorem dX4_rightsLeft_1 : decode cX4_rightsLeft 1 = .ok (.istore_n 1, 1) := by decide +kernel
theorem dX4_rightsLeft_2 : decode cX4_rightsLeft 2 = .ok (.aload_n 0, 1) := by decide +kernel
theorem dX4_rightsLeft_3 : decode cX4_rightsLeft 3 = .ok (.getfield 27, 3) := by decide +kernel
theorem dX4_rightsLeft_6 : decode cX4_rightsLeft 6 = .ok (.istore_n 2, 1) := by decide +kernel
theorem dX4_rightsLeft_7 : decode cX4_rightsLeft 7 = .ok (.iload_n 2, 1) := by decide +kernel
theorem dX4_rightsLeft_8 : decode cX4_rightsLeft 8 = .ok (.aload_n 0, 1) := by decide +kernel
theorem dX4_rightsLeft_9 : decode cX4_rightsLeft 9 = .ok (.getfield 31, 3) := by decide +kernel
theorem dX4_rightsLeft_12 : decode cX4_rightsLeft 12 = .ok (.if_icmp .ge 21, 3) := by decide +kernel
theorem dX4_rightsLeft_15 : decode cX4_rightsLeft 15 = .ok (.aload_n 0, 1) := by decide +kernel
theorem dX4_rightsLeft_16 : decode cX4_rightsLeft 16 = .ok (.iload_n 2, 1) := by decide +kernel
theorem dX4_rightsLeft_17 : decode cX4_rightsLeft 17 = .ok (.invokevirtual 59, 3) := by decide +kernel
theorem dX4_rightsLeft_20 : decode cX4_rightsLeft 20 = .ok (.iconst 1, 1) := by decide +kernel
theorem dX4_rightsLeft_21 : decode cX4_rightsLeft 21 = .ok (.if_icmp .ne 6, 3) := by decide +kernel
theorem dX4_rightsLeft_24 : decode cX4_rightsLeft 24 = .ok (.iinc 1 1, 3) := by decide +kernel
theorem dX4_rightsLeft_27 : decode cX4_rightsLeft 27 = .ok (.iinc 2 1, 3) := by decide +kernel
theorem dX4_rightsLeft_30 : decode cX4_rightsLeft 30 = .ok (.goto (-23), 3) := by decide +kernel
theorem dX4_rightsLeft_33 : decode cX4_rightsLeft 33 = .ok (.iload_n 1, 1) := by decide +kernel
theorem dX4_rightsLeft_34 : decode cX4_rightsLeft 34 = .ok (.ireturn, 1) := by decide +kernel
theorem dX5_init_0 : decode cX5_init 0 = .ok (.aload_n 0, 1) := by decide +kernel
theorem dX5_init_1 : decode cX5_init 1 = .ok (.invokespecial 3, 3) := by decide +kernel
theorem dX5_init_4 : decode cX5_init 4 = .ok (.aload_n 0, 1) := by decide +kernel
theorem dX5_init_5 : decode cX5_init 5 = .ok (.bipush 12, 2) := by decide +kernel
theorem dX5_init_7 : decode cX5_init 7 = .ok (.newarray .int, 2) := by decide +kernel
theorem dX5_init_9 : decode cX5_init 9 = .ok (.putfield 9, 3) := by decide +kernel
theorem dX5_init_12 : decode cX5_init 12 = .ok (.aload_n 0, 1) := by decide +kernel
theorem dX5_init_13 : decode cX5_init 13 = .ok (.bipush 12, 2) := by decide +kernel
theorem dX5_init_15 : decode cX5_init 15 = .ok (.newarray .int, 2) := by decide +kernel
theorem dX5_init_17 : decode cX5_init 17 = .ok (.putfield 15, 3) := by decide +kernel
theorem dX5_init_20 : decode cX5_init 20 = .ok (.return_, 1) := by decide +kernel
theorem dX5_add_0 : decode cX5_add 0 = .ok (.aload_n 0, 1) := by decide +kernel
theorem dX5_add_1 : decode cX5_add 1 = .ok (.getfield 18, 3) := by decide +kernel
theorem dX5_add_4 : decode cX5_add 4 = .ok (.istore_n 3, 1) := by decide +kernel
theorem dX5_add_5 : decode cX5_add 5 = .ok (.aload_n 0, 1) := by decide +kernel
theorem dX5_add_6 : decode cX5_add 6 = .ok (.getfield 9, 3) := by decide +kernel
theorem dX5_add_9 : decode cX5_add 9 = .ok (.iload_n 3, 1) := by decide +kernel
theorem dX5_add_10 : decode cX5_add 10 = .ok (.iload_n 1, 1) := by decide +kernel
theorem dX5_add_11 : decode cX5_add 11 = .ok (.iastore, 1) := by decide +kernel
theorem dX5_add_12 : decode cX5_add 12 = .ok (.aload_n 0, 1) := by decide +kernel
theorem dX5_add_13 : decode cX5_add 13 = .ok (.getfield 15, 3) := by decide +kernel
theorem dX5_add_16 : decode cX5_add 16 = .ok (.iload_n 3, 1) := by decide +kernel
theorem dX5_add_17 : decode cX5_add 17 = .ok (.iload_n 2, 1) := by decide +kernel
theorem dX5_add_18 : decode cX5_add 18 = .ok (.iastore, 1) := by decide +kernel
theorem dX5_add_19 : decode cX5_add 19 = .ok (.aload_n 0, 1) := by decide +kernel
theorem dX5_add_20 : decode cX5_add 20 = .ok (.dup, 1) := by decide +kernel
theorem dX5_add_21 : decode cX5_add 21 = .ok (.getfield 18, 3) := by decide +kernel
theorem dX5_add_24 : decode cX5_add 24 = .ok (.iconst 1, 1) := by decide +kernel
theorem dX5_add_25 : decode cX5_add 25 = .ok (.iadd, 1) := by decide +kernel
theorem dX5_add_26 : decode cX5_add 26 = .ok (.putfield 18, 3) := by decide +kernel
theorem dX5_add_29 : decode cX5_add 29 = .ok (.iload_n 3, 1) := by decide +kernel
theorem dX5_add_30 : decode cX5_add 30 = .ok (.ireturn, 1) := by decide +kernel
theorem dX5_openLengths_0 : decode cX5_openLengths 0 = .ok (.iconst 0, 1) := by decide +kernel
theorem dX5_openLengths_1 : decode cX5_openLengths 1 = .ok (.istore_n 1, 1) := by decide +kernel
theorem dX5_openLengths_2 : decode cX5_openLengths 2 = .ok (.iconst 0, 1) := by decide +kernel
theorem dX5_openLengths_3 : decode cX5_openLengths 3 = .ok (.istore_n 2, 1) := by decide +kernel
theorem dX5_openLengths_4 : decode cX5_openLengths 4 = .ok (.iload_n 2, 1) := by decide +kernel
theorem dX5_openLengths_5 : decode cX5_openLengths 5 = .ok (.aload_n 0, 1) := by decide +kernel
theorem dX5_openLengths_6 : decode cX5_openLengths 6 = .ok (.getfield 18, 3) := by decide +kernel
theorem dX5_openLengths_9 : decode cX5_openLengths 9 = .ok (.if_icmp .ge 27, 3) := by decide +kernel
theorem dX5_openLengths_12 : decode cX5_openLengths 12 = .ok (.aload_n 0, 1) := by decide +kernel
theorem dX5_openLengths_13 : decode cX5_openLengths 13 = .ok (.getfield 15, 3) := by decide +kernel
theorem dX5_openLengths_16 : decode cX5_openLengths 16 = .ok (.iload_n 2, 1) := by decide +kernel
theorem dX5_openLengths_17 : decode cX5_openLengths 17 = .ok (.iaload, 1) := by decide +kernel
theorem dX5_openLengths_18 : decode cX5_openLengths 18 = .ok (.ifCond .ne 12, 3) := by decide +kernel
theorem dX5_openLengths_21 : decode cX5_openLengths 21 = .ok (.iload_n 1, 1) := by decide +kernel
theorem dX5_openLengths_22 : decode cX5_openLengths 22 = .ok (.aload_n 0, 1) := by decide +kernel
theorem dX5_openLengths_23 : decode cX5_openLengths 23 = .ok (.getfield 9, 3) := by decide +kernel
theorem dX5_openLengths_26 : decode cX5_openLengths 26 = .ok (.iload_n 2, 1) := by decide +kernel
theorem dX5_openLengths_27 : decode cX5_openLengths 27 = .ok (.iaload, 1) := by decide +kernel
theorem dX5_openLengths_28 : decode cX5_openLengths 28 = .ok (.iadd, 1) := by decide +kernel
theorem dX5_openLengths_29 : decode cX5_openLengths 29 = .ok (.istore_n 1, 1) := by decide +kernel
theorem dX5_openLengths_30 : decode cX5_openLengths 30 = .ok (.iinc 2 1, 3) := by decide +kernel
theorem dX5_openLengths_33 : decode cX5_openLengths 33 = .ok (.goto (-29), 3) := by decide +kernel
theorem dX5_openLengths_36 : decode cX5_openLengths 36 = .ok (.iload_n 1, 1) := by decide +kernel
theorem dX5_openLengths_37 : decode cX5_openLengths 37 = .ok (.ireturn, 1) := by decide +kernel
theorem dX6_init_0 : decode cX6_init 0 = .ok (.aload_n 0, 1) := by decide +kernel
theorem dX6_init_1 : decode cX6_init 1 = .ok (.invokespecial 1, 3) := by decide +kernel
theorem dX6_init_4 : decode cX6_init 4 = .ok (.aload_n 0, 1) := by decide +kernel
theorem dX6_init_5 : decode cX6_init 5 = .ok (.new 7, 3) := by decide +kernel
theorem dX6_init_8 : decode cX6_init 8 = .ok (.dup, 1) := by decide +kernel
theorem dX6_init_9 : decode cX6_init 9 = .ok (.invokespecial 9, 3) := by decide +kernel
theorem dX6_init_12 : decode cX6_init 12 = .ok (.putfield 10, 3) := by decide +kernel
theorem dX6_init_15 : decode cX6_init 15 = .ok (.aload_n 0, 1) := by decide +kernel
theorem dX6_init_16 : decode cX6_init 16 = .ok (.new 16, 3) := by decide +kernel
theorem dX6_init_19 : decode cX6_init 19 = .ok (.dup, 1) := by decide +kernel
theorem dX6_init_20 : decode cX6_init 20 = .ok (.invokespecial 18, 3) := by decide +kernel
theorem dX6_init_23 : decode cX6_init 23 = .ok (.putfield 19, 3) := by decide +kernel
theorem dX6_init_26 : decode cX6_init 26 = .ok (.aload_n 0, 1) := by decide +kernel
theorem dX6_init_27 : decode cX6_init 27 = .ok (.new 23, 3) := by decide +kernel
theorem dX6_init_30 : decode cX6_init 30 = .ok (.dup, 1) := by decide +kernel
theorem dX6_init_31 : decode cX6_init 31 = .ok (.invokespecial 25, 3) := by decide +kernel
theorem dX6_init_34 : decode cX6_init 34 = .ok (.putfield 26, 3) := by decide +kernel
theorem dX6_init_37 : decode cX6_init 37 = .ok (.aload_n 0, 1) := by decide +kernel
theorem dX6_init_38 : decode cX6_init 38 = .ok (.new 30, 3) := by decide +kernel
theorem dX6_init_41 : decode cX6_init 41 = .ok (.dup, 1) := by decide +kernel
theorem dX6_init_42 : decode cX6_init 42 = .ok (.invokespecial 32, 3) := by decide +kernel
theorem dX6_init_45 : decode cX6_init 45 = .ok (.putfield 33, 3) := by decide +kernel
theorem dX6_init_48 : decode cX6_init 48 = .ok (.aload_n 0, 1) := by decide +kernel
theorem dX6_init_49 : decode cX6_init 49 = .ok (.new 37, 3) := by decide +kernel
theorem dX6_init_52 : decode cX6_init 52 = .ok (.dup, 1) := by decide +kernel
theorem dX6_init_53 : decode cX6_init 53 = .ok (.invokespecial 39, 3) := by decide +kernel
theorem dX6_init_56 : decode cX6_init 56 = .ok (.putfield 40, 3) := by decide +kernel
theorem dX6_init_59 : decode cX6_init 59 = .ok (.aload_n 0, 1) := by decide +kernel
theorem dX6_init_60 : decode cX6_init 60 = .ok (.new 44, 3) := by decide +kernel
theorem dX6_init_63 : decode cX6_init 63 = .ok (.dup, 1) := by decide +kernel
theorem dX6_init_64 : decode cX6_init 64 = .ok (.invokespecial 46, 3) := by decide +kernel
theorem dX6_init_67 : decode cX6_init 67 = .ok (.putfield 47, 3) := by decide +kernel
theorem dX6_init_70 : decode cX6_init 70 = .ok (.aload_n 0, 1) := by decide +kernel
theorem dX6_init_71 : decode cX6_init 71 = .ok (.bipush 100, 2) := by decide +kernel
theorem dX6_init_73 : decode cX6_init 73 = .ok (.putfield 51, 3) := by decide +kernel
theorem dX6_init_76 : decode cX6_init 76 = .ok (.return_, 1) := by decide +kernel
theorem dX6_shelf_0 : decode cX6_shelf 0 = .ok (.iload_n 1, 1) := by decide +kernel
theorem dX6_shelf_1 : decode cX6_shelf 1 = .ok (.bipush 10, 2) := by decide +kernel
theorem dX6_shelf_3 : decode cX6_shelf 3 = .ok (.sipush 200, 3) := by decide +kernel
theorem dX6_shelf_6 : decode cX6_shelf 6 = .ok (.invokestatic 55, 3) := by decide +kernel
theorem dX6_shelf_9 : decode cX6_shelf 9 = .ok (.ifCond .eq 16, 3) := by decide +kernel
theorem dX6_shelf_12 : decode cX6_shelf 12 = .ok (.iload_n 2, 1) := by decide +kernel
theorem dX6_shelf_13 : decode cX6_shelf 13 = .ok (.iconst 0, 1) := by decide +kernel
theorem dX6_shelf_14 : decode cX6_shelf 14 = .ok (.iconst 2, 1) := by decide +kernel
theorem dX6_shelf_15 : decode cX6_shelf 15 = .ok (.invokestatic 55, 3) := by decide +kernel
theorem dX6_shelf_18 : decode cX6_shelf 18 = .ok (.ifCond .eq 7, 3) := by decide +kernel
theorem dX6_shelf_21 : decode cX6_shelf 21 = .ok (.iconst 1, 1) := by decide +kernel
theorem dX6_shelf_22 : decode cX6_shelf 22 = .ok (.goto 4, 3) := by decide +kernel
theorem dX6_shelf_25 : decode cX6_shelf 25 = .ok (.iconst 0, 1) := by decide +kernel
theorem dX6_shelf_26 : decode cX6_shelf 26 = .ok (.istore_n 3, 1) := by decide +kernel
theorem dX6_shelf_27 : decode cX6_shelf 27 = .ok (.iload_n 3, 1) := by decide +kernel
theorem dX6_shelf_28 : decode cX6_shelf 28 = .ok (.ifCond .eq 15, 3) := by decide +kernel
theorem dX6_shelf_31 : decode cX6_shelf 31 = .ok (.aload_n 0, 1) := by decide +kernel
theorem dX6_shelf_32 : decode cX6_shelf 32 = .ok (.getfield 10, 3) := by decide +kernel
theorem dX6_shelf_35 : decode cX6_shelf 35 = .ok (.getfield 59, 3) := by decide +kernel
theorem dX6_shelf_38 : decode cX6_shelf 38 = .ok (.bipush 12, 2) := by decide +kernel
theorem dX6_shelf_40 : decode cX6_shelf 40 = .ok (.if_icmp .lt 5, 3) := by decide +kernel
theorem dX6_shelf_43 : decode cX6_shelf 43 = .ok (.iconst (-1), 1) := by decide +kernel
theorem dX6_shelf_44 : decode cX6_shelf 44 = .ok (.ireturn, 1) := by decide +kernel
theorem dX6_shelf_45 : decode cX6_shelf 45 = .ok (.aload_n 0, 1) := by decide +kernel
theorem dX6_shelf_46 : decode cX6_shelf 46 = .ok (.getfield 40, 3) := by decide +kernel
theorem dX6_shelf_49 : decode cX6_shelf 49 = .ok (.invokevirtual 62, 3) := by decide +kernel
theorem dX6_shelf_52 : decode cX6_shelf 52 = .ok (.aload_n 0, 1) := by decide +kernel
theorem dX6_shelf_53 : decode cX6_shelf 53 = .ok (.getfield 10, 3) := by decide +kernel
theorem dX6_shelf_56 : decode cX6_shelf 56 = .ok (.iload_n 1, 1) := by decide +kernel
theorem dX6_shelf_57 : decode cX6_shelf 57 = .ok (.iload_n 2, 1) := by decide +kernel
theorem dX6_shelf_58 : decode cX6_shelf 58 = .ok (.invokevirtual 65, 3) := by decide +kernel
theorem dX6_shelf_61 : decode cX6_shelf 61 = .ok (.ireturn, 1) := by decide +kernel
theorem dX6_turn_0 : decode cX6_turn 0 = .ok (.aload_n 0, 1) := by decide +kernel
theorem dX6_turn_1 : decode cX6_turn 1 = .ok (.iload_n 1, 1) := by decide +kernel
theorem dX6_turn_2 : decode cX6_turn 2 = .ok (.invokevirtual 69, 3) := by decide +kernel
theorem dX6_turn_5 : decode cX6_turn 5 = .ok (.ifCond .eq 25, 3) := by decide +kernel
theorem dX6_turn_8 : decode cX6_turn 8 = .ok (.iload_n 2, 1) := by decide +kernel
theorem dX6_turn_9 : decode cX6_turn 9 = .ok (.iconst 0, 1) := by decide +kernel
theorem dX6_turn_10 : decode cX6_turn 10 = .ok (.iconst 2, 1) := by decide +kernel
theorem dX6_turn_11 : decode cX6_turn 11 = .ok (.invokestatic 55, 3) := by decide +kernel
theorem dX6_turn_14 : decode cX6_turn 14 = .ok (.ifCond .eq 16, 3) := by decide +kernel
theorem dX6_turn_17 : decode cX6_turn 17 = .ok (.aload_n 0, 1) := by decide +kernel
theorem dX6_turn_18 : decode cX6_turn 18 = .ok (.getfield 10, 3) := by decide +kernel
theorem dX6_turn_21 : decode cX6_turn 21 = .ok (.getfield 73, 3) := by decide +kernel
theorem dX6_turn_24 : decode cX6_turn 24 = .ok (.iload_n 1, 1) := by decide +kernel
theorem dX6_turn_25 : decode cX6_turn 25 = .ok (.iaload, 1) := by decide +kernel
theorem dX6_turn_26 : decode cX6_turn 26 = .ok (.iload_n 2, 1) := by decide +kernel
theorem dX6_turn_27 : decode cX6_turn 27 = .ok (.if_icmp .ne 5, 3) := by decide +kernel
theorem dX6_turn_30 : decode cX6_turn 30 = .ok (.iconst 0, 1) := by decide +kernel
theorem dX6_turn_31 : decode cX6_turn 31 = .ok (.ireturn, 1) := by decide +kernel
theorem dX6_turn_32 : decode cX6_turn 32 = .ok (.aload_n 0, 1) := by decide +kernel
theorem dX6_turn_33 : decode cX6_turn 33 = .ok (.getfield 10, 3) := by decide +kernel
theorem dX6_turn_36 : decode cX6_turn 36 = .ok (.getfield 73, 3) := by decide +kernel
theorem dX6_turn_39 : decode cX6_turn 39 = .ok (.iload_n 1, 1) := by decide +kernel
theorem dX6_turn_40 : decode cX6_turn 40 = .ok (.iload_n 2, 1) := by decide +kernel
theorem dX6_turn_41 : decode cX6_turn 41 = .ok (.iastore, 1) := by decide +kernel
theorem dX6_turn_42 : decode cX6_turn 42 = .ok (.aload_n 0, 1) := by decide +kernel
theorem dX6_turn_43 : decode cX6_turn 43 = .ok (.getfield 40, 3) := by decide +kernel
theorem dX6_turn_46 : decode cX6_turn 46 = .ok (.invokevirtual 62, 3) := by decide +kernel
theorem dX6_turn_49 : decode cX6_turn 49 = .ok (.iconst 1, 1) := by decide +kernel
theorem dX6_turn_50 : decode cX6_turn 50 = .ok (.ireturn, 1) := by decide +kernel
theorem dX6_group_0 : decode cX6_group 0 = .ok (.iload_n 1, 1) := by decide +kernel
theorem dX6_group_1 : decode cX6_group 1 = .ok (.iconst 0, 1) := by decide +kernel
theorem dX6_group_2 : decode cX6_group 2 = .ok (.bipush 99, 2) := by decide +kernel
theorem dX6_group_4 : decode cX6_group 4 = .ok (.invokestatic 55, 3) := by decide +kernel
theorem dX6_group_7 : decode cX6_group 7 = .ok (.ifCond .eq 15, 3) := by decide +kernel
theorem dX6_group_10 : decode cX6_group 10 = .ok (.aload_n 0, 1) := by decide +kernel
theorem dX6_group_11 : decode cX6_group 11 = .ok (.getfield 19, 3) := by decide +kernel
theorem dX6_group_14 : decode cX6_group 14 = .ok (.getfield 77, 3) := by decide +kernel
theorem dX6_group_17 : decode cX6_group 17 = .ok (.bipush 8, 2) := by decide +kernel
theorem dX6_group_19 : decode cX6_group 19 = .ok (.if_icmp .lt 5, 3) := by decide +kernel
theorem dX6_group_22 : decode cX6_group 22 = .ok (.iconst (-1), 1) := by decide +kernel
theorem dX6_group_23 : decode cX6_group 23 = .ok (.ireturn, 1) := by decide +kernel
theorem dX6_group_24 : decode cX6_group 24 = .ok (.aload_n 0, 1) := by decide +kernel
theorem dX6_group_25 : decode cX6_group 25 = .ok (.getfield 40, 3) := by decide +kernel
theorem dX6_group_28 : decode cX6_group 28 = .ok (.invokevirtual 62, 3) := by decide +kernel
theorem dX6_group_31 : decode cX6_group 31 = .ok (.aload_n 0, 1) := by decide +kernel
theorem dX6_group_32 : decode cX6_group 32 = .ok (.getfield 19, 3) := by decide +kernel
theorem dX6_group_35 : decode cX6_group 35 = .ok (.iload_n 1, 1) := by decide +kernel
theorem dX6_group_36 : decode cX6_group 36 = .ok (.invokevirtual 78, 3) := by decide +kernel
theorem dX6_group_39 : decode cX6_group 39 = .ok (.ireturn, 1) := by decide +kernel
theorem dX6_grow_0 : decode cX6_grow 0 = .ok (.aload_n 0, 1) := by decide +kernel
theorem dX6_grow_1 : decode cX6_grow 1 = .ok (.iload_n 1, 1) := by decide +kernel
theorem dX6_grow_2 : decode cX6_grow 2 = .ok (.invokevirtual 81, 3) := by decide +kernel
theorem dX6_grow_5 : decode cX6_grow 5 = .ok (.ifCond .eq 26, 3) := by decide +kernel
theorem dX6_grow_8 : decode cX6_grow 8 = .ok (.iload_n 2, 1) := by decide +kernel
theorem dX6_grow_9 : decode cX6_grow 9 = .ok (.iconst 0, 1) := by decide +kernel
theorem dX6_grow_10 : decode cX6_grow 10 = .ok (.bipush 99, 2) := by decide +kernel
theorem dX6_grow_12 : decode cX6_grow 12 = .ok (.invokestatic 55, 3) := by decide +kernel
theorem dX6_grow_15 : decode cX6_grow 15 = .ok (.ifCond .eq 16, 3) := by decide +kernel
theorem dX6_grow_18 : decode cX6_grow 18 = .ok (.aload_n 0, 1) := by decide +kernel
theorem dX6_grow_19 : decode cX6_grow 19 = .ok (.getfield 19, 3) := by decide +kernel
theorem dX6_grow_22 : decode cX6_grow 22 = .ok (.getfield 84, 3) := by decide +kernel
theorem dX6_grow_25 : decode cX6_grow 25 = .ok (.iload_n 1, 1) := by decide +kernel
theorem dX6_grow_26 : decode cX6_grow 26 = .ok (.iaload, 1) := by decide +kernel
theorem dX6_grow_27 : decode cX6_grow 27 = .ok (.iload_n 2, 1) := by decide +kernel
theorem dX6_grow_28 : decode cX6_grow 28 = .ok (.if_icmp .ne 5, 3) := by decide +kernel
theorem dX6_grow_31 : decode cX6_grow 31 = .ok (.iconst 0, 1) := by decide +kernel
theorem dX6_grow_32 : decode cX6_grow 32 = .ok (.ireturn, 1) := by decide +kernel
theorem dX6_grow_33 : decode cX6_grow 33 = .ok (.aload_n 0, 1) := by decide +kernel
theorem dX6_grow_34 : decode cX6_grow 34 = .ok (.getfield 19, 3) := by decide +kernel
theorem dX6_grow_37 : decode cX6_grow 37 = .ok (.getfield 84, 3) := by decide +kernel
theorem dX6_grow_40 : decode cX6_grow 40 = .ok (.iload_n 1, 1) := by decide +kernel
theorem dX6_grow_41 : decode cX6_grow 41 = .ok (.iload_n 2, 1) := by decide +kernel
theorem dX6_grow_42 : decode cX6_grow 42 = .ok (.iastore, 1) := by decide +kernel
theorem dX6_grow_43 : decode cX6_grow 43 = .ok (.aload_n 0, 1) := by decide +kernel
theorem dX6_grow_44 : decode cX6_grow 44 = .ok (.getfield 26, 3) := by decide +kernel
theorem dX6_grow_47 : decode cX6_grow 47 = .ok (.iload_n 1, 1) := by decide +kernel
theorem dX6_grow_48 : decode cX6_grow 48 = .ok (.iload_n 2, 1) := by decide +kernel
theorem dX6_grow_49 : decode cX6_grow 49 = .ok (.invokevirtual 87, 3) := by decide +kernel
theorem dX6_grow_52 : decode cX6_grow 52 = .ok (.aload_n 0, 1) := by decide +kernel
theorem dX6_grow_53 : decode cX6_grow 53 = .ok (.getfield 40, 3) := by decide +kernel
theorem dX6_grow_56 : decode cX6_grow 56 = .ok (.invokevirtual 62, 3) := by decide +kernel
theorem dX6_grow_59 : decode cX6_grow 59 = .ok (.iconst 1, 1) := by decide +kernel
theorem dX6_grow_60 : decode cX6_grow 60 = .ok (.ireturn, 1) := by decide +kernel
theorem dX6_book_0 : decode cX6_book 0 = .ok (.aload_n 0, 1) := by decide +kernel
theorem dX6_book_1 : decode cX6_book 1 = .ok (.iload_n 1, 1) := by decide +kernel
theorem dX6_book_2 : decode cX6_book 2 = .ok (.invokevirtual 81, 3) := by decide +kernel
theorem dX6_book_5 : decode cX6_book 5 = .ok (.ifCond .eq 25, 3) := by decide +kernel
theorem dX6_book_8 : decode cX6_book 8 = .ok (.iload_n 2, 1) := by decide +kernel
theorem dX6_book_9 : decode cX6_book 9 = .ok (.iconst 1, 1) := by decide +kernel
theorem dX6_book_10 : decode cX6_book 10 = .ok (.bipush 40, 2) := by decide +kernel
theorem dX6_book_12 : decode cX6_book 12 = .ok (.invokestatic 55, 3) := by decide +kernel
theorem dX6_book_15 : decode cX6_book 15 = .ok (.ifCond .eq 15, 3) := by decide +kernel
theorem dX6_book_18 : decode cX6_book 18 = .ok (.aload_n 0, 1) := by decide +kernel
theorem dX6_book_19 : decode cX6_book 19 = .ok (.getfield 26, 3) := by decide +kernel
theorem dX6_book_22 : decode cX6_book 22 = .ok (.getfield 91, 3) := by decide +kernel
theorem dX6_book_25 : decode cX6_book 25 = .ok (.bipush 60, 2) := by decide +kernel
theorem dX6_book_27 : decode cX6_book 27 = .ok (.if_icmp .lt 5, 3) := by decide +kernel
theorem dX6_book_30 : decode cX6_book 30 = .ok (.iconst (-1), 1) := by decide +kernel
theorem dX6_book_31 : decode cX6_book 31 = .ok (.ireturn, 1) := by decide +kernel
theorem dX6_book_32 : decode cX6_book 32 = .ok (.aload_n 0, 1) := by decide +kernel
theorem dX6_book_33 : decode cX6_book 33 = .ok (.getfield 26, 3) := by decide +kernel
theorem dX6_book_36 : decode cX6_book 36 = .ok (.iload_n 1, 1) := by decide +kernel
theorem dX6_book_37 : decode cX6_book 37 = .ok (.invokevirtual 92, 3) := by decide +kernel
theorem dX6_book_40 : decode cX6_book 40 = .ok (.istore_n 3, 1) := by decide +kernel
theorem dX6_book_41 : decode cX6_book 41 = .ok (.aload_n 0, 1) := by decide +kernel
theorem dX6_book_42 : decode cX6_book 42 = .ok (.getfield 33, 3) := by decide +kernel
theorem dX6_book_45 : decode cX6_book 45 = .ok (.aload_n 0, 1) := by decide +kernel
theorem dX6_book_46 : decode cX6_book 46 = .ok (.getfield 10, 3) := by decide +kernel
theorem dX6_book_49 : decode cX6_book 49 = .ok (.aload_n 0, 1) := by decide +kernel
theorem dX6_book_50 : decode cX6_book 50 = .ok (.getfield 26, 3) := by decide +kernel
theorem dX6_book_53 : decode cX6_book 53 = .ok (.iconst 0, 1) := by decide +kernel
theorem dX6_book_54 : decode cX6_book 54 = .ok (.invokevirtual 95, 3) := by decide +kernel
theorem dX6_book_57 : decode cX6_book 57 = .ok (.aload_n 0, 1) := by decide +kernel
theorem dX6_book_58 : decode cX6_book 58 = .ok (.getfield 33, 3) := by decide +kernel
theorem dX6_book_61 : decode cX6_book 61 = .ok (.iload_n 3, 1) := by decide +kernel
theorem dX6_book_62 : decode cX6_book 62 = .ok (.iload_n 2, 1) := by decide +kernel
theorem dX6_book_63 : decode cX6_book 63 = .ok (.invokevirtual 99, 3) := by decide +kernel
theorem dX6_book_66 : decode cX6_book 66 = .ok (.aload_n 0, 1) := by decide +kernel
theorem dX6_book_67 : decode cX6_book 67 = .ok (.getfield 33, 3) := by decide +kernel
theorem dX6_book_70 : decode cX6_book 70 = .ok (.invokevirtual 102, 3) := by decide +kernel
theorem dX6_book_73 : decode cX6_book 73 = .ok (.ifCond .ne 5, 3) := by decide +kernel
theorem dX6_book_76 : decode cX6_book 76 = .ok (.iconst (-1), 1) := by decide +kernel
theorem dX6_book_77 : decode cX6_book 77 = .ok (.ireturn, 1) := by decide +kernel
theorem dX6_book_78 : decode cX6_book 78 = .ok (.aload_n 0, 1) := by decide +kernel
theorem dX6_book_79 : decode cX6_book 79 = .ok (.getfield 33, 3) := by decide +kernel
theorem dX6_book_82 : decode cX6_book 82 = .ok (.getfield 106, 3) := by decide +kernel
theorem dX6_book_85 : decode cX6_book 85 = .ok (.iload_n 3, 1) := by decide +kernel
theorem dX6_book_86 : decode cX6_book 86 = .ok (.iaload, 1) := by decide +kernel
theorem dX6_book_87 : decode cX6_book 87 = .ok (.istore 4, 2) := by decide +kernel
theorem dX6_book_89 : decode cX6_book 89 = .ok (.aload_n 0, 1) := by decide +kernel
theorem dX6_book_90 : decode cX6_book 90 = .ok (.getfield 33, 3) := by decide +kernel
theorem dX6_book_93 : decode cX6_book 93 = .ok (.iload_n 3, 1) := by decide +kernel
theorem dX6_book_94 : decode cX6_book 94 = .ok (.invokevirtual 109, 3) := by decide +kernel
theorem dX6_book_97 : decode cX6_book 97 = .ok (.aload_n 0, 1) := by decide +kernel
theorem dX6_book_98 : decode cX6_book 98 = .ok (.invokevirtual 113, 3) := by decide +kernel
theorem dX6_book_101 : decode cX6_book 101 = .ok (.aload_n 0, 1) := by decide +kernel
theorem dX6_book_102 : decode cX6_book 102 = .ok (.getfield 26, 3) := by decide +kernel
theorem dX6_book_105 : decode cX6_book 105 = .ok (.iload_n 3, 1) := by decide +kernel
theorem dX6_book_106 : decode cX6_book 106 = .ok (.iload_n 1, 1) := by decide +kernel
theorem dX6_book_107 : decode cX6_book 107 = .ok (.iload_n 2, 1) := by decide +kernel
theorem dX6_book_108 : decode cX6_book 108 = .ok (.iload 4, 2) := by decide +kernel
theorem dX6_book_110 : decode cX6_book 110 = .ok (.invokevirtual 116, 3) := by decide +kernel
theorem dX6_book_113 : decode cX6_book 113 = .ok (.aload_n 0, 1) := by decide +kernel
theorem dX6_book_114 : decode cX6_book 114 = .ok (.getfield 26, 3) := by decide +kernel
theorem dX6_book_117 : decode cX6_book 117 = .ok (.iload_n 1, 1) := by decide +kernel
theorem dX6_book_118 : decode cX6_book 118 = .ok (.aload_n 0, 1) := by decide +kernel
theorem dX6_book_119 : decode cX6_book 119 = .ok (.getfield 19, 3) := by decide +kernel
theorem dX6_book_122 : decode cX6_book 122 = .ok (.getfield 84, 3) := by decide +kernel
theorem dX6_book_125 : decode cX6_book 125 = .ok (.iload_n 1, 1) := by decide +kernel
theorem dX6_book_126 : decode cX6_book 126 = .ok (.iaload, 1) := by decide +kernel
theorem dX6_book_127 : decode cX6_book 127 = .ok (.invokevirtual 87, 3) := by decide +kernel
theorem dX6_book_130 : decode cX6_book 130 = .ok (.aload_n 0, 1) := by decide +kernel
theorem dX6_book_131 : decode cX6_book 131 = .ok (.getfield 47, 3) := by decide +kernel
theorem dX6_book_134 : decode cX6_book 134 = .ok (.iconst 0, 1) := by decide +kernel
theorem dX6_book_135 : decode cX6_book 135 = .ok (.iload_n 3, 1) := by decide +kernel
theorem dX6_book_136 : decode cX6_book 136 = .ok (.iload_n 2, 1) := by decide +kernel
theorem dX6_book_137 : decode cX6_book 137 = .ok (.iconst (-1), 1) := by decide +kernel
theorem dX6_book_138 : decode cX6_book 138 = .ok (.iload 4, 2) := by decide +kernel
theorem dX6_book_140 : decode cX6_book 140 = .ok (.invokevirtual 119, 3) := by decide +kernel
theorem dX6_book_143 : decode cX6_book 143 = .ok (.iload_n 3, 1) := by decide +kernel
theorem dX6_book_144 : decode cX6_book 144 = .ok (.ireturn, 1) := by decide +kernel
theorem dX6_gone_0 : decode cX6_gone 0 = .ok (.aload_n 0, 1) := by decide +kernel
theorem dX6_gone_1 : decode cX6_gone 1 = .ok (.iload_n 1, 1) := by decide +kernel
theorem dX6_gone_2 : decode cX6_gone 2 = .ok (.invokevirtual 123, 3) := by decide +kernel
theorem dX6_gone_5 : decode cX6_gone 5 = .ok (.ifCond .ne 5, 3) := by decide +kernel
theorem dX6_gone_8 : decode cX6_gone 8 = .ok (.iconst (-1), 1) := by decide +kernel
theorem dX6_gone_9 : decode cX6_gone 9 = .ok (.ireturn, 1) := by decide +kernel
theorem dX6_gone_10 : decode cX6_gone 10 = .ok (.aload_n 0, 1) := by decide +kernel
theorem dX6_gone_11 : decode cX6_gone 11 = .ok (.getfield 26, 3) := by decide +kernel
theorem dX6_gone_14 : decode cX6_gone 14 = .ok (.getfield 126, 3) := by decide +kernel
theorem dX6_gone_17 : decode cX6_gone 17 = .ok (.iload_n 1, 1) := by decide +kernel
theorem dX6_gone_18 : decode cX6_gone 18 = .ok (.iaload, 1) := by decide +kernel
theorem dX6_gone_19 : decode cX6_gone 19 = .ok (.istore_n 2, 1) := by decide +kernel
theorem dX6_gone_20 : decode cX6_gone 20 = .ok (.aload_n 0, 1) := by decide +kernel
theorem dX6_gone_21 : decode cX6_gone 21 = .ok (.getfield 26, 3) := by decide +kernel
theorem dX6_gone_24 : decode cX6_gone 24 = .ok (.getfield 129, 3) := by decide +kernel
theorem dX6_gone_27 : decode cX6_gone 27 = .ok (.iload_n 1, 1) := by decide +kernel
theorem dX6_gone_28 : decode cX6_gone 28 = .ok (.iaload, 1) := by decide +kernel
theorem dX6_gone_29 : decode cX6_gone 29 = .ok (.istore_n 3, 1) := by decide +kernel
theorem dX6_gone_30 : decode cX6_gone 30 = .ok (.aload_n 0, 1) := by decide +kernel
theorem dX6_gone_31 : decode cX6_gone 31 = .ok (.getfield 47, 3) := by decide +kernel
theorem dX6_gone_34 : decode cX6_gone 34 = .ok (.iconst 3, 1) := by decide +kernel
theorem dX6_gone_35 : decode cX6_gone 35 = .ok (.iload_n 1, 1) := by decide +kernel
theorem dX6_gone_36 : decode cX6_gone 36 = .ok (.aload_n 0, 1) := by decide +kernel
theorem dX6_gone_37 : decode cX6_gone 37 = .ok (.getfield 26, 3) := by decide +kernel
theorem dX6_gone_40 : decode cX6_gone 40 = .ok (.getfield 132, 3) := by decide +kernel
theorem dX6_gone_43 : decode cX6_gone 43 = .ok (.iload_n 1, 1) := by decide +kernel
theorem dX6_gone_44 : decode cX6_gone 44 = .ok (.iaload, 1) := by decide +kernel
theorem dX6_gone_45 : decode cX6_gone 45 = .ok (.iload_n 2, 1) := by decide +kernel
theorem dX6_gone_46 : decode cX6_gone 46 = .ok (.iconst (-1), 1) := by decide +kernel
theorem dX6_gone_47 : decode cX6_gone 47 = .ok (.invokevirtual 119, 3) := by decide +kernel
theorem dX6_gone_50 : decode cX6_gone 50 = .ok (.aload_n 0, 1) := by decide +kernel
theorem dX6_gone_51 : decode cX6_gone 51 = .ok (.getfield 26, 3) := by decide +kernel
theorem dX6_gone_54 : decode cX6_gone 54 = .ok (.iload_n 1, 1) := by decide +kernel
theorem dX6_gone_55 : decode cX6_gone 55 = .ok (.invokevirtual 135, 3) := by decide +kernel
theorem dX6_gone_58 : decode cX6_gone 58 = .ok (.aload_n 0, 1) := by decide +kernel
theorem dX6_gone_59 : decode cX6_gone 59 = .ok (.iload_n 3, 1) := by decide +kernel
theorem dX6_gone_60 : decode cX6_gone 60 = .ok (.invokevirtual 81, 3) := by decide +kernel
theorem dX6_gone_63 : decode cX6_gone 63 = .ok (.ifCond .eq 20, 3) := by decide +kernel
theorem dX6_gone_66 : decode cX6_gone 66 = .ok (.aload_n 0, 1) := by decide +kernel
theorem dX6_gone_67 : decode cX6_gone 67 = .ok (.getfield 26, 3) := by decide +kernel
theorem dX6_gone_70 : decode cX6_gone 70 = .ok (.iload_n 3, 1) := by decide +kernel
theorem dX6_gone_71 : decode cX6_gone 71 = .ok (.aload_n 0, 1) := by decide +kernel
theorem dX6_gone_72 : decode cX6_gone 72 = .ok (.getfield 19, 3) := by decide +kernel
theorem dX6_gone_75 : decode cX6_gone 75 = .ok (.getfield 84, 3) := by decide +kernel
theorem dX6_gone_78 : decode cX6_gone 78 = .ok (.iload_n 3, 1) := by decide +kernel
theorem dX6_gone_79 : decode cX6_gone 79 = .ok (.iaload, 1) := by decide +kernel
theorem dX6_gone_80 : decode cX6_gone 80 = .ok (.invokevirtual 87, 3) := by decide +kernel
theorem dX6_gone_83 : decode cX6_gone 83 = .ok (.aload_n 0, 1) := by decide +kernel
theorem dX6_gone_84 : decode cX6_gone 84 = .ok (.getfield 40, 3) := by decide +kernel
theorem dX6_gone_87 : decode cX6_gone 87 = .ok (.invokevirtual 62, 3) := by decide +kernel
theorem dX6_gone_90 : decode cX6_gone 90 = .ok (.iload_n 2, 1) := by decide +kernel
theorem dX6_gone_91 : decode cX6_gone 91 = .ok (.ireturn, 1) := by decide +kernel
theorem dX6_limit_0 : decode cX6_limit 0 = .ok (.iload_n 1, 1) := by decide +kernel
theorem dX6_limit_1 : decode cX6_limit 1 = .ok (.bipush 40, 2) := by decide +kernel
theorem dX6_limit_3 : decode cX6_limit 3 = .ok (.sipush 400, 3) := by decide +kernel
theorem dX6_limit_6 : decode cX6_limit 6 = .ok (.invokestatic 55, 3) := by decide +kernel
theorem dX6_limit_9 : decode cX6_limit 9 = .ok (.ifCond .eq 11, 3) := by decide +kernel
theorem dX6_limit_12 : decode cX6_limit 12 = .ok (.iload_n 1, 1) := by decide +kernel
theorem dX6_limit_13 : decode cX6_limit 13 = .ok (.aload_n 0, 1) := by decide +kernel
theorem dX6_limit_14 : decode cX6_limit 14 = .ok (.getfield 51, 3) := by decide +kernel
theorem dX6_limit_17 : decode cX6_limit 17 = .ok (.if_icmp .ne 5, 3) := by decide +kernel
theorem dX6_limit_20 : decode cX6_limit 20 = .ok (.iconst 0, 1) := by decide +kernel
theorem dX6_limit_21 : decode cX6_limit 21 = .ok (.ireturn, 1) := by decide +kernel
theorem dX6_limit_22 : decode cX6_limit 22 = .ok (.aload_n 0, 1) := by decide +kernel
theorem dX6_limit_23 : decode cX6_limit 23 = .ok (.iload_n 1, 1) := by decide +kernel
theorem dX6_limit_24 : decode cX6_limit 24 = .ok (.putfield 51, 3) := by decide +kernel
theorem dX6_limit_27 : decode cX6_limit 27 = .ok (.iconst 1, 1) := by decide +kernel
theorem dX6_limit_28 : decode cX6_limit 28 = .ok (.ireturn, 1) := by decide +kernel
theorem dX6_count_0 : decode cX6_count 0 = .ok (.iload_n 1, 1) := by decide +kernel
theorem dX6_count_1 : decode cX6_count 1 = .ok (.tableswitch 158 0 10 #[59, 67, 75, 83, 91, 99, 104, 112, 120, 142, 150], 59) := by decide +kernel
theorem dX6_count_60 : decode cX6_count 60 = .ok (.aload_n 0, 1) := by decide +kernel
theorem dX6_count_61 : decode cX6_count 61 = .ok (.getfield 10, 3) := by decide +kernel
theorem dX6_count_64 : decode cX6_count 64 = .ok (.getfield 59, 3) := by decide +kernel
theorem dX6_count_67 : decode cX6_count 67 = .ok (.ireturn, 1) := by decide +kernel
theorem dX6_count_68 : decode cX6_count 68 = .ok (.aload_n 0, 1) := by decide +kernel
theorem dX6_count_69 : decode cX6_count 69 = .ok (.getfield 19, 3) := by decide +kernel
theorem dX6_count_72 : decode cX6_count 72 = .ok (.getfield 77, 3) := by decide +kernel
theorem dX6_count_75 : decode cX6_count 75 = .ok (.ireturn, 1) := by decide +kernel
theorem dX6_count_76 : decode cX6_count 76 = .ok (.aload_n 0, 1) := by decide +kernel
theorem dX6_count_77 : decode cX6_count 77 = .ok (.getfield 26, 3) := by decide +kernel
theorem dX6_count_80 : decode cX6_count 80 = .ok (.getfield 91, 3) := by decide +kernel
theorem dX6_count_83 : decode cX6_count 83 = .ok (.ireturn, 1) := by decide +kernel
theorem dX6_count_84 : decode cX6_count 84 = .ok (.aload_n 0, 1) := by decide +kernel
theorem dX6_count_85 : decode cX6_count 85 = .ok (.getfield 26, 3) := by decide +kernel
theorem dX6_count_88 : decode cX6_count 88 = .ok (.invokevirtual 138, 3) := by decide +kernel
theorem dX6_count_91 : decode cX6_count 91 = .ok (.ireturn, 1) := by decide +kernel
theorem dX6_count_92 : decode cX6_count 92 = .ok (.aload_n 0, 1) := by decide +kernel
theorem dX6_count_93 : decode cX6_count 93 = .ok (.getfield 10, 3) := by decide +kernel
theorem dX6_count_96 : decode cX6_count 96 = .ok (.invokevirtual 142, 3) := by decide +kernel
theorem dX6_count_99 : decode cX6_count 99 = .ok (.ireturn, 1) := by decide +kernel
theorem dX6_count_100 : decode cX6_count 100 = .ok (.aload_n 0, 1) := by decide +kernel
theorem dX6_count_101 : decode cX6_count 101 = .ok (.getfield 51, 3) := by decide +kernel
theorem dX6_count_104 : decode cX6_count 104 = .ok (.ireturn, 1) := by decide +kernel
theorem dX6_count_105 : decode cX6_count 105 = .ok (.aload_n 0, 1) := by decide +kernel
theorem dX6_count_106 : decode cX6_count 106 = .ok (.getfield 40, 3) := by decide +kernel
theorem dX6_count_109 : decode cX6_count 109 = .ok (.getfield 145, 3) := by decide +kernel
theorem dX6_count_112 : decode cX6_count 112 = .ok (.ireturn, 1) := by decide +kernel
theorem dX6_count_113 : decode cX6_count 113 = .ok (.aload_n 0, 1) := by decide +kernel
theorem dX6_count_114 : decode cX6_count 114 = .ok (.getfield 40, 3) := by decide +kernel
theorem dX6_count_117 : decode cX6_count 117 = .ok (.getfield 148, 3) := by decide +kernel
theorem dX6_count_120 : decode cX6_count 120 = .ok (.ireturn, 1) := by decide +kernel
theorem dX6_count_121 : decode cX6_count 121 = .ok (.aload_n 0, 1) := by decide +kernel
theorem dX6_count_122 : decode cX6_count 122 = .ok (.getfield 40, 3) := by decide +kernel
theorem dX6_count_125 : decode cX6_count 125 = .ok (.invokevirtual 151, 3) := by decide +kernel
theorem dX6_count_128 : decode cX6_count 128 = .ok (.ifCond .eq 13, 3) := by decide +kernel
theorem dX6_count_131 : decode cX6_count 131 = .ok (.aload_n 0, 1) := by decide +kernel
theorem dX6_count_132 : decode cX6_count 132 = .ok (.getfield 40, 3) := by decide +kernel
theorem dX6_count_135 : decode cX6_count 135 = .ok (.getfield 154, 3) := by decide +kernel
theorem dX6_count_138 : decode cX6_count 138 = .ok (.goto 4, 3) := by decide +kernel
theorem dX6_count_141 : decode cX6_count 141 = .ok (.iconst (-1), 1) := by decide +kernel
theorem dX6_count_142 : decode cX6_count 142 = .ok (.ireturn, 1) := by decide +kernel
theorem dX6_count_143 : decode cX6_count 143 = .ok (.aload_n 0, 1) := by decide +kernel
theorem dX6_count_144 : decode cX6_count 144 = .ok (.getfield 47, 3) := by decide +kernel
theorem dX6_count_147 : decode cX6_count 147 = .ok (.getfield 157, 3) := by decide +kernel
theorem dX6_count_150 : decode cX6_count 150 = .ok (.ireturn, 1) := by decide +kernel
theorem dX6_count_151 : decode cX6_count 151 = .ok (.aload_n 0, 1) := by decide +kernel
theorem dX6_count_152 : decode cX6_count 152 = .ok (.getfield 26, 3) := by decide +kernel
theorem dX6_count_155 : decode cX6_count 155 = .ok (.getfield 158, 3) := by decide +kernel
theorem dX6_count_158 : decode cX6_count 158 = .ok (.ireturn, 1) := by decide +kernel
theorem dX6_count_159 : decode cX6_count 159 = .ok (.iconst (-1), 1) := by decide +kernel
theorem dX6_count_160 : decode cX6_count 160 = .ok (.ireturn, 1) := by decide +kernel
theorem dX6_on_0 : decode cX6_on 0 = .ok (.aload_n 0, 1) := by decide +kernel
theorem dX6_on_1 : decode cX6_on 1 = .ok (.iload_n 1, 1) := by decide +kernel
theorem dX6_on_2 : decode cX6_on 2 = .ok (.invokevirtual 69, 3) := by decide +kernel
theorem dX6_on_5 : decode cX6_on 5 = .ok (.ifCond .ne 13, 3) := by decide +kernel
theorem dX6_on_8 : decode cX6_on 8 = .ok (.new 161, 3) := by decide +kernel
theorem dX6_on_11 : decode cX6_on 11 = .ok (.dup, 1) := by decide +kernel
theorem dX6_on_12 : decode cX6_on 12 = .ok (.ldc 163, 2) := by decide +kernel
theorem dX6_on_14 : decode cX6_on 14 = .ok (.invokespecial 165, 3) := by decide +kernel
theorem dX6_on_17 : decode cX6_on 17 = .ok (.athrow, 1) := by decide +kernel
theorem dX6_on_18 : decode cX6_on 18 = .ok (.iload_n 2, 1) := by decide +kernel
theorem dX6_on_19 : decode cX6_on 19 = .ok (.tableswitch 113 0 7 #[45, 55, 65, 74, 80, 89, 95, 104], 45) := by decide +kernel
theorem dX6_on_64 : decode cX6_on 64 = .ok (.aload_n 0, 1) := by decide +kernel
theorem dX6_on_65 : decode cX6_on 65 = .ok (.getfield 10, 3) := by decide +kernel
theorem dX6_on_68 : decode cX6_on 68 = .ok (.getfield 168, 3) := by decide +kernel
theorem dX6_on_71 : decode cX6_on 71 = .ok (.iload_n 1, 1) := by decide +kernel
theorem dX6_on_72 : decode cX6_on 72 = .ok (.iaload, 1) := by decide +kernel
theorem dX6_on_73 : decode cX6_on 73 = .ok (.ireturn, 1) := by decide +kernel
theorem dX6_on_74 : decode cX6_on 74 = .ok (.aload_n 0, 1) := by decide +kernel
theorem dX6_on_75 : decode cX6_on 75 = .ok (.getfield 10, 3) := by decide +kernel
theorem dX6_on_78 : decode cX6_on 78 = .ok (.getfield 73, 3) := by decide +kernel
theorem dX6_on_81 : decode cX6_on 81 = .ok (.iload_n 1, 1) := by decide +kernel
theorem dX6_on_82 : decode cX6_on 82 = .ok (.iaload, 1) := by decide +kernel
theorem dX6_on_83 : decode cX6_on 83 = .ok (.ireturn, 1) := by decide +kernel
theorem dX6_on_84 : decode cX6_on 84 = .ok (.aload_n 0, 1) := by decide +kernel
theorem dX6_on_85 : decode cX6_on 85 = .ok (.getfield 26, 3) := by decide +kernel
theorem dX6_on_88 : decode cX6_on 88 = .ok (.iload_n 1, 1) := by decide +kernel
theorem dX6_on_89 : decode cX6_on 89 = .ok (.invokevirtual 171, 3) := by decide +kernel
theorem dX6_on_92 : decode cX6_on 92 = .ok (.ireturn, 1) := by decide +kernel
theorem dX6_on_93 : decode cX6_on 93 = .ok (.aload_n 0, 1) := by decide +kernel
theorem dX6_on_94 : decode cX6_on 94 = .ok (.iload_n 1, 1) := by decide +kernel
theorem dX6_on_95 : decode cX6_on 95 = .ok (.invokevirtual 174, 3) := by decide +kernel
theorem dX6_on_98 : decode cX6_on 98 = .ok (.ireturn, 1) := by decide +kernel
theorem dX6_on_99 : decode cX6_on 99 = .ok (.aload_n 0, 1) := by decide +kernel
theorem dX6_on_100 : decode cX6_on 100 = .ok (.getfield 26, 3) := by decide +kernel
theorem dX6_on_103 : decode cX6_on 103 = .ok (.iload_n 1, 1) := by decide +kernel
theorem dX6_on_104 : decode cX6_on 104 = .ok (.invokevirtual 177, 3) := by decide +kernel
theorem dX6_on_107 : decode cX6_on 107 = .ok (.ireturn, 1) := by decide +kernel
theorem dX6_on_108 : decode cX6_on 108 = .ok (.aload_n 0, 1) := by decide +kernel
theorem dX6_on_109 : decode cX6_on 109 = .ok (.iload_n 1, 1) := by decide +kernel
theorem dX6_on_110 : decode cX6_on 110 = .ok (.invokevirtual 180, 3) := by decide +kernel
theorem dX6_on_113 : decode cX6_on 113 = .ok (.ireturn, 1) := by decide +kernel
theorem dX6_on_114 : decode cX6_on 114 = .ok (.aload_n 0, 1) := by decide +kernel
theorem dX6_on_115 : decode cX6_on 115 = .ok (.getfield 26, 3) := by decide +kernel
theorem dX6_on_118 : decode cX6_on 118 = .ok (.iload_n 1, 1) := by decide +kernel
theorem dX6_on_119 : decode cX6_on 119 = .ok (.invokevirtual 183, 3) := by decide +kernel
theorem dX6_on_122 : decode cX6_on 122 = .ok (.ireturn, 1) := by decide +kernel
theorem dX6_on_123 : decode cX6_on 123 = .ok (.aload_n 0, 1) := by decide +kernel
theorem dX6_on_124 : decode cX6_on 124 = .ok (.getfield 26, 3) := by decide +kernel
theorem dX6_on_127 : decode cX6_on 127 = .ok (.iload_n 1, 1) := by decide +kernel
theorem dX6_on_128 : decode cX6_on 128 = .ok (.invokevirtual 186, 3) := by decide +kernel
theorem dX6_on_131 : decode cX6_on 131 = .ok (.ireturn, 1) := by decide +kernel
theorem dX6_on_132 : decode cX6_on 132 = .ok (.new 161, 3) := by decide +kernel
theorem dX6_on_135 : decode cX6_on 135 = .ok (.dup, 1) := by decide +kernel
theorem dX6_on_136 : decode cX6_on 136 = .ok (.ldc 189, 2) := by decide +kernel
theorem dX6_on_138 : decode cX6_on 138 = .ok (.invokespecial 165, 3) := by decide +kernel
theorem dX6_on_141 : decode cX6_on 141 = .ok (.athrow, 1) := by decide +kernel
theorem dX6_in_0 : decode cX6_in 0 = .ok (.aload_n 0, 1) := by decide +kernel
theorem dX6_in_1 : decode cX6_in 1 = .ok (.iload_n 1, 1) := by decide +kernel
theorem dX6_in_2 : decode cX6_in 2 = .ok (.invokevirtual 81, 3) := by decide +kernel
theorem dX6_in_5 : decode cX6_in 5 = .ok (.ifCond .ne 13, 3) := by decide +kernel
theorem dX6_in_8 : decode cX6_in 8 = .ok (.new 161, 3) := by decide +kernel
theorem dX6_in_11 : decode cX6_in 11 = .ok (.dup, 1) := by decide +kernel
theorem dX6_in_12 : decode cX6_in 12 = .ok (.ldc 191, 2) := by decide +kernel
theorem dX6_in_14 : decode cX6_in 14 = .ok (.invokespecial 165, 3) := by decide +kernel
theorem dX6_in_17 : decode cX6_in 17 = .ok (.athrow, 1) := by decide +kernel
theorem dX6_in_18 : decode cX6_in 18 = .ok (.iload_n 2, 1) := by decide +kernel
theorem dX6_in_19 : decode cX6_in 19 = .ok (.tableswitch 79 0 4 #[33, 43, 52, 61, 70], 33) := by decide +kernel
theorem dX6_in_52 : decode cX6_in 52 = .ok (.aload_n 0, 1) := by decide +kernel
theorem dX6_in_53 : decode cX6_in 53 = .ok (.getfield 19, 3) := by decide +kernel
theorem dX6_in_56 : decode cX6_in 56 = .ok (.getfield 84, 3) := by decide +kernel
theorem dX6_in_59 : decode cX6_in 59 = .ok (.iload_n 1, 1) := by decide +kernel
theorem dX6_in_60 : decode cX6_in 60 = .ok (.iaload, 1) := by decide +kernel
theorem dX6_in_61 : decode cX6_in 61 = .ok (.ireturn, 1) := by decide +kernel
theorem dX6_in_62 : decode cX6_in 62 = .ok (.aload_n 0, 1) := by decide +kernel
theorem dX6_in_63 : decode cX6_in 63 = .ok (.getfield 26, 3) := by decide +kernel
theorem dX6_in_66 : decode cX6_in 66 = .ok (.iload_n 1, 1) := by decide +kernel
theorem dX6_in_67 : decode cX6_in 67 = .ok (.invokevirtual 193, 3) := by decide +kernel
theorem dX6_in_70 : decode cX6_in 70 = .ok (.ireturn, 1) := by decide +kernel
theorem dX6_in_71 : decode cX6_in 71 = .ok (.aload_n 0, 1) := by decide +kernel
theorem dX6_in_72 : decode cX6_in 72 = .ok (.getfield 26, 3) := by decide +kernel
theorem dX6_in_75 : decode cX6_in 75 = .ok (.iload_n 1, 1) := by decide +kernel
theorem dX6_in_76 : decode cX6_in 76 = .ok (.invokevirtual 196, 3) := by decide +kernel
theorem dX6_in_79 : decode cX6_in 79 = .ok (.ireturn, 1) := by decide +kernel
theorem dX6_in_80 : decode cX6_in 80 = .ok (.aload_n 0, 1) := by decide +kernel
theorem dX6_in_81 : decode cX6_in 81 = .ok (.getfield 26, 3) := by decide +kernel
theorem dX6_in_84 : decode cX6_in 84 = .ok (.iload_n 1, 1) := by decide +kernel
theorem dX6_in_85 : decode cX6_in 85 = .ok (.invokevirtual 199, 3) := by decide +kernel
theorem dX6_in_88 : decode cX6_in 88 = .ok (.ireturn, 1) := by decide +kernel
theorem dX6_in_89 : decode cX6_in 89 = .ok (.aload_n 0, 1) := by decide +kernel
theorem dX6_in_90 : decode cX6_in 90 = .ok (.getfield 26, 3) := by decide +kernel
theorem dX6_in_93 : decode cX6_in 93 = .ok (.iload_n 1, 1) := by decide +kernel
theorem dX6_in_94 : decode cX6_in 94 = .ok (.invokevirtual 202, 3) := by decide +kernel
theorem dX6_in_97 : decode cX6_in 97 = .ok (.ireturn, 1) := by decide +kernel
theorem dX6_in_98 : decode cX6_in 98 = .ok (.new 161, 3) := by decide +kernel
theorem dX6_in_101 : decode cX6_in 101 = .ok (.dup, 1) := by decide +kernel
theorem dX6_in_102 : decode cX6_in 102 = .ok (.ldc 189, 2) := by decide +kernel
theorem dX6_in_104 : decode cX6_in 104 = .ok (.invokespecial 165, 3) := by decide +kernel
theorem dX6_in_107 : decode cX6_in 107 = .ok (.athrow, 1) := by decide +kernel
theorem dX6_of_0 : decode cX6_of 0 = .ok (.aload_n 0, 1) := by decide +kernel
theorem dX6_of_1 : decode cX6_of 1 = .ok (.iload_n 1, 1) := by decide +kernel
theorem dX6_of_2 : decode cX6_of 2 = .ok (.invokevirtual 123, 3) := by decide +kernel
theorem dX6_of_5 : decode cX6_of 5 = .ok (.ifCond .ne 13, 3) := by decide +kernel
theorem dX6_of_8 : decode cX6_of 8 = .ok (.new 161, 3) := by decide +kernel
theorem dX6_of_11 : decode cX6_of 11 = .ok (.dup, 1) := by decide +kernel
theorem dX6_of_12 : decode cX6_of 12 = .ok (.ldc 205, 2) := by decide +kernel
theorem dX6_of_14 : decode cX6_of 14 = .ok (.invokespecial 165, 3) := by decide +kernel
theorem dX6_of_17 : decode cX6_of 17 = .ok (.athrow, 1) := by decide +kernel
theorem dX6_of_18 : decode cX6_of 18 = .ok (.iload_n 2, 1) := by decide +kernel
theorem dX6_of_19 : decode cX6_of 19 = .ok (.tableswitch 124 0 6 #[41, 51, 61, 71, 81, 90, 100], 41) := by decide +kernel
theorem dX6_of_60 : decode cX6_of 60 = .ok (.aload_n 0, 1) := by decide +kernel
theorem dX6_of_61 : decode cX6_of 61 = .ok (.getfield 26, 3) := by decide +kernel
theorem dX6_of_64 : decode cX6_of 64 = .ok (.getfield 129, 3) := by decide +kernel
theorem dX6_of_67 : decode cX6_of 67 = .ok (.iload_n 1, 1) := by decide +kernel
theorem dX6_of_68 : decode cX6_of 68 = .ok (.iaload, 1) := by decide +kernel
theorem dX6_of_69 : decode cX6_of 69 = .ok (.ireturn, 1) := by decide +kernel
theorem dX6_of_70 : decode cX6_of 70 = .ok (.aload_n 0, 1) := by decide +kernel
theorem dX6_of_71 : decode cX6_of 71 = .ok (.getfield 26, 3) := by decide +kernel
theorem dX6_of_74 : decode cX6_of 74 = .ok (.getfield 132, 3) := by decide +kernel
theorem dX6_of_77 : decode cX6_of 77 = .ok (.iload_n 1, 1) := by decide +kernel
theorem dX6_of_78 : decode cX6_of 78 = .ok (.iaload, 1) := by decide +kernel
theorem dX6_of_79 : decode cX6_of 79 = .ok (.ireturn, 1) := by decide +kernel
theorem dX6_of_80 : decode cX6_of 80 = .ok (.aload_n 0, 1) := by decide +kernel
theorem dX6_of_81 : decode cX6_of 81 = .ok (.getfield 26, 3) := by decide +kernel
theorem dX6_of_84 : decode cX6_of 84 = .ok (.getfield 207, 3) := by decide +kernel
theorem dX6_of_87 : decode cX6_of 87 = .ok (.iload_n 1, 1) := by decide +kernel
theorem dX6_of_88 : decode cX6_of 88 = .ok (.iaload, 1) := by decide +kernel
theorem dX6_of_89 : decode cX6_of 89 = .ok (.ireturn, 1) := by decide +kernel
theorem dX6_of_90 : decode cX6_of 90 = .ok (.aload_n 0, 1) := by decide +kernel
theorem dX6_of_91 : decode cX6_of 91 = .ok (.getfield 26, 3) := by decide +kernel
theorem dX6_of_94 : decode cX6_of 94 = .ok (.getfield 126, 3) := by decide +kernel
theorem dX6_of_97 : decode cX6_of 97 = .ok (.iload_n 1, 1) := by decide +kernel
theorem dX6_of_98 : decode cX6_of 98 = .ok (.iaload, 1) := by decide +kernel
theorem dX6_of_99 : decode cX6_of 99 = .ok (.ireturn, 1) := by decide +kernel
theorem dX6_of_100 : decode cX6_of 100 = .ok (.aload_n 0, 1) := by decide +kernel
theorem dX6_of_101 : decode cX6_of 101 = .ok (.getfield 26, 3) := by decide +kernel
theorem dX6_of_104 : decode cX6_of 104 = .ok (.iload_n 1, 1) := by decide +kernel
theorem dX6_of_105 : decode cX6_of 105 = .ok (.invokevirtual 210, 3) := by decide +kernel
theorem dX6_of_108 : decode cX6_of 108 = .ok (.ireturn, 1) := by decide +kernel
theorem dX6_of_109 : decode cX6_of 109 = .ok (.aload_n 0, 1) := by decide +kernel
theorem dX6_of_110 : decode cX6_of 110 = .ok (.getfield 26, 3) := by decide +kernel
theorem dX6_of_113 : decode cX6_of 113 = .ok (.getfield 213, 3) := by decide +kernel
theorem dX6_of_116 : decode cX6_of 116 = .ok (.iload_n 1, 1) := by decide +kernel
theorem dX6_of_117 : decode cX6_of 117 = .ok (.iaload, 1) := by decide +kernel
theorem dX6_of_118 : decode cX6_of 118 = .ok (.ireturn, 1) := by decide +kernel
theorem dX6_of_119 : decode cX6_of 119 = .ok (.aload_n 0, 1) := by decide +kernel
theorem dX6_of_120 : decode cX6_of 120 = .ok (.getfield 40, 3) := by decide +kernel
theorem dX6_of_123 : decode cX6_of 123 = .ok (.invokevirtual 151, 3) := by decide +kernel
theorem dX6_of_126 : decode cX6_of 126 = .ok (.ifCond .eq 15, 3) := by decide +kernel
theorem dX6_of_129 : decode cX6_of 129 = .ok (.aload_n 0, 1) := by decide +kernel
theorem dX6_of_130 : decode cX6_of 130 = .ok (.getfield 40, 3) := by decide +kernel
theorem dX6_of_133 : decode cX6_of 133 = .ok (.getfield 216, 3) := by decide +kernel
theorem dX6_of_136 : decode cX6_of 136 = .ok (.iload_n 1, 1) := by decide +kernel
theorem dX6_of_137 : decode cX6_of 137 = .ok (.iaload, 1) := by decide +kernel
theorem dX6_of_138 : decode cX6_of 138 = .ok (.goto 4, 3) := by decide +kernel
theorem dX6_of_141 : decode cX6_of 141 = .ok (.iconst (-1), 1) := by decide +kernel
theorem dX6_of_142 : decode cX6_of 142 = .ok (.ireturn, 1) := by decide +kernel
theorem dX6_of_143 : decode cX6_of 143 = .ok (.new 161, 3) := by decide +kernel
theorem dX6_of_146 : decode cX6_of 146 = .ok (.dup, 1) := by decide +kernel
theorem dX6_of_147 : decode cX6_of 147 = .ok (.ldc 189, 2) := by decide +kernel
theorem dX6_of_149 : decode cX6_of 149 = .ok (.invokespecial 165, 3) := by decide +kernel
theorem dX6_of_152 : decode cX6_of 152 = .ok (.athrow, 1) := by decide +kernel
theorem dX6_lasts_0 : decode cX6_lasts 0 = .ok (.sipush 999, 3) := by decide +kernel
theorem dX6_lasts_3 : decode cX6_lasts 3 = .ok (.istore_n 1, 1) := by decide +kernel
theorem dX6_lasts_4 : decode cX6_lasts 4 = .ok (.iconst 0, 1) := by decide +kernel
theorem dX6_lasts_5 : decode cX6_lasts 5 = .ok (.istore_n 2, 1) := by decide +kernel
theorem dX6_lasts_6 : decode cX6_lasts 6 = .ok (.iload_n 2, 1) := by decide +kernel
theorem dX6_lasts_7 : decode cX6_lasts 7 = .ok (.aload_n 0, 1) := by decide +kernel
theorem dX6_lasts_8 : decode cX6_lasts 8 = .ok (.getfield 10, 3) := by decide +kernel
theorem dX6_lasts_11 : decode cX6_lasts 11 = .ok (.getfield 59, 3) := by decide +kernel
theorem dX6_lasts_14 : decode cX6_lasts 14 = .ok (.if_icmp .ge 30, 3) := by decide +kernel
theorem dX6_lasts_17 : decode cX6_lasts 17 = .ok (.aload_n 0, 1) := by decide +kernel
theorem dX6_lasts_18 : decode cX6_lasts 18 = .ok (.getfield 26, 3) := by decide +kernel
theorem dX6_lasts_21 : decode cX6_lasts 21 = .ok (.iload_n 2, 1) := by decide +kernel
theorem dX6_lasts_22 : decode cX6_lasts 22 = .ok (.invokevirtual 186, 3) := by decide +kernel
theorem dX6_lasts_25 : decode cX6_lasts 25 = .ok (.ifCond .le 13, 3) := by decide +kernel
theorem dX6_lasts_28 : decode cX6_lasts 28 = .ok (.iload_n 1, 1) := by decide +kernel
theorem dX6_lasts_29 : decode cX6_lasts 29 = .ok (.aload_n 0, 1) := by decide +kernel
theorem dX6_lasts_30 : decode cX6_lasts 30 = .ok (.iload_n 2, 1) := by decide +kernel
theorem dX6_lasts_31 : decode cX6_lasts 31 = .ok (.invokevirtual 180, 3) := by decide +kernel
theorem dX6_lasts_34 : decode cX6_lasts 34 = .ok (.invokestatic 217, 3) := by decide +kernel
theorem dX6_lasts_37 : decode cX6_lasts 37 = .ok (.istore_n 1, 1) := by decide +kernel
theorem dX6_lasts_38 : decode cX6_lasts 38 = .ok (.iinc 2 1, 3) := by decide +kernel
theorem dX6_lasts_41 : decode cX6_lasts 41 = .ok (.goto (-35), 3) := by decide +kernel
theorem dX6_lasts_44 : decode cX6_lasts 44 = .ok (.iload_n 1, 1) := by decide +kernel
theorem dX6_lasts_45 : decode cX6_lasts 45 = .ok (.ireturn, 1) := by decide +kernel
theorem dX6_cut_0 : decode cX6_cut 0 = .ok (.aload_n 0, 1) := by decide +kernel
theorem dX6_cut_1 : decode cX6_cut 1 = .ok (.iload_n 2, 1) := by decide +kernel
theorem dX6_cut_2 : decode cX6_cut 2 = .ok (.invokevirtual 69, 3) := by decide +kernel
theorem dX6_cut_5 : decode cX6_cut 5 = .ok (.ifCond .eq 11, 3) := by decide +kernel
theorem dX6_cut_8 : decode cX6_cut 8 = .ok (.aload_n 0, 1) := by decide +kernel
theorem dX6_cut_9 : decode cX6_cut 9 = .ok (.iload_n 1, 1) := by decide +kernel
theorem dX6_cut_10 : decode cX6_cut 10 = .ok (.invokevirtual 222, 3) := by decide +kernel
theorem dX6_cut_13 : decode cX6_cut 13 = .ok (.ifCond .ne 5, 3) := by decide +kernel
theorem dX6_cut_16 : decode cX6_cut 16 = .ok (.iconst (-1), 1) := by decide +kernel
theorem dX6_cut_17 : decode cX6_cut 17 = .ok (.ireturn, 1) := by decide +kernel
theorem dX6_cut_18 : decode cX6_cut 18 = .ok (.aload_n 0, 1) := by decide +kernel
theorem dX6_cut_19 : decode cX6_cut 19 = .ok (.getfield 33, 3) := by decide +kernel
theorem dX6_cut_22 : decode cX6_cut 22 = .ok (.getfield 225, 3) := by decide +kernel
theorem dX6_cut_25 : decode cX6_cut 25 = .ok (.iload_n 2, 1) := by decide +kernel
theorem dX6_cut_26 : decode cX6_cut 26 = .ok (.iaload, 1) := by decide +kernel
theorem dX6_cut_27 : decode cX6_cut 27 = .ok (.ireturn, 1) := by decide +kernel
theorem dX6_price_0 : decode cX6_price 0 = .ok (.iload_n 2, 1) := by decide +kernel
theorem dX6_price_1 : decode cX6_price 1 = .ok (.iconst 0, 1) := by decide +kernel
theorem dX6_price_2 : decode cX6_price 2 = .ok (.iconst 2, 1) := by decide +kernel
theorem dX6_price_3 : decode cX6_price 3 = .ok (.invokestatic 55, 3) := by decide +kernel
theorem dX6_price_6 : decode cX6_price 6 = .ok (.ifCond .eq 11, 3) := by decide +kernel
theorem dX6_price_9 : decode cX6_price 9 = .ok (.aload_n 0, 1) := by decide +kernel
theorem dX6_price_10 : decode cX6_price 10 = .ok (.iload_n 1, 1) := by decide +kernel
theorem dX6_price_11 : decode cX6_price 11 = .ok (.invokevirtual 222, 3) := by decide +kernel
theorem dX6_price_14 : decode cX6_price 14 = .ok (.ifCond .ne 5, 3) := by decide +kernel
theorem dX6_price_17 : decode cX6_price 17 = .ok (.iconst (-1), 1) := by decide +kernel
theorem dX6_price_18 : decode cX6_price 18 = .ok (.ireturn, 1) := by decide +kernel
theorem dX6_price_19 : decode cX6_price 19 = .ok (.aload_n 0, 1) := by decide +kernel
theorem dX6_price_20 : decode cX6_price 20 = .ok (.getfield 33, 3) := by decide +kernel
theorem dX6_price_23 : decode cX6_price 23 = .ok (.iload_n 2, 1) := by decide +kernel
theorem dX6_price_24 : decode cX6_price 24 = .ok (.invokevirtual 228, 3) := by decide +kernel
theorem dX6_price_27 : decode cX6_price 27 = .ok (.ireturn, 1) := by decide +kernel
theorem dX6_best_0 : decode cX6_best 0 = .ok (.iload_n 1, 1) := by decide +kernel
theorem dX6_best_1 : decode cX6_best 1 = .ok (.ifCond .eq 7, 3) := by decide +kernel
theorem dX6_best_4 : decode cX6_best 4 = .ok (.iconst 0, 1) := by decide +kernel
theorem dX6_best_5 : decode cX6_best 5 = .ok (.goto 4, 3) := by decide +kernel
theorem dX6_best_8 : decode cX6_best 8 = .ok (.iconst 1, 1) := by decide +kernel
theorem dX6_best_9 : decode cX6_best 9 = .ok (.istore_n 2, 1) := by decide +kernel
theorem dX6_best_10 : decode cX6_best 10 = .ok (.aload_n 0, 1) := by decide +kernel
theorem dX6_best_11 : decode cX6_best 11 = .ok (.iconst 0, 1) := by decide +kernel
theorem dX6_best_12 : decode cX6_best 12 = .ok (.iload_n 2, 1) := by decide +kernel
theorem dX6_best_13 : decode cX6_best 13 = .ok (.invokevirtual 231, 3) := by decide +kernel
theorem dX6_best_16 : decode cX6_best 16 = .ok (.ifCond .ne 5, 3) := by decide +kernel
theorem dX6_best_19 : decode cX6_best 19 = .ok (.iconst (-1), 1) := by decide +kernel
theorem dX6_best_20 : decode cX6_best 20 = .ok (.ireturn, 1) := by decide +kernel
theorem dX6_best_21 : decode cX6_best 21 = .ok (.iconst 0, 1) := by decide +kernel
theorem dX6_best_22 : decode cX6_best 22 = .ok (.istore_n 3, 1) := by decide +kernel
theorem dX6_best_23 : decode cX6_best 23 = .ok (.sipush 512, 3) := by decide +kernel
theorem dX6_best_26 : decode cX6_best 26 = .ok (.istore 4, 2) := by decide +kernel
theorem dX6_best_28 : decode cX6_best 28 = .ok (.iload 4, 2) := by decide +kernel
theorem dX6_best_30 : decode cX6_best 30 = .ok (.ifCond .le 39, 3) := by decide +kernel
theorem dX6_best_33 : decode cX6_best 33 = .ok (.iload_n 3, 1) := by decide +kernel
theorem dX6_best_34 : decode cX6_best 34 = .ok (.iload 4, 2) := by decide +kernel
theorem dX6_best_36 : decode cX6_best 36 = .ok (.iadd, 1) := by decide +kernel
theorem dX6_best_37 : decode cX6_best 37 = .ok (.sipush 999, 3) := by decide +kernel
theorem dX6_best_40 : decode cX6_best 40 = .ok (.if_icmp .gt 20, 3) := by decide +kernel
theorem dX6_best_43 : decode cX6_best 43 = .ok (.aload_n 0, 1) := by decide +kernel
theorem dX6_best_44 : decode cX6_best 44 = .ok (.iload_n 3, 1) := by decide +kernel
theorem dX6_best_45 : decode cX6_best 45 = .ok (.iload 4, 2) := by decide +kernel
theorem dX6_best_47 : decode cX6_best 47 = .ok (.iadd, 1) := by decide +kernel
theorem dX6_best_48 : decode cX6_best 48 = .ok (.iload_n 2, 1) := by decide +kernel
theorem dX6_best_49 : decode cX6_best 49 = .ok (.invokevirtual 231, 3) := by decide +kernel
theorem dX6_best_52 : decode cX6_best 52 = .ok (.ifCond .eq 8, 3) := by decide +kernel
theorem dX6_best_55 : decode cX6_best 55 = .ok (.iload_n 3, 1) := by decide +kernel
theorem dX6_best_56 : decode cX6_best 56 = .ok (.iload 4, 2) := by decide +kernel
theorem dX6_best_58 : decode cX6_best 58 = .ok (.iadd, 1) := by decide +kernel
theorem dX6_best_59 : decode cX6_best 59 = .ok (.istore_n 3, 1) := by decide +kernel
theorem dX6_best_60 : decode cX6_best 60 = .ok (.iload 4, 2) := by decide +kernel
theorem dX6_best_62 : decode cX6_best 62 = .ok (.iconst 2, 1) := by decide +kernel
theorem dX6_best_63 : decode cX6_best 63 = .ok (.idiv, 1) := by decide +kernel
theorem dX6_best_64 : decode cX6_best 64 = .ok (.istore 4, 2) := by decide +kernel
theorem dX6_best_66 : decode cX6_best 66 = .ok (.goto (-38), 3) := by decide +kernel
theorem dX6_best_69 : decode cX6_best 69 = .ok (.iload_n 3, 1) := by decide +kernel
theorem dX6_best_70 : decode cX6_best 70 = .ok (.ireturn, 1) := by decide +kernel
theorem dX6_tight_0 : decode cX6_tight 0 = .ok (.aload_n 0, 1) := by decide +kernel
theorem dX6_tight_1 : decode cX6_tight 1 = .ok (.getfield 33, 3) := by decide +kernel
theorem dX6_tight_4 : decode cX6_tight 4 = .ok (.aload_n 0, 1) := by decide +kernel
theorem dX6_tight_5 : decode cX6_tight 5 = .ok (.getfield 10, 3) := by decide +kernel
theorem dX6_tight_8 : decode cX6_tight 8 = .ok (.aload_n 0, 1) := by decide +kernel
theorem dX6_tight_9 : decode cX6_tight 9 = .ok (.getfield 26, 3) := by decide +kernel
theorem dX6_tight_12 : decode cX6_tight 12 = .ok (.iconst 0, 1) := by decide +kernel
theorem dX6_tight_13 : decode cX6_tight 13 = .ok (.invokevirtual 95, 3) := by decide +kernel
theorem dX6_tight_16 : decode cX6_tight 16 = .ok (.aload_n 0, 1) := by decide +kernel
theorem dX6_tight_17 : decode cX6_tight 17 = .ok (.getfield 33, 3) := by decide +kernel
theorem dX6_tight_20 : decode cX6_tight 20 = .ok (.iconst 0, 1) := by decide +kernel
theorem dX6_tight_21 : decode cX6_tight 21 = .ok (.invokevirtual 235, 3) := by decide +kernel
theorem dX6_tight_24 : decode cX6_tight 24 = .ok (.istore_n 1, 1) := by decide +kernel
theorem dX6_tight_25 : decode cX6_tight 25 = .ok (.iload_n 1, 1) := by decide +kernel
theorem dX6_tight_26 : decode cX6_tight 26 = .ok (.ifCond .le 9, 3) := by decide +kernel
theorem dX6_tight_29 : decode cX6_tight 29 = .ok (.iload_n 1, 1) := by decide +kernel
theorem dX6_tight_30 : decode cX6_tight 30 = .ok (.iconst 1, 1) := by decide +kernel
theorem dX6_tight_31 : decode cX6_tight 31 = .ok (.isub, 1) := by decide +kernel
theorem dX6_tight_32 : decode cX6_tight 32 = .ok (.goto 4, 3) := by decide +kernel
theorem dX6_tight_35 : decode cX6_tight 35 = .ok (.iconst (-1), 1) := by decide +kernel
theorem dX6_tight_36 : decode cX6_tight 36 = .ok (.ireturn, 1) := by decide +kernel
theorem dX6_more_0 : decode cX6_more 0 = .ok (.aload_n 0, 1) := by decide +kernel
theorem dX6_more_1 : decode cX6_more 1 = .ok (.iload_n 1, 1) := by decide +kernel
theorem dX6_more_2 : decode cX6_more 2 = .ok (.invokevirtual 81, 3) := by decide +kernel
theorem dX6_more_5 : decode cX6_more 5 = .ok (.ifCond .eq 13, 3) := by decide +kernel
theorem dX6_more_8 : decode cX6_more 8 = .ok (.iload_n 2, 1) := by decide +kernel
theorem dX6_more_9 : decode cX6_more 9 = .ok (.iconst 1, 1) := by decide +kernel
theorem dX6_more_10 : decode cX6_more 10 = .ok (.bipush 40, 2) := by decide +kernel
theorem dX6_more_12 : decode cX6_more 12 = .ok (.invokestatic 55, 3) := by decide +kernel
theorem dX6_more_15 : decode cX6_more 15 = .ok (.ifCond .ne 5, 3) := by decide +kernel
theorem dX6_more_18 : decode cX6_more 18 = .ok (.iconst (-1), 1) := by decide +kernel
theorem dX6_more_19 : decode cX6_more 19 = .ok (.ireturn, 1) := by decide +kernel
theorem dX6_more_20 : decode cX6_more 20 = .ok (.aload_n 0, 1) := by decide +kernel
theorem dX6_more_21 : decode cX6_more 21 = .ok (.getfield 26, 3) := by decide +kernel
theorem dX6_more_24 : decode cX6_more 24 = .ok (.iload_n 1, 1) := by decide +kernel
theorem dX6_more_25 : decode cX6_more 25 = .ok (.invokevirtual 92, 3) := by decide +kernel
theorem dX6_more_28 : decode cX6_more 28 = .ok (.istore_n 3, 1) := by decide +kernel
theorem dX6_more_29 : decode cX6_more 29 = .ok (.bipush 60, 2) := by decide +kernel
theorem dX6_more_31 : decode cX6_more 31 = .ok (.aload_n 0, 1) := by decide +kernel
theorem dX6_more_32 : decode cX6_more 32 = .ok (.getfield 26, 3) := by decide +kernel
theorem dX6_more_35 : decode cX6_more 35 = .ok (.getfield 91, 3) := by decide +kernel
theorem dX6_more_38 : decode cX6_more 38 = .ok (.isub, 1) := by decide +kernel
theorem dX6_more_39 : decode cX6_more 39 = .ok (.istore 4, 2) := by decide +kernel
theorem dX6_more_41 : decode cX6_more 41 = .ok (.aload_n 0, 1) := by decide +kernel
theorem dX6_more_42 : decode cX6_more 42 = .ok (.getfield 33, 3) := by decide +kernel
theorem dX6_more_45 : decode cX6_more 45 = .ok (.aload_n 0, 1) := by decide +kernel
theorem dX6_more_46 : decode cX6_more 46 = .ok (.getfield 10, 3) := by decide +kernel
theorem dX6_more_49 : decode cX6_more 49 = .ok (.aload_n 0, 1) := by decide +kernel
theorem dX6_more_50 : decode cX6_more 50 = .ok (.getfield 26, 3) := by decide +kernel
theorem dX6_more_53 : decode cX6_more 53 = .ok (.iconst 0, 1) := by decide +kernel
theorem dX6_more_54 : decode cX6_more 54 = .ok (.invokevirtual 95, 3) := by decide +kernel
theorem dX6_more_57 : decode cX6_more 57 = .ok (.iconst 0, 1) := by decide +kernel
theorem dX6_more_58 : decode cX6_more 58 = .ok (.istore 5, 2) := by decide +kernel
theorem dX6_more_60 : decode cX6_more 60 = .ok (.iload 5, 2) := by decide +kernel
theorem dX6_more_62 : decode cX6_more 62 = .ok (.iload 4, 2) := by decide +kernel
theorem dX6_more_64 : decode cX6_more 64 = .ok (.if_icmp .ge 33, 3) := by decide +kernel
theorem dX6_more_67 : decode cX6_more 67 = .ok (.aload_n 0, 1) := by decide +kernel
theorem dX6_more_68 : decode cX6_more 68 = .ok (.getfield 33, 3) := by decide +kernel
theorem dX6_more_71 : decode cX6_more 71 = .ok (.iload_n 3, 1) := by decide +kernel
theorem dX6_more_72 : decode cX6_more 72 = .ok (.iload_n 2, 1) := by decide +kernel
theorem dX6_more_73 : decode cX6_more 73 = .ok (.invokevirtual 99, 3) := by decide +kernel
theorem dX6_more_76 : decode cX6_more 76 = .ok (.aload_n 0, 1) := by decide +kernel
theorem dX6_more_77 : decode cX6_more 77 = .ok (.getfield 33, 3) := by decide +kernel
theorem dX6_more_80 : decode cX6_more 80 = .ok (.iconst 1, 1) := by decide +kernel
theorem dX6_more_81 : decode cX6_more 81 = .ok (.invokevirtual 235, 3) := by decide +kernel
theorem dX6_more_84 : decode cX6_more 84 = .ok (.iconst (-1), 1) := by decide +kernel
theorem dX6_more_85 : decode cX6_more 85 = .ok (.if_icmp .ne 6, 3) := by decide +kernel
theorem dX6_more_88 : decode cX6_more 88 = .ok (.iload 5, 2) := by decide +kernel
theorem dX6_more_90 : decode cX6_more 90 = .ok (.ireturn, 1) := by decide +kernel
theorem dX6_more_91 : decode cX6_more 91 = .ok (.iinc 5 1, 3) := by decide +kernel
theorem dX6_more_94 : decode cX6_more 94 = .ok (.goto (-34), 3) := by decide +kernel
theorem dX6_more_97 : decode cX6_more 97 = .ok (.iload 4, 2) := by decide +kernel
theorem dX6_more_99 : decode cX6_more 99 = .ok (.ireturn, 1) := by decide +kernel
theorem dX6_plan_0 : decode cX6_plan 0 = .ok (.aload_n 0, 1) := by decide +kernel
theorem dX6_plan_1 : decode cX6_plan 1 = .ok (.iload_n 1, 1) := by decide +kernel
theorem dX6_plan_2 : decode cX6_plan 2 = .ok (.invokevirtual 222, 3) := by decide +kernel
theorem dX6_plan_5 : decode cX6_plan 5 = .ok (.ifCond .ne 5, 3) := by decide +kernel
theorem dX6_plan_8 : decode cX6_plan 8 = .ok (.iconst (-1), 1) := by decide +kernel
theorem dX6_plan_9 : decode cX6_plan 9 = .ok (.ireturn, 1) := by decide +kernel
theorem dX6_plan_10 : decode cX6_plan 10 = .ok (.aload_n 0, 1) := by decide +kernel
theorem dX6_plan_11 : decode cX6_plan 11 = .ok (.getfield 40, 3) := by decide +kernel
theorem dX6_plan_14 : decode cX6_plan 14 = .ok (.aload_n 0, 1) := by decide +kernel
theorem dX6_plan_15 : decode cX6_plan 15 = .ok (.getfield 26, 3) := by decide +kernel
theorem dX6_plan_18 : decode cX6_plan 18 = .ok (.aload_n 0, 1) := by decide +kernel
theorem dX6_plan_19 : decode cX6_plan 19 = .ok (.getfield 33, 3) := by decide +kernel
theorem dX6_plan_22 : decode cX6_plan 22 = .ok (.getfield 106, 3) := by decide +kernel
theorem dX6_plan_25 : decode cX6_plan 25 = .ok (.iload_n 1, 1) := by decide +kernel
theorem dX6_plan_26 : decode cX6_plan 26 = .ok (.invokevirtual 238, 3) := by decide +kernel
theorem dX6_plan_29 : decode cX6_plan 29 = .ok (.aload_n 0, 1) := by decide +kernel
theorem dX6_plan_30 : decode cX6_plan 30 = .ok (.getfield 40, 3) := by decide +kernel
theorem dX6_plan_33 : decode cX6_plan 33 = .ok (.getfield 145, 3) := by decide +kernel
theorem dX6_plan_36 : decode cX6_plan 36 = .ok (.ireturn, 1) := by decide +kernel
theorem dX6_drop_0 : decode cX6_drop 0 = .ok (.aload_n 0, 1) := by decide +kernel
theorem dX6_drop_1 : decode cX6_drop 1 = .ok (.getfield 40, 3) := by decide +kernel
theorem dX6_drop_4 : decode cX6_drop 4 = .ok (.invokevirtual 151, 3) := by decide +kernel
theorem dX6_drop_7 : decode cX6_drop 7 = .ok (.ifCond .ne 5, 3) := by decide +kernel
theorem dX6_drop_10 : decode cX6_drop 10 = .ok (.iconst (-1), 1) := by decide +kernel
theorem dX6_drop_11 : decode cX6_drop 11 = .ok (.ireturn, 1) := by decide +kernel
theorem dX6_drop_12 : decode cX6_drop 12 = .ok (.aload_n 0, 1) := by decide +kernel
theorem dX6_drop_13 : decode cX6_drop 13 = .ok (.getfield 40, 3) := by decide +kernel
theorem dX6_drop_16 : decode cX6_drop 16 = .ok (.getfield 145, 3) := by decide +kernel
theorem dX6_drop_19 : decode cX6_drop 19 = .ok (.aload_n 0, 1) := by decide +kernel
theorem dX6_drop_20 : decode cX6_drop 20 = .ok (.getfield 40, 3) := by decide +kernel
theorem dX6_drop_23 : decode cX6_drop 23 = .ok (.getfield 148, 3) := by decide +kernel
theorem dX6_drop_26 : decode cX6_drop 26 = .ok (.isub, 1) := by decide +kernel
theorem dX6_drop_27 : decode cX6_drop 27 = .ok (.istore_n 1, 1) := by decide +kernel
theorem dX6_drop_28 : decode cX6_drop 28 = .ok (.aload_n 0, 1) := by decide +kernel
theorem dX6_drop_29 : decode cX6_drop 29 = .ok (.getfield 40, 3) := by decide +kernel
theorem dX6_drop_32 : decode cX6_drop 32 = .ok (.invokevirtual 62, 3) := by decide +kernel
theorem dX6_drop_35 : decode cX6_drop 35 = .ok (.iload_n 1, 1) := by decide +kernel
theorem dX6_drop_36 : decode cX6_drop 36 = .ok (.ireturn, 1) := by decide +kernel
theorem dX6_move_0 : decode cX6_move 0 = .ok (.aload_n 0, 1) := by decide +kernel
theorem dX6_move_1 : decode cX6_move 1 = .ok (.getfield 40, 3) := by decide +kernel
theorem dX6_move_4 : decode cX6_move 4 = .ok (.invokevirtual 151, 3) := by decide +kernel
theorem dX6_move_7 : decode cX6_move 7 = .ok (.ifCond .eq 10, 3) := by decide +kernel
theorem dX6_move_10 : decode cX6_move 10 = .ok (.aload_n 0, 1) := by decide +kernel
theorem dX6_move_11 : decode cX6_move 11 = .ok (.invokevirtual 242, 3) := by decide +kernel
theorem dX6_move_14 : decode cX6_move 14 = .ok (.goto 4, 3) := by decide +kernel
theorem dX6_move_17 : decode cX6_move 17 = .ok (.iconst (-1), 1) := by decide +kernel
theorem dX6_move_18 : decode cX6_move 18 = .ok (.ireturn, 1) := by decide +kernel
theorem dX6_day_0 : decode cX6_day 0 = .ok (.aload_n 0, 1) := by decide +kernel
theorem dX6_day_1 : decode cX6_day 1 = .ok (.getfield 40, 3) := by decide +kernel
theorem dX6_day_4 : decode cX6_day 4 = .ok (.invokevirtual 151, 3) := by decide +kernel
theorem dX6_day_7 : decode cX6_day 7 = .ok (.ifCond .ne 5, 3) := by decide +kernel
theorem dX6_day_10 : decode cX6_day 10 = .ok (.iconst (-1), 1) := by decide +kernel
theorem dX6_day_11 : decode cX6_day 11 = .ok (.ireturn, 1) := by decide +kernel
theorem dX6_day_12 : decode cX6_day 12 = .ok (.aload_n 0, 1) := by decide +kernel
theorem dX6_day_13 : decode cX6_day 13 = .ok (.getfield 40, 3) := by decide +kernel
theorem dX6_day_16 : decode cX6_day 16 = .ok (.aload_n 0, 1) := by decide +kernel
theorem dX6_day_17 : decode cX6_day 17 = .ok (.getfield 51, 3) := by decide +kernel
theorem dX6_day_20 : decode cX6_day 20 = .ok (.invokevirtual 245, 3) := by decide +kernel
theorem dX6_day_23 : decode cX6_day 23 = .ok (.istore_n 1, 1) := by decide +kernel
theorem dX6_day_24 : decode cX6_day 24 = .ok (.iconst 0, 1) := by decide +kernel
theorem dX6_day_25 : decode cX6_day 25 = .ok (.istore_n 2, 1) := by decide +kernel
theorem dX6_day_26 : decode cX6_day 26 = .ok (.iload_n 2, 1) := by decide +kernel
theorem dX6_day_27 : decode cX6_day 27 = .ok (.iload_n 1, 1) := by decide +kernel
theorem dX6_day_28 : decode cX6_day 28 = .ok (.if_icmp .ge 14, 3) := by decide +kernel
theorem dX6_day_31 : decode cX6_day 31 = .ok (.aload_n 0, 1) := by decide +kernel
theorem dX6_day_32 : decode cX6_day 32 = .ok (.invokevirtual 242, 3) := by decide +kernel
theorem dX6_day_35 : decode cX6_day 35 = .ok (.pop, 1) := by decide +kernel
theorem dX6_day_36 : decode cX6_day 36 = .ok (.iinc 2 1, 3) := by decide +kernel
theorem dX6_day_39 : decode cX6_day 39 = .ok (.goto (-13), 3) := by decide +kernel
theorem dX6_day_42 : decode cX6_day 42 = .ok (.iload_n 1, 1) := by decide +kernel
theorem dX6_day_43 : decode cX6_day 43 = .ok (.ireturn, 1) := by decide +kernel
theorem dX6_planned_0 : decode cX6_planned 0 = .ok (.iload_n 1, 1) := by decide +kernel
theorem dX6_planned_1 : decode cX6_planned 1 = .ok (.ifCond .lt 14, 3) := by decide +kernel
theorem dX6_planned_4 : decode cX6_planned 4 = .ok (.iload_n 1, 1) := by decide +kernel
theorem dX6_planned_5 : decode cX6_planned 5 = .ok (.aload_n 0, 1) := by decide +kernel
theorem dX6_planned_6 : decode cX6_planned 6 = .ok (.getfield 40, 3) := by decide +kernel
theorem dX6_planned_9 : decode cX6_planned 9 = .ok (.getfield 145, 3) := by decide +kernel
theorem dX6_planned_12 : decode cX6_planned 12 = .ok (.if_icmp .lt 5, 3) := by decide +kernel
theorem dX6_planned_15 : decode cX6_planned 15 = .ok (.iconst (-1), 1) := by decide +kernel
theorem dX6_planned_16 : decode cX6_planned 16 = .ok (.ireturn, 1) := by decide +kernel
theorem dX6_planned_17 : decode cX6_planned 17 = .ok (.iload_n 2, 1) := by decide +kernel
theorem dX6_planned_18 : decode cX6_planned 18 = .ok (.tableswitch 122 0 6 #[42, 52, 62, 72, 81, 99, 113], 42) := by decide +kernel
theorem dX6_planned_60 : decode cX6_planned 60 = .ok (.aload_n 0, 1) := by decide +kernel
theorem dX6_planned_61 : decode cX6_planned 61 = .ok (.getfield 40, 3) := by decide +kernel
theorem dX6_planned_64 : decode cX6_planned 64 = .ok (.getfield 248, 3) := by decide +kernel
theorem dX6_planned_67 : decode cX6_planned 67 = .ok (.iload_n 1, 1) := by decide +kernel
theorem dX6_planned_68 : decode cX6_planned 68 = .ok (.iaload, 1) := by decide +kernel
theorem dX6_planned_69 : decode cX6_planned 69 = .ok (.ireturn, 1) := by decide +kernel
theorem dX6_planned_70 : decode cX6_planned 70 = .ok (.aload_n 0, 1) := by decide +kernel
theorem dX6_planned_71 : decode cX6_planned 71 = .ok (.getfield 40, 3) := by decide +kernel
theorem dX6_planned_74 : decode cX6_planned 74 = .ok (.getfield 251, 3) := by decide +kernel
theorem dX6_planned_77 : decode cX6_planned 77 = .ok (.iload_n 1, 1) := by decide +kernel
theorem dX6_planned_78 : decode cX6_planned 78 = .ok (.iaload, 1) := by decide +kernel
theorem dX6_planned_79 : decode cX6_planned 79 = .ok (.ireturn, 1) := by decide +kernel
theorem dX6_planned_80 : decode cX6_planned 80 = .ok (.aload_n 0, 1) := by decide +kernel
theorem dX6_planned_81 : decode cX6_planned 81 = .ok (.getfield 40, 3) := by decide +kernel
theorem dX6_planned_84 : decode cX6_planned 84 = .ok (.getfield 254, 3) := by decide +kernel
theorem dX6_planned_87 : decode cX6_planned 87 = .ok (.iload_n 1, 1) := by decide +kernel
theorem dX6_planned_88 : decode cX6_planned 88 = .ok (.iaload, 1) := by decide +kernel
theorem dX6_planned_89 : decode cX6_planned 89 = .ok (.ireturn, 1) := by decide +kernel
theorem dX6_planned_90 : decode cX6_planned 90 = .ok (.aload_n 0, 1) := by decide +kernel
theorem dX6_planned_91 : decode cX6_planned 91 = .ok (.getfield 40, 3) := by decide +kernel
theorem dX6_planned_94 : decode cX6_planned 94 = .ok (.iload_n 1, 1) := by decide +kernel
theorem dX6_planned_95 : decode cX6_planned 95 = .ok (.invokevirtual 257, 3) := by decide +kernel
theorem dX6_planned_98 : decode cX6_planned 98 = .ok (.ireturn, 1) := by decide +kernel
theorem dX6_planned_99 : decode cX6_planned 99 = .ok (.aload_n 0, 1) := by decide +kernel
theorem dX6_planned_100 : decode cX6_planned 100 = .ok (.getfield 40, 3) := by decide +kernel
theorem dX6_planned_103 : decode cX6_planned 103 = .ok (.iconst 0, 1) := by decide +kernel
theorem dX6_planned_104 : decode cX6_planned 104 = .ok (.iload_n 1, 1) := by decide +kernel
theorem dX6_planned_105 : decode cX6_planned 105 = .ok (.iconst 1, 1) := by decide +kernel
theorem dX6_planned_106 : decode cX6_planned 106 = .ok (.iadd, 1) := by decide +kernel
theorem dX6_planned_107 : decode cX6_planned 107 = .ok (.aload_n 0, 1) := by decide +kernel
theorem dX6_planned_108 : decode cX6_planned 108 = .ok (.getfield 51, 3) := by decide +kernel
theorem dX6_planned_111 : decode cX6_planned 111 = .ok (.invokevirtual 260, 3) := by decide +kernel
theorem dX6_planned_114 : decode cX6_planned 114 = .ok (.iconst 1, 1) := by decide +kernel
theorem dX6_planned_115 : decode cX6_planned 115 = .ok (.isub, 1) := by decide +kernel
theorem dX6_planned_116 : decode cX6_planned 116 = .ok (.ireturn, 1) := by decide +kernel
theorem dX6_planned_117 : decode cX6_planned 117 = .ok (.aload_n 0, 1) := by decide +kernel
theorem dX6_planned_118 : decode cX6_planned 118 = .ok (.getfield 40, 3) := by decide +kernel
theorem dX6_planned_121 : decode cX6_planned 121 = .ok (.iconst 0, 1) := by decide +kernel
theorem dX6_planned_122 : decode cX6_planned 122 = .ok (.iload_n 1, 1) := by decide +kernel
theorem dX6_planned_123 : decode cX6_planned 123 = .ok (.iconst 1, 1) := by decide +kernel
theorem dX6_planned_124 : decode cX6_planned 124 = .ok (.iadd, 1) := by decide +kernel
theorem dX6_planned_125 : decode cX6_planned 125 = .ok (.invokevirtual 264, 3) := by decide +kernel
theorem dX6_planned_128 : decode cX6_planned 128 = .ok (.iconst 1, 1) := by decide +kernel
theorem dX6_planned_129 : decode cX6_planned 129 = .ok (.isub, 1) := by decide +kernel
theorem dX6_planned_130 : decode cX6_planned 130 = .ok (.ireturn, 1) := by decide +kernel
theorem dX6_planned_131 : decode cX6_planned 131 = .ok (.aload_n 0, 1) := by decide +kernel
theorem dX6_planned_132 : decode cX6_planned 132 = .ok (.getfield 40, 3) := by decide +kernel
theorem dX6_planned_135 : decode cX6_planned 135 = .ok (.iload_n 1, 1) := by decide +kernel
theorem dX6_planned_136 : decode cX6_planned 136 = .ok (.invokevirtual 267, 3) := by decide +kernel
theorem dX6_planned_139 : decode cX6_planned 139 = .ok (.ireturn, 1) := by decide +kernel
theorem dX6_planned_140 : decode cX6_planned 140 = .ok (.iconst (-1), 1) := by decide +kernel
theorem dX6_planned_141 : decode cX6_planned 141 = .ok (.ireturn, 1) := by decide +kernel
theorem dX6_left_0 : decode cX6_left 0 = .ok (.aload_n 0, 1) := by decide +kernel
theorem dX6_left_1 : decode cX6_left 1 = .ok (.getfield 40, 3) := by decide +kernel
theorem dX6_left_4 : decode cX6_left 4 = .ok (.invokevirtual 151, 3) := by decide +kernel
theorem dX6_left_7 : decode cX6_left 7 = .ok (.ifCond .ne 5, 3) := by decide +kernel
theorem dX6_left_10 : decode cX6_left 10 = .ok (.iconst (-1), 1) := by decide +kernel
theorem dX6_left_11 : decode cX6_left 11 = .ok (.ireturn, 1) := by decide +kernel
theorem dX6_left_12 : decode cX6_left 12 = .ok (.iload_n 1, 1) := by decide +kernel
theorem dX6_left_13 : decode cX6_left 13 = .ok (.tableswitch 115 0 4 #[35, 51, 59, 85, 107], 35) := by decide +kernel
theorem dX6_left_48 : decode cX6_left 48 = .ok (.aload_n 0, 1) := by decide +kernel
theorem dX6_left_49 : decode cX6_left 49 = .ok (.getfield 40, 3) := by decide +kernel
theorem dX6_left_52 : decode cX6_left 52 = .ok (.getfield 145, 3) := by decide +kernel
theorem dX6_left_55 : decode cX6_left 55 = .ok (.aload_n 0, 1) := by decide +kernel
theorem dX6_left_56 : decode cX6_left 56 = .ok (.getfield 40, 3) := by decide +kernel
theorem dX6_left_59 : decode cX6_left 59 = .ok (.getfield 148, 3) := by decide +kernel
theorem dX6_left_62 : decode cX6_left 62 = .ok (.isub, 1) := by decide +kernel
theorem dX6_left_63 : decode cX6_left 63 = .ok (.ireturn, 1) := by decide +kernel
theorem dX6_left_64 : decode cX6_left 64 = .ok (.aload_n 0, 1) := by decide +kernel
theorem dX6_left_65 : decode cX6_left 65 = .ok (.getfield 40, 3) := by decide +kernel
theorem dX6_left_68 : decode cX6_left 68 = .ok (.invokevirtual 270, 3) := by decide +kernel
theorem dX6_left_71 : decode cX6_left 71 = .ok (.ireturn, 1) := by decide +kernel
theorem dX6_left_72 : decode cX6_left 72 = .ok (.aload_n 0, 1) := by decide +kernel
theorem dX6_left_73 : decode cX6_left 73 = .ok (.getfield 40, 3) := by decide +kernel
theorem dX6_left_76 : decode cX6_left 76 = .ok (.aload_n 0, 1) := by decide +kernel
theorem dX6_left_77 : decode cX6_left 77 = .ok (.getfield 40, 3) := by decide +kernel
theorem dX6_left_80 : decode cX6_left 80 = .ok (.getfield 148, 3) := by decide +kernel
theorem dX6_left_83 : decode cX6_left 83 = .ok (.aload_n 0, 1) := by decide +kernel
theorem dX6_left_84 : decode cX6_left 84 = .ok (.getfield 40, 3) := by decide +kernel
theorem dX6_left_87 : decode cX6_left 87 = .ok (.getfield 145, 3) := by decide +kernel
theorem dX6_left_90 : decode cX6_left 90 = .ok (.aload_n 0, 1) := by decide +kernel
theorem dX6_left_91 : decode cX6_left 91 = .ok (.getfield 51, 3) := by decide +kernel
theorem dX6_left_94 : decode cX6_left 94 = .ok (.invokevirtual 260, 3) := by decide +kernel
theorem dX6_left_97 : decode cX6_left 97 = .ok (.ireturn, 1) := by decide +kernel
theorem dX6_left_98 : decode cX6_left 98 = .ok (.aload_n 0, 1) := by decide +kernel
theorem dX6_left_99 : decode cX6_left 99 = .ok (.getfield 40, 3) := by decide +kernel
theorem dX6_left_102 : decode cX6_left 102 = .ok (.aload_n 0, 1) := by decide +kernel
theorem dX6_left_103 : decode cX6_left 103 = .ok (.getfield 40, 3) := by decide +kernel
theorem dX6_left_106 : decode cX6_left 106 = .ok (.getfield 148, 3) := by decide +kernel
theorem dX6_left_109 : decode cX6_left 109 = .ok (.aload_n 0, 1) := by decide +kernel
theorem dX6_left_110 : decode cX6_left 110 = .ok (.getfield 40, 3) := by decide +kernel
theorem dX6_left_113 : decode cX6_left 113 = .ok (.getfield 145, 3) := by decide +kernel
theorem dX6_left_116 : decode cX6_left 116 = .ok (.invokevirtual 264, 3) := by decide +kernel
theorem dX6_left_119 : decode cX6_left 119 = .ok (.ireturn, 1) := by decide +kernel
theorem dX6_left_120 : decode cX6_left 120 = .ok (.aload_n 0, 1) := by decide +kernel
theorem dX6_left_121 : decode cX6_left 121 = .ok (.getfield 40, 3) := by decide +kernel
theorem dX6_left_124 : decode cX6_left 124 = .ok (.invokevirtual 273, 3) := by decide +kernel
theorem dX6_left_127 : decode cX6_left 127 = .ok (.ireturn, 1) := by decide +kernel
theorem dX6_left_128 : decode cX6_left 128 = .ok (.iconst (-1), 1) := by decide +kernel
theorem dX6_left_129 : decode cX6_left 129 = .ok (.ireturn, 1) := by decide +kernel
theorem dX6_enough_0 : decode cX6_enough 0 = .ok (.aload_n 0, 1) := by decide +kernel
theorem dX6_enough_1 : decode cX6_enough 1 = .ok (.getfield 40, 3) := by decide +kernel
theorem dX6_enough_4 : decode cX6_enough 4 = .ok (.invokevirtual 151, 3) := by decide +kernel
theorem dX6_enough_7 : decode cX6_enough 7 = .ok (.ifCond .eq 31, 3) := by decide +kernel
theorem dX6_enough_10 : decode cX6_enough 10 = .ok (.aload_n 0, 1) := by decide +kernel
theorem dX6_enough_11 : decode cX6_enough 11 = .ok (.getfield 40, 3) := by decide +kernel
theorem dX6_enough_14 : decode cX6_enough 14 = .ok (.aload_n 0, 1) := by decide +kernel
theorem dX6_enough_15 : decode cX6_enough 15 = .ok (.getfield 40, 3) := by decide +kernel
theorem dX6_enough_18 : decode cX6_enough 18 = .ok (.getfield 148, 3) := by decide +kernel
theorem dX6_enough_21 : decode cX6_enough 21 = .ok (.aload_n 0, 1) := by decide +kernel
theorem dX6_enough_22 : decode cX6_enough 22 = .ok (.getfield 40, 3) := by decide +kernel
theorem dX6_enough_25 : decode cX6_enough 25 = .ok (.getfield 145, 3) := by decide +kernel
theorem dX6_enough_28 : decode cX6_enough 28 = .ok (.sipush 400, 3) := by decide +kernel
theorem dX6_enough_31 : decode cX6_enough 31 = .ok (.invokevirtual 260, 3) := by decide +kernel
theorem dX6_enough_34 : decode cX6_enough 34 = .ok (.iload_n 1, 1) := by decide +kernel
theorem dX6_enough_35 : decode cX6_enough 35 = .ok (.if_icmp .le 5, 3) := by decide +kernel
theorem dX6_enough_38 : decode cX6_enough 38 = .ok (.iconst (-1), 1) := by decide +kernel
theorem dX6_enough_39 : decode cX6_enough 39 = .ok (.ireturn, 1) := by decide +kernel
theorem dX6_enough_40 : decode cX6_enough 40 = .ok (.bipush 39, 2) := by decide +kernel
theorem dX6_enough_42 : decode cX6_enough 42 = .ok (.istore_n 2, 1) := by decide +kernel
theorem dX6_enough_43 : decode cX6_enough 43 = .ok (.sipush 256, 3) := by decide +kernel
theorem dX6_enough_46 : decode cX6_enough 46 = .ok (.istore_n 3, 1) := by decide +kernel
theorem dX6_enough_47 : decode cX6_enough 47 = .ok (.iload_n 3, 1) := by decide +kernel
theorem dX6_enough_48 : decode cX6_enough 48 = .ok (.ifCond .le 53, 3) := by decide +kernel
theorem dX6_enough_51 : decode cX6_enough 51 = .ok (.iload_n 2, 1) := by decide +kernel
theorem dX6_enough_52 : decode cX6_enough 52 = .ok (.iload_n 3, 1) := by decide +kernel
theorem dX6_enough_53 : decode cX6_enough 53 = .ok (.iadd, 1) := by decide +kernel
theorem dX6_enough_54 : decode cX6_enough 54 = .ok (.istore 4, 2) := by decide +kernel
theorem dX6_enough_56 : decode cX6_enough 56 = .ok (.iload 4, 2) := by decide +kernel
theorem dX6_enough_58 : decode cX6_enough 58 = .ok (.sipush 400, 3) := by decide +kernel
theorem dX6_enough_61 : decode cX6_enough 61 = .ok (.if_icmp .ge 33, 3) := by decide +kernel
theorem dX6_enough_64 : decode cX6_enough 64 = .ok (.aload_n 0, 1) := by decide +kernel
theorem dX6_enough_65 : decode cX6_enough 65 = .ok (.getfield 40, 3) := by decide +kernel
theorem dX6_enough_68 : decode cX6_enough 68 = .ok (.aload_n 0, 1) := by decide +kernel
theorem dX6_enough_69 : decode cX6_enough 69 = .ok (.getfield 40, 3) := by decide +kernel
theorem dX6_enough_72 : decode cX6_enough 72 = .ok (.getfield 148, 3) := by decide +kernel
theorem dX6_enough_75 : decode cX6_enough 75 = .ok (.aload_n 0, 1) := by decide +kernel
theorem dX6_enough_76 : decode cX6_enough 76 = .ok (.getfield 40, 3) := by decide +kernel
theorem dX6_enough_79 : decode cX6_enough 79 = .ok (.getfield 145, 3) := by decide +kernel
theorem dX6_enough_82 : decode cX6_enough 82 = .ok (.iload 4, 2) := by decide +kernel
theorem dX6_enough_84 : decode cX6_enough 84 = .ok (.invokevirtual 260, 3) := by decide +kernel
theorem dX6_enough_87 : decode cX6_enough 87 = .ok (.iload_n 1, 1) := by decide +kernel
theorem dX6_enough_88 : decode cX6_enough 88 = .ok (.if_icmp .le 6, 3) := by decide +kernel
theorem dX6_enough_91 : decode cX6_enough 91 = .ok (.iload 4, 2) := by decide +kernel
theorem dX6_enough_93 : decode cX6_enough 93 = .ok (.istore_n 2, 1) := by decide +kernel
theorem dX6_enough_94 : decode cX6_enough 94 = .ok (.iload_n 3, 1) := by decide +kernel
theorem dX6_enough_95 : decode cX6_enough 95 = .ok (.iconst 2, 1) := by decide +kernel
theorem dX6_enough_96 : decode cX6_enough 96 = .ok (.idiv, 1) := by decide +kernel
theorem dX6_enough_97 : decode cX6_enough 97 = .ok (.istore_n 3, 1) := by decide +kernel
theorem dX6_enough_98 : decode cX6_enough 98 = .ok (.goto (-51), 3) := by decide +kernel
theorem dX6_enough_101 : decode cX6_enough 101 = .ok (.iload_n 2, 1) := by decide +kernel
theorem dX6_enough_102 : decode cX6_enough 102 = .ok (.iconst 1, 1) := by decide +kernel
theorem dX6_enough_103 : decode cX6_enough 103 = .ok (.iadd, 1) := by decide +kernel
theorem dX6_enough_104 : decode cX6_enough 104 = .ok (.ireturn, 1) := by decide +kernel
theorem dX6_log_0 : decode cX6_log 0 = .ok (.aload_n 0, 1) := by decide +kernel
theorem dX6_log_1 : decode cX6_log 1 = .ok (.getfield 47, 3) := by decide +kernel
theorem dX6_log_4 : decode cX6_log 4 = .ok (.iload_n 1, 1) := by decide +kernel
theorem dX6_log_5 : decode cX6_log 5 = .ok (.iload_n 2, 1) := by decide +kernel
theorem dX6_log_6 : decode cX6_log 6 = .ok (.invokevirtual 276, 3) := by decide +kernel
theorem dX6_log_9 : decode cX6_log 9 = .ok (.ireturn, 1) := by decide +kernel
theorem dX6_isWithin_0 : decode cX6_isWithin 0 = .ok (.iload_n 0, 1) := by decide +kernel
theorem dX6_isWithin_1 : decode cX6_isWithin 1 = .ok (.iload_n 1, 1) := by decide +kernel
theorem dX6_isWithin_2 : decode cX6_isWithin 2 = .ok (.if_icmp .lt 12, 3) := by decide +kernel
theorem dX6_isWithin_5 : decode cX6_isWithin 5 = .ok (.iload_n 0, 1) := by decide +kernel
theorem dX6_isWithin_6 : decode cX6_isWithin 6 = .ok (.iload_n 2, 1) := by decide +kernel
theorem dX6_isWithin_7 : decode cX6_isWithin 7 = .ok (.if_icmp .gt 7, 3) := by decide +kernel
theorem dX6_isWithin_10 : decode cX6_isWithin 10 = .ok (.iconst 1, 1) := by decide +kernel
theorem dX6_isWithin_11 : decode cX6_isWithin 11 = .ok (.goto 4, 3) := by decide +kernel
theorem dX6_isWithin_14 : decode cX6_isWithin 14 = .ok (.iconst 0, 1) := by decide +kernel
theorem dX6_isWithin_15 : decode cX6_isWithin 15 = .ok (.ireturn, 1) := by decide +kernel
theorem dX6_hasShelf_0 : decode cX6_hasShelf 0 = .ok (.iload_n 1, 1) := by decide +kernel
theorem dX6_hasShelf_1 : decode cX6_hasShelf 1 = .ok (.ifCond .lt 18, 3) := by decide +kernel
theorem dX6_hasShelf_4 : decode cX6_hasShelf 4 = .ok (.iload_n 1, 1) := by decide +kernel
theorem dX6_hasShelf_5 : decode cX6_hasShelf 5 = .ok (.aload_n 0, 1) := by decide +kernel
theorem dX6_hasShelf_6 : decode cX6_hasShelf 6 = .ok (.getfield 10, 3) := by decide +kernel
theorem dX6_hasShelf_9 : decode cX6_hasShelf 9 = .ok (.getfield 59, 3) := by decide +kernel
theorem dX6_hasShelf_12 : decode cX6_hasShelf 12 = .ok (.if_icmp .ge 7, 3) := by decide +kernel
theorem dX6_hasShelf_15 : decode cX6_hasShelf 15 = .ok (.iconst 1, 1) := by decide +kernel
theorem dX6_hasShelf_16 : decode cX6_hasShelf 16 = .ok (.goto 4, 3) := by decide +kernel
theorem dX6_hasShelf_19 : decode cX6_hasShelf 19 = .ok (.iconst 0, 1) := by decide +kernel
theorem dX6_hasShelf_20 : decode cX6_hasShelf 20 = .ok (.ireturn, 1) := by decide +kernel
theorem dX6_hasGroup_0 : decode cX6_hasGroup 0 = .ok (.iload_n 1, 1) := by decide +kernel
theorem dX6_hasGroup_1 : decode cX6_hasGroup 1 = .ok (.ifCond .lt 18, 3) := by decide +kernel
theorem dX6_hasGroup_4 : decode cX6_hasGroup 4 = .ok (.iload_n 1, 1) := by decide +kernel
theorem dX6_hasGroup_5 : decode cX6_hasGroup 5 = .ok (.aload_n 0, 1) := by decide +kernel
theorem dX6_hasGroup_6 : decode cX6_hasGroup 6 = .ok (.getfield 19, 3) := by decide +kernel
theorem dX6_hasGroup_9 : decode cX6_hasGroup 9 = .ok (.getfield 77, 3) := by decide +kernel
theorem dX6_hasGroup_12 : decode cX6_hasGroup 12 = .ok (.if_icmp .ge 7, 3) := by decide +kernel
theorem dX6_hasGroup_15 : decode cX6_hasGroup 15 = .ok (.iconst 1, 1) := by decide +kernel
theorem dX6_hasGroup_16 : decode cX6_hasGroup 16 = .ok (.goto 4, 3) := by decide +kernel
theorem dX6_hasGroup_19 : decode cX6_hasGroup 19 = .ok (.iconst 0, 1) := by decide +kernel
theorem dX6_hasGroup_20 : decode cX6_hasGroup 20 = .ok (.ireturn, 1) := by decide +kernel
theorem dX6_hasBook_0 : decode cX6_hasBook 0 = .ok (.iload_n 1, 1) := by decide +kernel
theorem dX6_hasBook_1 : decode cX6_hasBook 1 = .ok (.ifCond .lt 18, 3) := by decide +kernel
theorem dX6_hasBook_4 : decode cX6_hasBook 4 = .ok (.iload_n 1, 1) := by decide +kernel
theorem dX6_hasBook_5 : decode cX6_hasBook 5 = .ok (.aload_n 0, 1) := by decide +kernel
theorem dX6_hasBook_6 : decode cX6_hasBook 6 = .ok (.getfield 26, 3) := by decide +kernel
theorem dX6_hasBook_9 : decode cX6_hasBook 9 = .ok (.getfield 91, 3) := by decide +kernel
theorem dX6_hasBook_12 : decode cX6_hasBook 12 = .ok (.if_icmp .ge 7, 3) := by decide +kernel
theorem dX6_hasBook_15 : decode cX6_hasBook 15 = .ok (.iconst 1, 1) := by decide +kernel
theorem dX6_hasBook_16 : decode cX6_hasBook 16 = .ok (.goto 4, 3) := by decide +kernel
theorem dX6_hasBook_19 : decode cX6_hasBook 19 = .ok (.iconst 0, 1) := by decide +kernel
theorem dX6_hasBook_20 : decode cX6_hasBook 20 = .ok (.ireturn, 1) := by decide +kernel
theorem dX6_roomOn_0 : decode cX6_roomOn 0 = .ok (.aload_n 0, 1) := by decide +kernel
theorem dX6_roomOn_1 : decode cX6_roomOn 1 = .ok (.getfield 10, 3) := by decide +kernel
theorem dX6_roomOn_4 : decode cX6_roomOn 4 = .ok (.getfield 168, 3) := by decide +kernel
theorem dX6_roomOn_7 : decode cX6_roomOn 7 = .ok (.iload_n 1, 1) := by decide +kernel
theorem dX6_roomOn_8 : decode cX6_roomOn 8 = .ok (.iaload, 1) := by decide +kernel
theorem dX6_roomOn_9 : decode cX6_roomOn 9 = .ok (.aload_n 0, 1) := by decide +kernel
theorem dX6_roomOn_10 : decode cX6_roomOn 10 = .ok (.getfield 26, 3) := by decide +kernel
theorem dX6_roomOn_13 : decode cX6_roomOn 13 = .ok (.iload_n 1, 1) := by decide +kernel
theorem dX6_roomOn_14 : decode cX6_roomOn 14 = .ok (.invokevirtual 171, 3) := by decide +kernel
theorem dX6_roomOn_17 : decode cX6_roomOn 17 = .ok (.isub, 1) := by decide +kernel
theorem dX6_roomOn_18 : decode cX6_roomOn 18 = .ok (.ireturn, 1) := by decide +kernel
theorem dX6_yearsOn_0 : decode cX6_yearsOn 0 = .ok (.aload_n 0, 1) := by decide +kernel
theorem dX6_yearsOn_1 : decode cX6_yearsOn 1 = .ok (.getfield 26, 3) := by decide +kernel
theorem dX6_yearsOn_4 : decode cX6_yearsOn 4 = .ok (.iload_n 1, 1) := by decide +kernel
theorem dX6_yearsOn_5 : decode cX6_yearsOn 5 = .ok (.invokevirtual 177, 3) := by decide +kernel
theorem dX6_yearsOn_8 : decode cX6_yearsOn 8 = .ok (.istore_n 2, 1) := by decide +kernel
theorem dX6_yearsOn_9 : decode cX6_yearsOn 9 = .ok (.iload_n 2, 1) := by decide +kernel
theorem dX6_yearsOn_10 : decode cX6_yearsOn 10 = .ok (.ifCond .le 19, 3) := by decide +kernel
theorem dX6_yearsOn_13 : decode cX6_yearsOn 13 = .ok (.sipush 999, 3) := by decide +kernel
theorem dX6_yearsOn_16 : decode cX6_yearsOn 16 = .ok (.aload_n 0, 1) := by decide +kernel
theorem dX6_yearsOn_17 : decode cX6_yearsOn 17 = .ok (.iload_n 1, 1) := by decide +kernel
theorem dX6_yearsOn_18 : decode cX6_yearsOn 18 = .ok (.invokevirtual 174, 3) := by decide +kernel
theorem dX6_yearsOn_21 : decode cX6_yearsOn 21 = .ok (.iload_n 2, 1) := by decide +kernel
theorem dX6_yearsOn_22 : decode cX6_yearsOn 22 = .ok (.idiv, 1) := by decide +kernel
theorem dX6_yearsOn_23 : decode cX6_yearsOn 23 = .ok (.invokestatic 217, 3) := by decide +kernel
theorem dX6_yearsOn_26 : decode cX6_yearsOn 26 = .ok (.goto 6, 3) := by decide +kernel
theorem dX6_yearsOn_29 : decode cX6_yearsOn 29 = .ok (.sipush 999, 3) := by decide +kernel
theorem dX6_yearsOn_32 : decode cX6_yearsOn 32 = .ok (.ireturn, 1) := by decide +kernel
theorem dX6_hasCuts_0 : decode cX6_hasCuts 0 = .ok (.iload_n 1, 1) := by decide +kernel
theorem dX6_hasCuts_1 : decode cX6_hasCuts 1 = .ok (.iconst 0, 1) := by decide +kernel
theorem dX6_hasCuts_2 : decode cX6_hasCuts 2 = .ok (.sipush 999, 3) := by decide +kernel
theorem dX6_hasCuts_5 : decode cX6_hasCuts 5 = .ok (.invokestatic 55, 3) := by decide +kernel
theorem dX6_hasCuts_8 : decode cX6_hasCuts 8 = .ok (.ifCond .ne 5, 3) := by decide +kernel
theorem dX6_hasCuts_11 : decode cX6_hasCuts 11 = .ok (.iconst 0, 1) := by decide +kernel
theorem dX6_hasCuts_12 : decode cX6_hasCuts 12 = .ok (.ireturn, 1) := by decide +kernel
theorem dX6_hasCuts_13 : decode cX6_hasCuts 13 = .ok (.aload_n 0, 1) := by decide +kernel
theorem dX6_hasCuts_14 : decode cX6_hasCuts 14 = .ok (.getfield 33, 3) := by decide +kernel
theorem dX6_hasCuts_17 : decode cX6_hasCuts 17 = .ok (.aload_n 0, 1) := by decide +kernel
theorem dX6_hasCuts_18 : decode cX6_hasCuts 18 = .ok (.getfield 10, 3) := by decide +kernel
theorem dX6_hasCuts_21 : decode cX6_hasCuts 21 = .ok (.aload_n 0, 1) := by decide +kernel
theorem dX6_hasCuts_22 : decode cX6_hasCuts 22 = .ok (.getfield 26, 3) := by decide +kernel
theorem dX6_hasCuts_25 : decode cX6_hasCuts 25 = .ok (.iload_n 1, 1) := by decide +kernel
theorem dX6_hasCuts_26 : decode cX6_hasCuts 26 = .ok (.invokevirtual 95, 3) := by decide +kernel
theorem dX6_hasCuts_29 : decode cX6_hasCuts 29 = .ok (.aload_n 0, 1) := by decide +kernel
theorem dX6_hasCuts_30 : decode cX6_hasCuts 30 = .ok (.getfield 33, 3) := by decide +kernel
theorem dX6_hasCuts_33 : decode cX6_hasCuts 33 = .ok (.invokevirtual 102, 3) := by decide +kernel
theorem dX6_hasCuts_36 : decode cX6_hasCuts 36 = .ok (.ireturn, 1) := by decide +kernel
theorem dX6_isRoomFor_0 : decode cX6_isRoomFor 0 = .ok (.aload_n 0, 1) := by decide +kernel
theorem dX6_isRoomFor_1 : decode cX6_isRoomFor 1 = .ok (.getfield 33, 3) := by decide +kernel
theorem dX6_isRoomFor_4 : decode cX6_isRoomFor 4 = .ok (.aload_n 0, 1) := by decide +kernel
theorem dX6_isRoomFor_5 : decode cX6_isRoomFor 5 = .ok (.getfield 10, 3) := by decide +kernel
theorem dX6_isRoomFor_8 : decode cX6_isRoomFor 8 = .ok (.aload_n 0, 1) := by decide +kernel
theorem dX6_isRoomFor_9 : decode cX6_isRoomFor 9 = .ok (.getfield 26, 3) := by decide +kernel
theorem dX6_isRoomFor_12 : decode cX6_isRoomFor 12 = .ok (.iload_n 1, 1) := by decide +kernel
theorem dX6_isRoomFor_13 : decode cX6_isRoomFor 13 = .ok (.invokevirtual 95, 3) := by decide +kernel
theorem dX6_isRoomFor_16 : decode cX6_isRoomFor 16 = .ok (.aload_n 0, 1) := by decide +kernel
theorem dX6_isRoomFor_17 : decode cX6_isRoomFor 17 = .ok (.getfield 33, 3) := by decide +kernel
theorem dX6_isRoomFor_20 : decode cX6_isRoomFor 20 = .ok (.iload_n 2, 1) := by decide +kernel
theorem dX6_isRoomFor_21 : decode cX6_isRoomFor 21 = .ok (.invokevirtual 235, 3) := by decide +kernel
theorem dX6_isRoomFor_24 : decode cX6_isRoomFor 24 = .ok (.iconst (-1), 1) := by decide +kernel
theorem dX6_isRoomFor_25 : decode cX6_isRoomFor 25 = .ok (.if_icmp .eq 7, 3) := by decide +kernel
theorem dX6_isRoomFor_28 : decode cX6_isRoomFor 28 = .ok (.iconst 1, 1) := by decide +kernel
theorem dX6_isRoomFor_29 : decode cX6_isRoomFor 29 = .ok (.goto 4, 3) := by decide +kernel
theorem dX6_isRoomFor_32 : decode cX6_isRoomFor 32 = .ok (.iconst 0, 1) := by decide +kernel
theorem dX6_isRoomFor_33 : decode cX6_isRoomFor 33 = .ok (.ireturn, 1) := by decide +kernel
theorem dX6_moveAtOnce_0 : decode cX6_moveAtOnce 0 = .ok (.aload_n 0, 1) := by decide +kernel
theorem dX6_moveAtOnce_1 : decode cX6_moveAtOnce 1 = .ok (.getfield 40, 3) := by decide +kernel
theorem dX6_moveAtOnce_4 : decode cX6_moveAtOnce 4 = .ok (.aload_n 0, 1) := by decide +kernel
theorem dX6_moveAtOnce_5 : decode cX6_moveAtOnce 5 = .ok (.getfield 26, 3) := by decide +kernel
theorem dX6_moveAtOnce_8 : decode cX6_moveAtOnce 8 = .ok (.aload_n 0, 1) := by decide +kernel
theorem dX6_moveAtOnce_9 : decode cX6_moveAtOnce 9 = .ok (.getfield 33, 3) := by decide +kernel
theorem dX6_moveAtOnce_12 : decode cX6_moveAtOnce 12 = .ok (.getfield 106, 3) := by decide +kernel
theorem dX6_moveAtOnce_15 : decode cX6_moveAtOnce 15 = .ok (.iconst 0, 1) := by decide +kernel
theorem dX6_moveAtOnce_16 : decode cX6_moveAtOnce 16 = .ok (.invokevirtual 238, 3) := by decide +kernel
theorem dX6_moveAtOnce_19 : decode cX6_moveAtOnce 19 = .ok (.aload_n 0, 1) := by decide +kernel
theorem dX6_moveAtOnce_20 : decode cX6_moveAtOnce 20 = .ok (.getfield 40, 3) := by decide +kernel
theorem dX6_moveAtOnce_23 : decode cX6_moveAtOnce 23 = .ok (.getfield 145, 3) := by decide +kernel
theorem dX6_moveAtOnce_26 : decode cX6_moveAtOnce 26 = .ok (.istore_n 1, 1) := by decide +kernel
theorem dX6_moveAtOnce_27 : decode cX6_moveAtOnce 27 = .ok (.iconst 0, 1) := by decide +kernel
theorem dX6_moveAtOnce_28 : decode cX6_moveAtOnce 28 = .ok (.istore_n 2, 1) := by decide +kernel
theorem dX6_moveAtOnce_29 : decode cX6_moveAtOnce 29 = .ok (.iload_n 2, 1) := by decide +kernel
theorem dX6_moveAtOnce_30 : decode cX6_moveAtOnce 30 = .ok (.iload_n 1, 1) := by decide +kernel
theorem dX6_moveAtOnce_31 : decode cX6_moveAtOnce 31 = .ok (.if_icmp .ge 14, 3) := by decide +kernel
theorem dX6_moveAtOnce_34 : decode cX6_moveAtOnce 34 = .ok (.aload_n 0, 1) := by decide +kernel
theorem dX6_moveAtOnce_35 : decode cX6_moveAtOnce 35 = .ok (.invokevirtual 242, 3) := by decide +kernel
theorem dX6_moveAtOnce_38 : decode cX6_moveAtOnce 38 = .ok (.pop, 1) := by decide +kernel
theorem dX6_moveAtOnce_39 : decode cX6_moveAtOnce 39 = .ok (.iinc 2 1, 3) := by decide +kernel
end
section
theorem dX6_moveAtOnce_42 : decode cX6_moveAtOnce 42 = .ok (.goto (-13), 3) := by decide +kernel
theorem dX6_moveAtOnce_45 : decode cX6_moveAtOnce 45 = .ok (.return_, 1) := by decide +kernel
theorem dX6_makeNextMove_0 : decode cX6_makeNextMove 0 = .ok (.aload_n 0, 1) := by decide +kernel
theorem dX6_makeNextMove_1 : decode cX6_makeNextMove 1 = .ok (.getfield 40, 3) := by decide +kernel
theorem dX6_makeNextMove_4 : decode cX6_makeNextMove 4 = .ok (.getfield 148, 3) := by decide +kernel
theorem dX6_makeNextMove_7 : decode cX6_makeNextMove 7 = .ok (.istore_n 1, 1) := by decide +kernel
theorem dX6_makeNextMove_8 : decode cX6_makeNextMove 8 = .ok (.aload_n 0, 1) := by decide +kernel
theorem dX6_makeNextMove_9 : decode cX6_makeNextMove 9 = .ok (.getfield 40, 3) := by decide +kernel
theorem dX6_makeNextMove_12 : decode cX6_makeNextMove 12 = .ok (.getfield 248, 3) := by decide +kernel
theorem dX6_makeNextMove_15 : decode cX6_makeNextMove 15 = .ok (.iload_n 1, 1) := by decide +kernel
theorem dX6_makeNextMove_16 : decode cX6_makeNextMove 16 = .ok (.iaload, 1) := by decide +kernel
theorem dX6_makeNextMove_17 : decode cX6_makeNextMove 17 = .ok (.istore_n 2, 1) := by decide +kernel
theorem dX6_makeNextMove_18 : decode cX6_makeNextMove 18 = .ok (.aload_n 0, 1) := by decide +kernel
theorem dX6_makeNextMove_19 : decode cX6_makeNextMove 19 = .ok (.getfield 47, 3) := by decide +kernel
theorem dX6_makeNextMove_22 : decode cX6_makeNextMove 22 = .ok (.aload_n 0, 1) := by decide +kernel
theorem dX6_makeNextMove_23 : decode cX6_makeNextMove 23 = .ok (.getfield 40, 3) := by decide +kernel
theorem dX6_makeNextMove_26 : decode cX6_makeNextMove 26 = .ok (.iload_n 1, 1) := by decide +kernel
theorem dX6_makeNextMove_27 : decode cX6_makeNextMove 27 = .ok (.invokevirtual 257, 3) := by decide +kernel
theorem dX6_makeNextMove_30 : decode cX6_makeNextMove 30 = .ok (.iload_n 2, 1) := by decide +kernel
theorem dX6_makeNextMove_31 : decode cX6_makeNextMove 31 = .ok (.aload_n 0, 1) := by decide +kernel
theorem dX6_makeNextMove_32 : decode cX6_makeNextMove 32 = .ok (.getfield 40, 3) := by decide +kernel
theorem dX6_makeNextMove_35 : decode cX6_makeNextMove 35 = .ok (.getfield 279, 3) := by decide +kernel
theorem dX6_makeNextMove_38 : decode cX6_makeNextMove 38 = .ok (.iload_n 1, 1) := by decide +kernel
theorem dX6_makeNextMove_39 : decode cX6_makeNextMove 39 = .ok (.iaload, 1) := by decide +kernel
theorem dX6_makeNextMove_40 : decode cX6_makeNextMove 40 = .ok (.aload_n 0, 1) := by decide +kernel
theorem dX6_makeNextMove_41 : decode cX6_makeNextMove 41 = .ok (.getfield 40, 3) := by decide +kernel
theorem dX6_makeNextMove_44 : decode cX6_makeNextMove 44 = .ok (.getfield 251, 3) := by decide +kernel
theorem dX6_makeNextMove_47 : decode cX6_makeNextMove 47 = .ok (.iload_n 1, 1) := by decide +kernel
theorem dX6_makeNextMove_48 : decode cX6_makeNextMove 48 = .ok (.iaload, 1) := by decide +kernel
theorem dX6_makeNextMove_49 : decode cX6_makeNextMove 49 = .ok (.aload_n 0, 1) := by decide +kernel
theorem dX6_makeNextMove_50 : decode cX6_makeNextMove 50 = .ok (.getfield 40, 3) := by decide +kernel
theorem dX6_makeNextMove_53 : decode cX6_makeNextMove 53 = .ok (.getfield 254, 3) := by decide +kernel
theorem dX6_makeNextMove_56 : decode cX6_makeNextMove 56 = .ok (.iload_n 1, 1) := by decide +kernel
theorem dX6_makeNextMove_57 : decode cX6_makeNextMove 57 = .ok (.iaload, 1) := by decide +kernel
theorem dX6_makeNextMove_58 : decode cX6_makeNextMove 58 = .ok (.invokevirtual 119, 3) := by decide +kernel
theorem dX6_makeNextMove_61 : decode cX6_makeNextMove 61 = .ok (.aload_n 0, 1) := by decide +kernel
theorem dX6_makeNextMove_62 : decode cX6_makeNextMove 62 = .ok (.getfield 26, 3) := by decide +kernel
theorem dX6_makeNextMove_65 : decode cX6_makeNextMove 65 = .ok (.iload_n 2, 1) := by decide +kernel
theorem dX6_makeNextMove_66 : decode cX6_makeNextMove 66 = .ok (.aload_n 0, 1) := by decide +kernel
theorem dX6_makeNextMove_67 : decode cX6_makeNextMove 67 = .ok (.getfield 40, 3) := by decide +kernel
theorem dX6_makeNextMove_70 : decode cX6_makeNextMove 70 = .ok (.getfield 254, 3) := by decide +kernel
theorem dX6_makeNextMove_73 : decode cX6_makeNextMove 73 = .ok (.iload_n 1, 1) := by decide +kernel
theorem dX6_makeNextMove_74 : decode cX6_makeNextMove 74 = .ok (.iaload, 1) := by decide +kernel
theorem dX6_makeNextMove_75 : decode cX6_makeNextMove 75 = .ok (.invokevirtual 280, 3) := by decide +kernel
theorem dX6_makeNextMove_78 : decode cX6_makeNextMove 78 = .ok (.aload_n 0, 1) := by decide +kernel
theorem dX6_makeNextMove_79 : decode cX6_makeNextMove 79 = .ok (.getfield 40, 3) := by decide +kernel
theorem dX6_makeNextMove_82 : decode cX6_makeNextMove 82 = .ok (.invokevirtual 283, 3) := by decide +kernel
theorem dX6_makeNextMove_85 : decode cX6_makeNextMove 85 = .ok (.iload_n 2, 1) := by decide +kernel
theorem dX6_makeNextMove_86 : decode cX6_makeNextMove 86 = .ok (.ireturn, 1) := by decide +kernel
theorem dX7_init_0 : decode cX7_init 0 = .ok (.aload_n 0, 1) := by decide +kernel
theorem dX7_init_1 : decode cX7_init 1 = .ok (.invokespecial 1, 3) := by decide +kernel
theorem dX7_init_4 : decode cX7_init 4 = .ok (.aload_n 0, 1) := by decide +kernel
theorem dX7_init_5 : decode cX7_init 5 = .ok (.bipush 12, 2) := by decide +kernel
theorem dX7_init_7 : decode cX7_init 7 = .ok (.newarray .int, 2) := by decide +kernel
theorem dX7_init_9 : decode cX7_init 9 = .ok (.putfield 7, 3) := by decide +kernel
theorem dX7_init_12 : decode cX7_init 12 = .ok (.aload_n 0, 1) := by decide +kernel
theorem dX7_init_13 : decode cX7_init 13 = .ok (.bipush 12, 2) := by decide +kernel
theorem dX7_init_15 : decode cX7_init 15 = .ok (.newarray .int, 2) := by decide +kernel
theorem dX7_init_17 : decode cX7_init 17 = .ok (.putfield 13, 3) := by decide +kernel
theorem dX7_init_20 : decode cX7_init 20 = .ok (.aload_n 0, 1) := by decide +kernel
theorem dX7_init_21 : decode cX7_init 21 = .ok (.bipush 8, 2) := by decide +kernel
theorem dX7_init_23 : decode cX7_init 23 = .ok (.newarray .int, 2) := by decide +kernel
theorem dX7_init_25 : decode cX7_init 25 = .ok (.putfield 16, 3) := by decide +kernel
theorem dX7_init_28 : decode cX7_init 28 = .ok (.aload_n 0, 1) := by decide +kernel
theorem dX7_init_29 : decode cX7_init 29 = .ok (.bipush 61, 2) := by decide +kernel
theorem dX7_init_31 : decode cX7_init 31 = .ok (.newarray .int, 2) := by decide +kernel
theorem dX7_init_33 : decode cX7_init 33 = .ok (.putfield 19, 3) := by decide +kernel
theorem dX7_init_36 : decode cX7_init 36 = .ok (.aload_n 0, 1) := by decide +kernel
theorem dX7_init_37 : decode cX7_init 37 = .ok (.bipush 61, 2) := by decide +kernel
theorem dX7_init_39 : decode cX7_init 39 = .ok (.newarray .int, 2) := by decide +kernel
theorem dX7_init_41 : decode cX7_init 41 = .ok (.putfield 22, 3) := by decide +kernel
theorem dX7_init_44 : decode cX7_init 44 = .ok (.aload_n 0, 1) := by decide +kernel
theorem dX7_init_45 : decode cX7_init 45 = .ok (.bipush 61, 2) := by decide +kernel
theorem dX7_init_47 : decode cX7_init 47 = .ok (.newarray .int, 2) := by decide +kernel
theorem dX7_init_49 : decode cX7_init 49 = .ok (.putfield 25, 3) := by decide +kernel
theorem dX7_init_52 : decode cX7_init 52 = .ok (.aload_n 0, 1) := by decide +kernel
theorem dX7_init_53 : decode cX7_init 53 = .ok (.bipush 61, 2) := by decide +kernel
theorem dX7_init_55 : decode cX7_init 55 = .ok (.newarray .int, 2) := by decide +kernel
theorem dX7_init_57 : decode cX7_init 57 = .ok (.putfield 28, 3) := by decide +kernel
theorem dX7_init_60 : decode cX7_init 60 = .ok (.aload_n 0, 1) := by decide +kernel
theorem dX7_init_61 : decode cX7_init 61 = .ok (.bipush 100, 2) := by decide +kernel
theorem dX7_init_63 : decode cX7_init 63 = .ok (.putfield 31, 3) := by decide +kernel
theorem dX7_init_66 : decode cX7_init 66 = .ok (.aload_n 0, 1) := by decide +kernel
theorem dX7_init_67 : decode cX7_init 67 = .ok (.sipush 200, 3) := by decide +kernel
theorem dX7_init_70 : decode cX7_init 70 = .ok (.newarray .int, 2) := by decide +kernel
theorem dX7_init_72 : decode cX7_init 72 = .ok (.putfield 35, 3) := by decide +kernel
theorem dX7_init_75 : decode cX7_init 75 = .ok (.aload_n 0, 1) := by decide +kernel
theorem dX7_init_76 : decode cX7_init 76 = .ok (.bipush 61, 2) := by decide +kernel
theorem dX7_init_78 : decode cX7_init 78 = .ok (.newarray .int, 2) := by decide +kernel
theorem dX7_init_80 : decode cX7_init 80 = .ok (.putfield 38, 3) := by decide +kernel
theorem dX7_init_83 : decode cX7_init 83 = .ok (.aload_n 0, 1) := by decide +kernel
theorem dX7_init_84 : decode cX7_init 84 = .ok (.bipush 61, 2) := by decide +kernel
theorem dX7_init_86 : decode cX7_init 86 = .ok (.newarray .int, 2) := by decide +kernel
theorem dX7_init_88 : decode cX7_init 88 = .ok (.putfield 41, 3) := by decide +kernel
theorem dX7_init_91 : decode cX7_init 91 = .ok (.aload_n 0, 1) := by decide +kernel
theorem dX7_init_92 : decode cX7_init 92 = .ok (.sipush 793, 3) := by decide +kernel
theorem dX7_init_95 : decode cX7_init 95 = .ok (.newarray .int, 2) := by decide +kernel
theorem dX7_init_97 : decode cX7_init 97 = .ok (.putfield 44, 3) := by decide +kernel
theorem dX7_init_100 : decode cX7_init 100 = .ok (.aload_n 0, 1) := by decide +kernel
theorem dX7_init_101 : decode cX7_init 101 = .ok (.bipush 12, 2) := by decide +kernel
theorem dX7_init_103 : decode cX7_init 103 = .ok (.newarray .int, 2) := by decide +kernel
theorem dX7_init_105 : decode cX7_init 105 = .ok (.putfield 47, 3) := by decide +kernel
theorem dX7_init_108 : decode cX7_init 108 = .ok (.aload_n 0, 1) := by decide +kernel
theorem dX7_init_109 : decode cX7_init 109 = .ok (.bipush 61, 2) := by decide +kernel
theorem dX7_init_111 : decode cX7_init 111 = .ok (.newarray .int, 2) := by decide +kernel
theorem dX7_init_113 : decode cX7_init 113 = .ok (.putfield 50, 3) := by decide +kernel
theorem dX7_init_116 : decode cX7_init 116 = .ok (.aload_n 0, 1) := by decide +kernel
theorem dX7_init_117 : decode cX7_init 117 = .ok (.bipush 61, 2) := by decide +kernel
theorem dX7_init_119 : decode cX7_init 119 = .ok (.newarray .int, 2) := by decide +kernel
theorem dX7_init_121 : decode cX7_init 121 = .ok (.putfield 53, 3) := by decide +kernel
theorem dX7_init_124 : decode cX7_init 124 = .ok (.aload_n 0, 1) := by decide +kernel
theorem dX7_init_125 : decode cX7_init 125 = .ok (.bipush 60, 2) := by decide +kernel
theorem dX7_init_127 : decode cX7_init 127 = .ok (.newarray .int, 2) := by decide +kernel
theorem dX7_init_129 : decode cX7_init 129 = .ok (.putfield 56, 3) := by decide +kernel
theorem dX7_init_132 : decode cX7_init 132 = .ok (.aload_n 0, 1) := by decide +kernel
theorem dX7_init_133 : decode cX7_init 133 = .ok (.bipush 60, 2) := by decide +kernel
theorem dX7_init_135 : decode cX7_init 135 = .ok (.newarray .int, 2) := by decide +kernel
theorem dX7_init_137 : decode cX7_init 137 = .ok (.putfield 59, 3) := by decide +kernel
theorem dX7_init_140 : decode cX7_init 140 = .ok (.aload_n 0, 1) := by decide +kernel
theorem dX7_init_141 : decode cX7_init 141 = .ok (.bipush 60, 2) := by decide +kernel
theorem dX7_init_143 : decode cX7_init 143 = .ok (.newarray .int, 2) := by decide +kernel
theorem dX7_init_145 : decode cX7_init 145 = .ok (.putfield 62, 3) := by decide +kernel
theorem dX7_init_148 : decode cX7_init 148 = .ok (.aload_n 0, 1) := by decide +kernel
theorem dX7_init_149 : decode cX7_init 149 = .ok (.bipush 60, 2) := by decide +kernel
theorem dX7_init_151 : decode cX7_init 151 = .ok (.newarray .int, 2) := by decide +kernel
theorem dX7_init_153 : decode cX7_init 153 = .ok (.putfield 65, 3) := by decide +kernel
theorem dX7_init_156 : decode cX7_init 156 = .ok (.return_, 1) := by decide +kernel
theorem dX7_thrown_0 : decode cX7_thrown 0 = .ok (.aload_n 0, 1) := by decide +kernel
theorem dX7_thrown_1 : decode cX7_thrown 1 = .ok (.getfield 68, 3) := by decide +kernel
theorem dX7_thrown_4 : decode cX7_thrown 4 = .ok (.ireturn, 1) := by decide +kernel
theorem dX7_isIn_0 : decode cX7_isIn 0 = .ok (.iload_n 0, 1) := by decide +kernel
theorem dX7_isIn_1 : decode cX7_isIn 1 = .ok (.iload_n 1, 1) := by decide +kernel
theorem dX7_isIn_2 : decode cX7_isIn 2 = .ok (.if_icmp .lt 12, 3) := by decide +kernel
theorem dX7_isIn_5 : decode cX7_isIn 5 = .ok (.iload_n 0, 1) := by decide +kernel
theorem dX7_isIn_6 : decode cX7_isIn 6 = .ok (.iload_n 2, 1) := by decide +kernel
theorem dX7_isIn_7 : decode cX7_isIn 7 = .ok (.if_icmp .gt 7, 3) := by decide +kernel
theorem dX7_isIn_10 : decode cX7_isIn 10 = .ok (.iconst 1, 1) := by decide +kernel
theorem dX7_isIn_11 : decode cX7_isIn 11 = .ok (.goto 4, 3) := by decide +kernel
theorem dX7_isIn_14 : decode cX7_isIn 14 = .ok (.iconst 0, 1) := by decide +kernel
theorem dX7_isIn_15 : decode cX7_isIn 15 = .ok (.ireturn, 1) := by decide +kernel
theorem dX7_isShelf_0 : decode cX7_isShelf 0 = .ok (.iload_n 1, 1) := by decide +kernel
theorem dX7_isShelf_1 : decode cX7_isShelf 1 = .ok (.iconst 0, 1) := by decide +kernel
theorem dX7_isShelf_2 : decode cX7_isShelf 2 = .ok (.aload_n 0, 1) := by decide +kernel
theorem dX7_isShelf_3 : decode cX7_isShelf 3 = .ok (.getfield 71, 3) := by decide +kernel
theorem dX7_isShelf_6 : decode cX7_isShelf 6 = .ok (.iconst 1, 1) := by decide +kernel
theorem dX7_isShelf_7 : decode cX7_isShelf 7 = .ok (.isub, 1) := by decide +kernel
theorem dX7_isShelf_8 : decode cX7_isShelf 8 = .ok (.invokestatic 74, 3) := by decide +kernel
theorem dX7_isShelf_11 : decode cX7_isShelf 11 = .ok (.ireturn, 1) := by decide +kernel
theorem dX7_isGroup_0 : decode cX7_isGroup 0 = .ok (.iload_n 1, 1) := by decide +kernel
theorem dX7_isGroup_1 : decode cX7_isGroup 1 = .ok (.iconst 0, 1) := by decide +kernel
theorem dX7_isGroup_2 : decode cX7_isGroup 2 = .ok (.aload_n 0, 1) := by decide +kernel
theorem dX7_isGroup_3 : decode cX7_isGroup 3 = .ok (.getfield 78, 3) := by decide +kernel
theorem dX7_isGroup_6 : decode cX7_isGroup 6 = .ok (.iconst 1, 1) := by decide +kernel
theorem dX7_isGroup_7 : decode cX7_isGroup 7 = .ok (.isub, 1) := by decide +kernel
theorem dX7_isGroup_8 : decode cX7_isGroup 8 = .ok (.invokestatic 74, 3) := by decide +kernel
theorem dX7_isGroup_11 : decode cX7_isGroup 11 = .ok (.ireturn, 1) := by decide +kernel
theorem dX7_isBook_0 : decode cX7_isBook 0 = .ok (.iload_n 1, 1) := by decide +kernel
theorem dX7_isBook_1 : decode cX7_isBook 1 = .ok (.iconst 0, 1) := by decide +kernel
theorem dX7_isBook_2 : decode cX7_isBook 2 = .ok (.aload_n 0, 1) := by decide +kernel
theorem dX7_isBook_3 : decode cX7_isBook 3 = .ok (.getfield 81, 3) := by decide +kernel
theorem dX7_isBook_6 : decode cX7_isBook 6 = .ok (.iconst 1, 1) := by decide +kernel
theorem dX7_isBook_7 : decode cX7_isBook 7 = .ok (.isub, 1) := by decide +kernel
theorem dX7_isBook_8 : decode cX7_isBook 8 = .ok (.invokestatic 74, 3) := by decide +kernel
theorem dX7_isBook_11 : decode cX7_isBook 11 = .ok (.ireturn, 1) := by decide +kernel
theorem dX7_notes_0 : decode cX7_notes 0 = .ok (.aload_n 0, 1) := by decide +kernel
theorem dX7_notes_1 : decode cX7_notes 1 = .ok (.getfield 84, 3) := by decide +kernel
theorem dX7_notes_4 : decode cX7_notes 4 = .ok (.bipush 40, 2) := by decide +kernel
theorem dX7_notes_6 : decode cX7_notes 6 = .ok (.if_icmp .ne 46, 3) := by decide +kernel
theorem dX7_notes_9 : decode cX7_notes 9 = .ok (.iconst 0, 1) := by decide +kernel
theorem dX7_notes_10 : decode cX7_notes 10 = .ok (.istore 5, 2) := by decide +kernel
theorem dX7_notes_12 : decode cX7_notes 12 = .ok (.iload 5, 2) := by decide +kernel
theorem dX7_notes_14 : decode cX7_notes 14 = .ok (.sipush 195, 3) := by decide +kernel
theorem dX7_notes_17 : decode cX7_notes 17 = .ok (.if_icmp .ge 25, 3) := by decide +kernel
theorem dX7_notes_20 : decode cX7_notes 20 = .ok (.aload_n 0, 1) := by decide +kernel
theorem dX7_notes_21 : decode cX7_notes 21 = .ok (.getfield 35, 3) := by decide +kernel
theorem dX7_notes_24 : decode cX7_notes 24 = .ok (.iload 5, 2) := by decide +kernel
theorem dX7_notes_26 : decode cX7_notes 26 = .ok (.aload_n 0, 1) := by decide +kernel
theorem dX7_notes_27 : decode cX7_notes 27 = .ok (.getfield 35, 3) := by decide +kernel
theorem dX7_notes_30 : decode cX7_notes 30 = .ok (.iload 5, 2) := by decide +kernel
theorem dX7_notes_32 : decode cX7_notes 32 = .ok (.iconst 5, 1) := by decide +kernel
theorem dX7_notes_33 : decode cX7_notes 33 = .ok (.iadd, 1) := by decide +kernel
theorem dX7_notes_34 : decode cX7_notes 34 = .ok (.iaload, 1) := by decide +kernel
theorem dX7_notes_35 : decode cX7_notes 35 = .ok (.iastore, 1) := by decide +kernel
theorem dX7_notes_36 : decode cX7_notes 36 = .ok (.iinc 5 1, 3) := by decide +kernel
theorem dX7_notes_39 : decode cX7_notes 39 = .ok (.goto (-27), 3) := by decide +kernel
theorem dX7_notes_42 : decode cX7_notes 42 = .ok (.aload_n 0, 1) := by decide +kernel
theorem dX7_notes_43 : decode cX7_notes 43 = .ok (.dup, 1) := by decide +kernel
theorem dX7_notes_44 : decode cX7_notes 44 = .ok (.getfield 84, 3) := by decide +kernel
theorem dX7_notes_47 : decode cX7_notes 47 = .ok (.iconst 1, 1) := by decide +kernel
theorem dX7_notes_48 : decode cX7_notes 48 = .ok (.isub, 1) := by decide +kernel
theorem dX7_notes_49 : decode cX7_notes 49 = .ok (.putfield 84, 3) := by decide +kernel
theorem dX7_notes_52 : decode cX7_notes 52 = .ok (.iconst 5, 1) := by decide +kernel
theorem dX7_notes_53 : decode cX7_notes 53 = .ok (.aload_n 0, 1) := by decide +kernel
theorem dX7_notes_54 : decode cX7_notes 54 = .ok (.getfield 84, 3) := by decide +kernel
theorem dX7_notes_57 : decode cX7_notes 57 = .ok (.imul, 1) := by decide +kernel
theorem dX7_notes_58 : decode cX7_notes 58 = .ok (.istore 5, 2) := by decide +kernel
theorem dX7_notes_60 : decode cX7_notes 60 = .ok (.aload_n 0, 1) := by decide +kernel
theorem dX7_notes_61 : decode cX7_notes 61 = .ok (.getfield 35, 3) := by decide +kernel
theorem dX7_notes_64 : decode cX7_notes 64 = .ok (.iload 5, 2) := by decide +kernel
theorem dX7_notes_66 : decode cX7_notes 66 = .ok (.iload_n 1, 1) := by decide +kernel
theorem dX7_notes_67 : decode cX7_notes 67 = .ok (.iastore, 1) := by decide +kernel
theorem dX7_notes_68 : decode cX7_notes 68 = .ok (.aload_n 0, 1) := by decide +kernel
theorem dX7_notes_69 : decode cX7_notes 69 = .ok (.getfield 35, 3) := by decide +kernel
theorem dX7_notes_72 : decode cX7_notes 72 = .ok (.iload 5, 2) := by decide +kernel
theorem dX7_notes_74 : decode cX7_notes 74 = .ok (.iconst 1, 1) := by decide +kernel
theorem dX7_notes_75 : decode cX7_notes 75 = .ok (.iadd, 1) := by decide +kernel
theorem dX7_notes_76 : decode cX7_notes 76 = .ok (.iload_n 2, 1) := by decide +kernel
theorem dX7_notes_77 : decode cX7_notes 77 = .ok (.iastore, 1) := by decide +kernel
theorem dX7_notes_78 : decode cX7_notes 78 = .ok (.aload_n 0, 1) := by decide +kernel
theorem dX7_notes_79 : decode cX7_notes 79 = .ok (.getfield 35, 3) := by decide +kernel
theorem dX7_notes_82 : decode cX7_notes 82 = .ok (.iload 5, 2) := by decide +kernel
theorem dX7_notes_84 : decode cX7_notes 84 = .ok (.iconst 2, 1) := by decide +kernel
theorem dX7_notes_85 : decode cX7_notes 85 = .ok (.iadd, 1) := by decide +kernel
theorem dX7_notes_86 : decode cX7_notes 86 = .ok (.aload_n 0, 1) := by decide +kernel
theorem dX7_notes_87 : decode cX7_notes 87 = .ok (.getfield 22, 3) := by decide +kernel
theorem dX7_notes_90 : decode cX7_notes 90 = .ok (.iload_n 2, 1) := by decide +kernel
theorem dX7_notes_91 : decode cX7_notes 91 = .ok (.iaload, 1) := by decide +kernel
theorem dX7_notes_92 : decode cX7_notes 92 = .ok (.iastore, 1) := by decide +kernel
theorem dX7_notes_93 : decode cX7_notes 93 = .ok (.aload_n 0, 1) := by decide +kernel
theorem dX7_notes_94 : decode cX7_notes 94 = .ok (.getfield 35, 3) := by decide +kernel
theorem dX7_notes_97 : decode cX7_notes 97 = .ok (.iload 5, 2) := by decide +kernel
theorem dX7_notes_99 : decode cX7_notes 99 = .ok (.iconst 3, 1) := by decide +kernel
theorem dX7_notes_100 : decode cX7_notes 100 = .ok (.iadd, 1) := by decide +kernel
theorem dX7_notes_101 : decode cX7_notes 101 = .ok (.iload_n 3, 1) := by decide +kernel
theorem dX7_notes_102 : decode cX7_notes 102 = .ok (.iastore, 1) := by decide +kernel
theorem dX7_notes_103 : decode cX7_notes 103 = .ok (.aload_n 0, 1) := by decide +kernel
theorem dX7_notes_104 : decode cX7_notes 104 = .ok (.getfield 35, 3) := by decide +kernel
theorem dX7_notes_107 : decode cX7_notes 107 = .ok (.iload 5, 2) := by decide +kernel
theorem dX7_notes_109 : decode cX7_notes 109 = .ok (.iconst 4, 1) := by decide +kernel
theorem dX7_notes_110 : decode cX7_notes 110 = .ok (.iadd, 1) := by decide +kernel
theorem dX7_notes_111 : decode cX7_notes 111 = .ok (.iload 4, 2) := by decide +kernel
theorem dX7_notes_113 : decode cX7_notes 113 = .ok (.iastore, 1) := by decide +kernel
theorem dX7_notes_114 : decode cX7_notes 114 = .ok (.aload_n 0, 1) := by decide +kernel
theorem dX7_notes_115 : decode cX7_notes 115 = .ok (.dup, 1) := by decide +kernel
theorem dX7_notes_116 : decode cX7_notes 116 = .ok (.getfield 84, 3) := by decide +kernel
theorem dX7_notes_119 : decode cX7_notes 119 = .ok (.iconst 1, 1) := by decide +kernel
theorem dX7_notes_120 : decode cX7_notes 120 = .ok (.iadd, 1) := by decide +kernel
theorem dX7_notes_121 : decode cX7_notes 121 = .ok (.putfield 84, 3) := by decide +kernel
theorem dX7_notes_124 : decode cX7_notes 124 = .ok (.return_, 1) := by decide +kernel
theorem dX7_log_0 : decode cX7_log 0 = .ok (.aload_n 0, 1) := by decide +kernel
theorem dX7_log_1 : decode cX7_log 1 = .ok (.iconst 0, 1) := by decide +kernel
theorem dX7_log_2 : decode cX7_log 2 = .ok (.putfield 68, 3) := by decide +kernel
theorem dX7_log_5 : decode cX7_log 5 = .ok (.iload_n 1, 1) := by decide +kernel
theorem dX7_log_6 : decode cX7_log 6 = .ok (.iconst 0, 1) := by decide +kernel
theorem dX7_log_7 : decode cX7_log 7 = .ok (.aload_n 0, 1) := by decide +kernel
theorem dX7_log_8 : decode cX7_log 8 = .ok (.getfield 84, 3) := by decide +kernel
theorem dX7_log_11 : decode cX7_log 11 = .ok (.iconst 1, 1) := by decide +kernel
theorem dX7_log_12 : decode cX7_log 12 = .ok (.isub, 1) := by decide +kernel
theorem dX7_log_13 : decode cX7_log 13 = .ok (.invokestatic 74, 3) := by decide +kernel
theorem dX7_log_16 : decode cX7_log 16 = .ok (.ifCond .eq 32, 3) := by decide +kernel
theorem dX7_log_19 : decode cX7_log 19 = .ok (.iload_n 2, 1) := by decide +kernel
theorem dX7_log_20 : decode cX7_log 20 = .ok (.iconst 0, 1) := by decide +kernel
theorem dX7_log_21 : decode cX7_log 21 = .ok (.iconst 4, 1) := by decide +kernel
theorem dX7_log_22 : decode cX7_log 22 = .ok (.invokestatic 74, 3) := by decide +kernel
theorem dX7_log_25 : decode cX7_log 25 = .ok (.ifCond .eq 23, 3) := by decide +kernel
theorem dX7_log_28 : decode cX7_log 28 = .ok (.aload_n 0, 1) := by decide +kernel
theorem dX7_log_29 : decode cX7_log 29 = .ok (.getfield 35, 3) := by decide +kernel
theorem dX7_log_32 : decode cX7_log 32 = .ok (.iconst 5, 1) := by decide +kernel
theorem dX7_log_33 : decode cX7_log 33 = .ok (.aload_n 0, 1) := by decide +kernel
theorem dX7_log_34 : decode cX7_log 34 = .ok (.getfield 84, 3) := by decide +kernel
theorem dX7_log_37 : decode cX7_log 37 = .ok (.iconst 1, 1) := by decide +kernel
theorem dX7_log_38 : decode cX7_log 38 = .ok (.isub, 1) := by decide +kernel
theorem dX7_log_39 : decode cX7_log 39 = .ok (.iload_n 1, 1) := by decide +kernel
theorem dX7_log_40 : decode cX7_log 40 = .ok (.isub, 1) := by decide +kernel
theorem dX7_log_41 : decode cX7_log 41 = .ok (.imul, 1) := by decide +kernel
theorem dX7_log_42 : decode cX7_log 42 = .ok (.iload_n 2, 1) := by decide +kernel
theorem dX7_log_43 : decode cX7_log 43 = .ok (.iadd, 1) := by decide +kernel
theorem dX7_log_44 : decode cX7_log 44 = .ok (.iaload, 1) := by decide +kernel
theorem dX7_log_45 : decode cX7_log 45 = .ok (.goto 4, 3) := by decide +kernel
theorem dX7_log_48 : decode cX7_log 48 = .ok (.iconst (-1), 1) := by decide +kernel
theorem dX7_log_49 : decode cX7_log 49 = .ok (.ireturn, 1) := by decide +kernel
theorem dX7_widthOf_0 : decode cX7_widthOf 0 = .ok (.iconst 0, 1) := by decide +kernel
theorem dX7_widthOf_1 : decode cX7_widthOf 1 = .ok (.istore_n 2, 1) := by decide +kernel
theorem dX7_widthOf_2 : decode cX7_widthOf 2 = .ok (.iconst 0, 1) := by decide +kernel
theorem dX7_widthOf_3 : decode cX7_widthOf 3 = .ok (.istore_n 3, 1) := by decide +kernel
theorem dX7_widthOf_4 : decode cX7_widthOf 4 = .ok (.iload_n 3, 1) := by decide +kernel
theorem dX7_widthOf_5 : decode cX7_widthOf 5 = .ok (.aload_n 0, 1) := by decide +kernel
theorem dX7_widthOf_6 : decode cX7_widthOf 6 = .ok (.getfield 81, 3) := by decide +kernel
theorem dX7_widthOf_9 : decode cX7_widthOf 9 = .ok (.if_icmp .ge 32, 3) := by decide +kernel
theorem dX7_widthOf_12 : decode cX7_widthOf 12 = .ok (.iload_n 2, 1) := by decide +kernel
theorem dX7_widthOf_13 : decode cX7_widthOf 13 = .ok (.aload_n 0, 1) := by decide +kernel
theorem dX7_widthOf_14 : decode cX7_widthOf 14 = .ok (.getfield 19, 3) := by decide +kernel
theorem dX7_widthOf_17 : decode cX7_widthOf 17 = .ok (.iload_n 3, 1) := by decide +kernel
theorem dX7_widthOf_18 : decode cX7_widthOf 18 = .ok (.iaload, 1) := by decide +kernel
theorem dX7_widthOf_19 : decode cX7_widthOf 19 = .ok (.iload_n 1, 1) := by decide +kernel
theorem dX7_widthOf_20 : decode cX7_widthOf 20 = .ok (.if_icmp .ne 12, 3) := by decide +kernel
theorem dX7_widthOf_23 : decode cX7_widthOf 23 = .ok (.aload_n 0, 1) := by decide +kernel
theorem dX7_widthOf_24 : decode cX7_widthOf 24 = .ok (.getfield 22, 3) := by decide +kernel
theorem dX7_widthOf_27 : decode cX7_widthOf 27 = .ok (.iload_n 3, 1) := by decide +kernel
theorem dX7_widthOf_28 : decode cX7_widthOf 28 = .ok (.iaload, 1) := by decide +kernel
theorem dX7_widthOf_29 : decode cX7_widthOf 29 = .ok (.goto 4, 3) := by decide +kernel
theorem dX7_widthOf_32 : decode cX7_widthOf 32 = .ok (.iconst 0, 1) := by decide +kernel
theorem dX7_widthOf_33 : decode cX7_widthOf 33 = .ok (.iadd, 1) := by decide +kernel
theorem dX7_widthOf_34 : decode cX7_widthOf 34 = .ok (.istore_n 2, 1) := by decide +kernel
theorem dX7_widthOf_35 : decode cX7_widthOf 35 = .ok (.iinc 3 1, 3) := by decide +kernel
theorem dX7_widthOf_38 : decode cX7_widthOf 38 = .ok (.goto (-34), 3) := by decide +kernel
theorem dX7_widthOf_41 : decode cX7_widthOf 41 = .ok (.iload_n 2, 1) := by decide +kernel
theorem dX7_widthOf_42 : decode cX7_widthOf 42 = .ok (.ireturn, 1) := by decide +kernel
theorem dX7_laysNeeds_0 : decode cX7_laysNeeds 0 = .ok (.iconst 0, 1) := by decide +kernel
theorem dX7_laysNeeds_1 : decode cX7_laysNeeds 1 = .ok (.istore_n 1, 1) := by decide +kernel
theorem dX7_laysNeeds_2 : decode cX7_laysNeeds 2 = .ok (.iload_n 1, 1) := by decide +kernel
theorem dX7_laysNeeds_3 : decode cX7_laysNeeds 3 = .ok (.aload_n 0, 1) := by decide +kernel
theorem dX7_laysNeeds_4 : decode cX7_laysNeeds 4 = .ok (.getfield 78, 3) := by decide +kernel
theorem dX7_laysNeeds_7 : decode cX7_laysNeeds 7 = .ok (.if_icmp .ge 204, 3) := by decide +kernel
theorem dX7_laysNeeds_10 : decode cX7_laysNeeds 10 = .ok (.aload_n 0, 1) := by decide +kernel
theorem dX7_laysNeeds_11 : decode cX7_laysNeeds 11 = .ok (.iload_n 1, 1) := by decide +kernel
theorem dX7_laysNeeds_12 : decode cX7_laysNeeds 12 = .ok (.invokevirtual 87, 3) := by decide +kernel
theorem dX7_laysNeeds_15 : decode cX7_laysNeeds 15 = .ok (.istore_n 2, 1) := by decide +kernel
theorem dX7_laysNeeds_16 : decode cX7_laysNeeds 16 = .ok (.aload_n 0, 1) := by decide +kernel
theorem dX7_laysNeeds_17 : decode cX7_laysNeeds 17 = .ok (.getfield 16, 3) := by decide +kernel
theorem dX7_laysNeeds_20 : decode cX7_laysNeeds 20 = .ok (.iload_n 1, 1) := by decide +kernel
theorem dX7_laysNeeds_21 : decode cX7_laysNeeds 21 = .ok (.iaload, 1) := by decide +kernel
theorem dX7_laysNeeds_22 : decode cX7_laysNeeds 22 = .ok (.istore_n 3, 1) := by decide +kernel
theorem dX7_laysNeeds_23 : decode cX7_laysNeeds 23 = .ok (.iconst 0, 1) := by decide +kernel
theorem dX7_laysNeeds_24 : decode cX7_laysNeeds 24 = .ok (.istore 4, 2) := by decide +kernel
theorem dX7_laysNeeds_26 : decode cX7_laysNeeds 26 = .ok (.iload 4, 2) := by decide +kernel
theorem dX7_laysNeeds_28 : decode cX7_laysNeeds 28 = .ok (.aload_n 0, 1) := by decide +kernel
theorem dX7_laysNeeds_29 : decode cX7_laysNeeds 29 = .ok (.getfield 81, 3) := by decide +kernel
theorem dX7_laysNeeds_32 : decode cX7_laysNeeds 32 = .ok (.if_icmp .ge 76, 3) := by decide +kernel
theorem dX7_laysNeeds_35 : decode cX7_laysNeeds 35 = .ok (.aload_n 0, 1) := by decide +kernel
theorem dX7_laysNeeds_36 : decode cX7_laysNeeds 36 = .ok (.getfield 19, 3) := by decide +kernel
theorem dX7_laysNeeds_39 : decode cX7_laysNeeds 39 = .ok (.iload 4, 2) := by decide +kernel
theorem dX7_laysNeeds_41 : decode cX7_laysNeeds 41 = .ok (.iaload, 1) := by decide +kernel
theorem dX7_laysNeeds_42 : decode cX7_laysNeeds 42 = .ok (.iload_n 1, 1) := by decide +kernel
theorem dX7_laysNeeds_43 : decode cX7_laysNeeds 43 = .ok (.if_icmp .ne 59, 3) := by decide +kernel
theorem dX7_laysNeeds_46 : decode cX7_laysNeeds 46 = .ok (.aload_n 0, 1) := by decide +kernel
theorem dX7_laysNeeds_47 : decode cX7_laysNeeds 47 = .ok (.getfield 38, 3) := by decide +kernel
theorem dX7_laysNeeds_50 : decode cX7_laysNeeds 50 = .ok (.iload 4, 2) := by decide +kernel
theorem dX7_laysNeeds_52 : decode cX7_laysNeeds 52 = .ok (.aload_n 0, 1) := by decide +kernel
theorem dX7_laysNeeds_53 : decode cX7_laysNeeds 53 = .ok (.getfield 16, 3) := by decide +kernel
theorem dX7_laysNeeds_56 : decode cX7_laysNeeds 56 = .ok (.iload_n 1, 1) := by decide +kernel
theorem dX7_laysNeeds_57 : decode cX7_laysNeeds 57 = .ok (.iaload, 1) := by decide +kernel
theorem dX7_laysNeeds_58 : decode cX7_laysNeeds 58 = .ok (.aload_n 0, 1) := by decide +kernel
theorem dX7_laysNeeds_59 : decode cX7_laysNeeds 59 = .ok (.getfield 22, 3) := by decide +kernel
theorem dX7_laysNeeds_62 : decode cX7_laysNeeds 62 = .ok (.iload 4, 2) := by decide +kernel
theorem dX7_laysNeeds_64 : decode cX7_laysNeeds 64 = .ok (.iaload, 1) := by decide +kernel
theorem dX7_laysNeeds_65 : decode cX7_laysNeeds 65 = .ok (.imul, 1) := by decide +kernel
theorem dX7_laysNeeds_66 : decode cX7_laysNeeds 66 = .ok (.iload_n 2, 1) := by decide +kernel
theorem dX7_laysNeeds_67 : decode cX7_laysNeeds 67 = .ok (.idiv, 1) := by decide +kernel
theorem dX7_laysNeeds_68 : decode cX7_laysNeeds 68 = .ok (.iastore, 1) := by decide +kernel
theorem dX7_laysNeeds_69 : decode cX7_laysNeeds 69 = .ok (.aload_n 0, 1) := by decide +kernel
theorem dX7_laysNeeds_70 : decode cX7_laysNeeds 70 = .ok (.getfield 41, 3) := by decide +kernel
theorem dX7_laysNeeds_73 : decode cX7_laysNeeds 73 = .ok (.iload 4, 2) := by decide +kernel
theorem dX7_laysNeeds_75 : decode cX7_laysNeeds 75 = .ok (.aload_n 0, 1) := by decide +kernel
theorem dX7_laysNeeds_76 : decode cX7_laysNeeds 76 = .ok (.getfield 16, 3) := by decide +kernel
theorem dX7_laysNeeds_79 : decode cX7_laysNeeds 79 = .ok (.iload_n 1, 1) := by decide +kernel
theorem dX7_laysNeeds_80 : decode cX7_laysNeeds 80 = .ok (.iaload, 1) := by decide +kernel
theorem dX7_laysNeeds_81 : decode cX7_laysNeeds 81 = .ok (.aload_n 0, 1) := by decide +kernel
theorem dX7_laysNeeds_82 : decode cX7_laysNeeds 82 = .ok (.getfield 22, 3) := by decide +kernel
theorem dX7_laysNeeds_85 : decode cX7_laysNeeds 85 = .ok (.iload 4, 2) := by decide +kernel
theorem dX7_laysNeeds_87 : decode cX7_laysNeeds 87 = .ok (.iaload, 1) := by decide +kernel
theorem dX7_laysNeeds_88 : decode cX7_laysNeeds 88 = .ok (.imul, 1) := by decide +kernel
theorem dX7_laysNeeds_89 : decode cX7_laysNeeds 89 = .ok (.iload_n 2, 1) := by decide +kernel
theorem dX7_laysNeeds_90 : decode cX7_laysNeeds 90 = .ok (.irem, 1) := by decide +kernel
theorem dX7_laysNeeds_91 : decode cX7_laysNeeds 91 = .ok (.iastore, 1) := by decide +kernel
theorem dX7_laysNeeds_92 : decode cX7_laysNeeds 92 = .ok (.iload_n 3, 1) := by decide +kernel
theorem dX7_laysNeeds_93 : decode cX7_laysNeeds 93 = .ok (.aload_n 0, 1) := by decide +kernel
theorem dX7_laysNeeds_94 : decode cX7_laysNeeds 94 = .ok (.getfield 38, 3) := by decide +kernel
theorem dX7_laysNeeds_97 : decode cX7_laysNeeds 97 = .ok (.iload 4, 2) := by decide +kernel
theorem dX7_laysNeeds_99 : decode cX7_laysNeeds 99 = .ok (.iaload, 1) := by decide +kernel
theorem dX7_laysNeeds_100 : decode cX7_laysNeeds 100 = .ok (.isub, 1) := by decide +kernel
theorem dX7_laysNeeds_101 : decode cX7_laysNeeds 101 = .ok (.istore_n 3, 1) := by decide +kernel
theorem dX7_laysNeeds_102 : decode cX7_laysNeeds 102 = .ok (.iinc 4 1, 3) := by decide +kernel
theorem dX7_laysNeeds_105 : decode cX7_laysNeeds 105 = .ok (.goto (-79), 3) := by decide +kernel
theorem dX7_laysNeeds_108 : decode cX7_laysNeeds 108 = .ok (.iload_n 2, 1) := by decide +kernel
theorem dX7_laysNeeds_109 : decode cX7_laysNeeds 109 = .ok (.ifCond .le 96, 3) := by decide +kernel
theorem dX7_laysNeeds_112 : decode cX7_laysNeeds 112 = .ok (.iload_n 3, 1) := by decide +kernel
theorem dX7_laysNeeds_113 : decode cX7_laysNeeds 113 = .ok (.ifCond .le 92, 3) := by decide +kernel
theorem dX7_laysNeeds_116 : decode cX7_laysNeeds 116 = .ok (.iconst (-1), 1) := by decide +kernel
theorem dX7_laysNeeds_117 : decode cX7_laysNeeds 117 = .ok (.istore 4, 2) := by decide +kernel
theorem dX7_laysNeeds_119 : decode cX7_laysNeeds 119 = .ok (.iconst 0, 1) := by decide +kernel
theorem dX7_laysNeeds_120 : decode cX7_laysNeeds 120 = .ok (.istore 5, 2) := by decide +kernel
theorem dX7_laysNeeds_122 : decode cX7_laysNeeds 122 = .ok (.iload 5, 2) := by decide +kernel
theorem dX7_laysNeeds_124 : decode cX7_laysNeeds 124 = .ok (.aload_n 0, 1) := by decide +kernel
theorem dX7_laysNeeds_125 : decode cX7_laysNeeds 125 = .ok (.getfield 81, 3) := by decide +kernel
theorem dX7_laysNeeds_128 : decode cX7_laysNeeds 128 = .ok (.if_icmp .ge 52, 3) := by decide +kernel
theorem dX7_laysNeeds_131 : decode cX7_laysNeeds 131 = .ok (.aload_n 0, 1) := by decide +kernel
theorem dX7_laysNeeds_132 : decode cX7_laysNeeds 132 = .ok (.getfield 19, 3) := by decide +kernel
theorem dX7_laysNeeds_135 : decode cX7_laysNeeds 135 = .ok (.iload 5, 2) := by decide +kernel
theorem dX7_laysNeeds_137 : decode cX7_laysNeeds 137 = .ok (.iaload, 1) := by decide +kernel
theorem dX7_laysNeeds_138 : decode cX7_laysNeeds 138 = .ok (.iload_n 1, 1) := by decide +kernel
theorem dX7_laysNeeds_139 : decode cX7_laysNeeds 139 = .ok (.if_icmp .ne 31, 3) := by decide +kernel
theorem dX7_laysNeeds_142 : decode cX7_laysNeeds 142 = .ok (.iload 4, 2) := by decide +kernel
theorem dX7_laysNeeds_144 : decode cX7_laysNeeds 144 = .ok (.iconst (-1), 1) := by decide +kernel
theorem dX7_laysNeeds_145 : decode cX7_laysNeeds 145 = .ok (.if_icmp .eq 20, 3) := by decide +kernel
theorem dX7_laysNeeds_148 : decode cX7_laysNeeds 148 = .ok (.aload_n 0, 1) := by decide +kernel
theorem dX7_laysNeeds_149 : decode cX7_laysNeeds 149 = .ok (.getfield 41, 3) := by decide +kernel
theorem dX7_laysNeeds_152 : decode cX7_laysNeeds 152 = .ok (.iload 5, 2) := by decide +kernel
theorem dX7_laysNeeds_154 : decode cX7_laysNeeds 154 = .ok (.iaload, 1) := by decide +kernel
theorem dX7_laysNeeds_155 : decode cX7_laysNeeds 155 = .ok (.aload_n 0, 1) := by decide +kernel
theorem dX7_laysNeeds_156 : decode cX7_laysNeeds 156 = .ok (.getfield 41, 3) := by decide +kernel
theorem dX7_laysNeeds_159 : decode cX7_laysNeeds 159 = .ok (.iload 4, 2) := by decide +kernel
theorem dX7_laysNeeds_161 : decode cX7_laysNeeds 161 = .ok (.iaload, 1) := by decide +kernel
theorem dX7_laysNeeds_162 : decode cX7_laysNeeds 162 = .ok (.if_icmp .le 8, 3) := by decide +kernel
theorem dX7_laysNeeds_165 : decode cX7_laysNeeds 165 = .ok (.iload 5, 2) := by decide +kernel
theorem dX7_laysNeeds_167 : decode cX7_laysNeeds 167 = .ok (.goto 5, 3) := by decide +kernel
theorem dX7_laysNeeds_170 : decode cX7_laysNeeds 170 = .ok (.iload 4, 2) := by decide +kernel
theorem dX7_laysNeeds_172 : decode cX7_laysNeeds 172 = .ok (.istore 4, 2) := by decide +kernel
theorem dX7_laysNeeds_174 : decode cX7_laysNeeds 174 = .ok (.iinc 5 1, 3) := by decide +kernel
theorem dX7_laysNeeds_177 : decode cX7_laysNeeds 177 = .ok (.goto (-55), 3) := by decide +kernel
theorem dX7_laysNeeds_180 : decode cX7_laysNeeds 180 = .ok (.aload_n 0, 1) := by decide +kernel
theorem dX7_laysNeeds_181 : decode cX7_laysNeeds 181 = .ok (.getfield 38, 3) := by decide +kernel
theorem dX7_laysNeeds_184 : decode cX7_laysNeeds 184 = .ok (.iload 4, 2) := by decide +kernel
theorem dX7_laysNeeds_186 : decode cX7_laysNeeds 186 = .ok (.dup2, 1) := by decide +kernel
theorem dX7_laysNeeds_187 : decode cX7_laysNeeds 187 = .ok (.iaload, 1) := by decide +kernel
theorem dX7_laysNeeds_188 : decode cX7_laysNeeds 188 = .ok (.iconst 1, 1) := by decide +kernel
theorem dX7_laysNeeds_189 : decode cX7_laysNeeds 189 = .ok (.iadd, 1) := by decide +kernel
theorem dX7_laysNeeds_190 : decode cX7_laysNeeds 190 = .ok (.iastore, 1) := by decide +kernel
theorem dX7_laysNeeds_191 : decode cX7_laysNeeds 191 = .ok (.aload_n 0, 1) := by decide +kernel
theorem dX7_laysNeeds_192 : decode cX7_laysNeeds 192 = .ok (.getfield 41, 3) := by decide +kernel
theorem dX7_laysNeeds_195 : decode cX7_laysNeeds 195 = .ok (.iload 4, 2) := by decide +kernel
theorem dX7_laysNeeds_197 : decode cX7_laysNeeds 197 = .ok (.iconst (-1), 1) := by decide +kernel
theorem dX7_laysNeeds_198 : decode cX7_laysNeeds 198 = .ok (.iastore, 1) := by decide +kernel
theorem dX7_laysNeeds_199 : decode cX7_laysNeeds 199 = .ok (.iinc 3 (-1), 3) := by decide +kernel
theorem dX7_laysNeeds_202 : decode cX7_laysNeeds 202 = .ok (.goto (-94), 3) := by decide +kernel
theorem dX7_laysNeeds_205 : decode cX7_laysNeeds 205 = .ok (.iinc 1 1, 3) := by decide +kernel
theorem dX7_laysNeeds_208 : decode cX7_laysNeeds 208 = .ok (.goto (-206), 3) := by decide +kernel
theorem dX7_laysNeeds_211 : decode cX7_laysNeeds 211 = .ok (.return_, 1) := by decide +kernel
theorem dX7_loadOf_0 : decode cX7_loadOf 0 = .ok (.iconst 0, 1) := by decide +kernel
theorem dX7_loadOf_1 : decode cX7_loadOf 1 = .ok (.istore_n 2, 1) := by decide +kernel
theorem dX7_loadOf_2 : decode cX7_loadOf 2 = .ok (.iconst 0, 1) := by decide +kernel
theorem dX7_loadOf_3 : decode cX7_loadOf 3 = .ok (.istore_n 3, 1) := by decide +kernel
theorem dX7_loadOf_4 : decode cX7_loadOf 4 = .ok (.iload_n 3, 1) := by decide +kernel
theorem dX7_loadOf_5 : decode cX7_loadOf 5 = .ok (.aload_n 0, 1) := by decide +kernel
theorem dX7_loadOf_6 : decode cX7_loadOf 6 = .ok (.getfield 81, 3) := by decide +kernel
theorem dX7_loadOf_9 : decode cX7_loadOf 9 = .ok (.if_icmp .ge 32, 3) := by decide +kernel
theorem dX7_loadOf_12 : decode cX7_loadOf 12 = .ok (.iload_n 2, 1) := by decide +kernel
theorem dX7_loadOf_13 : decode cX7_loadOf 13 = .ok (.aload_n 0, 1) := by decide +kernel
theorem dX7_loadOf_14 : decode cX7_loadOf 14 = .ok (.getfield 25, 3) := by decide +kernel
theorem dX7_loadOf_17 : decode cX7_loadOf 17 = .ok (.iload_n 3, 1) := by decide +kernel
theorem dX7_loadOf_18 : decode cX7_loadOf 18 = .ok (.iaload, 1) := by decide +kernel
theorem dX7_loadOf_19 : decode cX7_loadOf 19 = .ok (.iload_n 1, 1) := by decide +kernel
theorem dX7_loadOf_20 : decode cX7_loadOf 20 = .ok (.if_icmp .ne 12, 3) := by decide +kernel
theorem dX7_loadOf_23 : decode cX7_loadOf 23 = .ok (.aload_n 0, 1) := by decide +kernel
theorem dX7_loadOf_24 : decode cX7_loadOf 24 = .ok (.getfield 22, 3) := by decide +kernel
theorem dX7_loadOf_27 : decode cX7_loadOf 27 = .ok (.iload_n 3, 1) := by decide +kernel
theorem dX7_loadOf_28 : decode cX7_loadOf 28 = .ok (.iaload, 1) := by decide +kernel
theorem dX7_loadOf_29 : decode cX7_loadOf 29 = .ok (.goto 4, 3) := by decide +kernel
theorem dX7_loadOf_32 : decode cX7_loadOf 32 = .ok (.iconst 0, 1) := by decide +kernel
theorem dX7_loadOf_33 : decode cX7_loadOf 33 = .ok (.iadd, 1) := by decide +kernel
theorem dX7_loadOf_34 : decode cX7_loadOf 34 = .ok (.istore_n 2, 1) := by decide +kernel
theorem dX7_loadOf_35 : decode cX7_loadOf 35 = .ok (.iinc 3 1, 3) := by decide +kernel
theorem dX7_loadOf_38 : decode cX7_loadOf 38 = .ok (.goto (-34), 3) := by decide +kernel
theorem dX7_loadOf_41 : decode cX7_loadOf 41 = .ok (.iload_n 2, 1) := by decide +kernel
theorem dX7_loadOf_42 : decode cX7_loadOf 42 = .ok (.ireturn, 1) := by decide +kernel
theorem dX7_rateOf_0 : decode cX7_rateOf 0 = .ok (.aload_n 0, 1) := by decide +kernel
theorem dX7_rateOf_1 : decode cX7_rateOf 1 = .ok (.invokevirtual 91, 3) := by decide +kernel
theorem dX7_rateOf_4 : decode cX7_rateOf 4 = .ok (.iconst 0, 1) := by decide +kernel
theorem dX7_rateOf_5 : decode cX7_rateOf 5 = .ok (.istore_n 2, 1) := by decide +kernel
theorem dX7_rateOf_6 : decode cX7_rateOf 6 = .ok (.iconst 0, 1) := by decide +kernel
theorem dX7_rateOf_7 : decode cX7_rateOf 7 = .ok (.istore_n 3, 1) := by decide +kernel
theorem dX7_rateOf_8 : decode cX7_rateOf 8 = .ok (.iload_n 3, 1) := by decide +kernel
theorem dX7_rateOf_9 : decode cX7_rateOf 9 = .ok (.aload_n 0, 1) := by decide +kernel
theorem dX7_rateOf_10 : decode cX7_rateOf 10 = .ok (.getfield 81, 3) := by decide +kernel
theorem dX7_rateOf_13 : decode cX7_rateOf 13 = .ok (.if_icmp .ge 32, 3) := by decide +kernel
theorem dX7_rateOf_16 : decode cX7_rateOf 16 = .ok (.iload_n 2, 1) := by decide +kernel
theorem dX7_rateOf_17 : decode cX7_rateOf 17 = .ok (.aload_n 0, 1) := by decide +kernel
theorem dX7_rateOf_18 : decode cX7_rateOf 18 = .ok (.getfield 25, 3) := by decide +kernel
theorem dX7_rateOf_21 : decode cX7_rateOf 21 = .ok (.iload_n 3, 1) := by decide +kernel
theorem dX7_rateOf_22 : decode cX7_rateOf 22 = .ok (.iaload, 1) := by decide +kernel
theorem dX7_rateOf_23 : decode cX7_rateOf 23 = .ok (.iload_n 1, 1) := by decide +kernel
theorem dX7_rateOf_24 : decode cX7_rateOf 24 = .ok (.if_icmp .ne 12, 3) := by decide +kernel
theorem dX7_rateOf_27 : decode cX7_rateOf 27 = .ok (.aload_n 0, 1) := by decide +kernel
theorem dX7_rateOf_28 : decode cX7_rateOf 28 = .ok (.getfield 38, 3) := by decide +kernel
theorem dX7_rateOf_31 : decode cX7_rateOf 31 = .ok (.iload_n 3, 1) := by decide +kernel
theorem dX7_rateOf_32 : decode cX7_rateOf 32 = .ok (.iaload, 1) := by decide +kernel
theorem dX7_rateOf_33 : decode cX7_rateOf 33 = .ok (.goto 4, 3) := by decide +kernel
theorem dX7_rateOf_36 : decode cX7_rateOf 36 = .ok (.iconst 0, 1) := by decide +kernel
theorem dX7_rateOf_37 : decode cX7_rateOf 37 = .ok (.iadd, 1) := by decide +kernel
theorem dX7_rateOf_38 : decode cX7_rateOf 38 = .ok (.istore_n 2, 1) := by decide +kernel
theorem dX7_rateOf_39 : decode cX7_rateOf 39 = .ok (.iinc 3 1, 3) := by decide +kernel
theorem dX7_rateOf_42 : decode cX7_rateOf 42 = .ok (.goto (-34), 3) := by decide +kernel
theorem dX7_rateOf_45 : decode cX7_rateOf 45 = .ok (.iload_n 2, 1) := by decide +kernel
theorem dX7_rateOf_46 : decode cX7_rateOf 46 = .ok (.ireturn, 1) := by decide +kernel
theorem dX7_lastsOf_0 : decode cX7_lastsOf 0 = .ok (.aload_n 0, 1) := by decide +kernel
theorem dX7_lastsOf_1 : decode cX7_lastsOf 1 = .ok (.iload_n 1, 1) := by decide +kernel
theorem dX7_lastsOf_2 : decode cX7_lastsOf 2 = .ok (.invokevirtual 94, 3) := by decide +kernel
theorem dX7_lastsOf_5 : decode cX7_lastsOf 5 = .ok (.istore_n 2, 1) := by decide +kernel
theorem dX7_lastsOf_6 : decode cX7_lastsOf 6 = .ok (.iload_n 2, 1) := by decide +kernel
theorem dX7_lastsOf_7 : decode cX7_lastsOf 7 = .ok (.ifCond .ne 9, 3) := by decide +kernel
theorem dX7_lastsOf_10 : decode cX7_lastsOf 10 = .ok (.sipush 999, 3) := by decide +kernel
theorem dX7_lastsOf_13 : decode cX7_lastsOf 13 = .ok (.goto 17, 3) := by decide +kernel
theorem dX7_lastsOf_16 : decode cX7_lastsOf 16 = .ok (.aload_n 0, 1) := by decide +kernel
theorem dX7_lastsOf_17 : decode cX7_lastsOf 17 = .ok (.getfield 7, 3) := by decide +kernel
theorem dX7_lastsOf_20 : decode cX7_lastsOf 20 = .ok (.iload_n 1, 1) := by decide +kernel
theorem dX7_lastsOf_21 : decode cX7_lastsOf 21 = .ok (.iaload, 1) := by decide +kernel
theorem dX7_lastsOf_22 : decode cX7_lastsOf 22 = .ok (.aload_n 0, 1) := by decide +kernel
theorem dX7_lastsOf_23 : decode cX7_lastsOf 23 = .ok (.iload_n 1, 1) := by decide +kernel
theorem dX7_lastsOf_24 : decode cX7_lastsOf 24 = .ok (.invokevirtual 97, 3) := by decide +kernel
theorem dX7_lastsOf_27 : decode cX7_lastsOf 27 = .ok (.isub, 1) := by decide +kernel
theorem dX7_lastsOf_28 : decode cX7_lastsOf 28 = .ok (.iload_n 2, 1) := by decide +kernel
theorem dX7_lastsOf_29 : decode cX7_lastsOf 29 = .ok (.idiv, 1) := by decide +kernel
theorem dX7_lastsOf_30 : decode cX7_lastsOf 30 = .ok (.istore_n 3, 1) := by decide +kernel
theorem dX7_lastsOf_31 : decode cX7_lastsOf 31 = .ok (.iload_n 3, 1) := by decide +kernel
theorem dX7_lastsOf_32 : decode cX7_lastsOf 32 = .ok (.sipush 999, 3) := by decide +kernel
theorem dX7_lastsOf_35 : decode cX7_lastsOf 35 = .ok (.if_icmp .le 9, 3) := by decide +kernel
theorem dX7_lastsOf_38 : decode cX7_lastsOf 38 = .ok (.sipush 999, 3) := by decide +kernel
theorem dX7_lastsOf_41 : decode cX7_lastsOf 41 = .ok (.goto 4, 3) := by decide +kernel
theorem dX7_lastsOf_44 : decode cX7_lastsOf 44 = .ok (.iload_n 3, 1) := by decide +kernel
theorem dX7_lastsOf_45 : decode cX7_lastsOf 45 = .ok (.ireturn, 1) := by decide +kernel
theorem dX7_firstOn_0 : decode cX7_firstOn 0 = .ok (.iconst 0, 1) := by decide +kernel
theorem dX7_firstOn_1 : decode cX7_firstOn 1 = .ok (.istore_n 2, 1) := by decide +kernel
theorem dX7_firstOn_2 : decode cX7_firstOn 2 = .ok (.iload_n 2, 1) := by decide +kernel
theorem dX7_firstOn_3 : decode cX7_firstOn 3 = .ok (.aload_n 0, 1) := by decide +kernel
theorem dX7_firstOn_4 : decode cX7_firstOn 4 = .ok (.getfield 81, 3) := by decide +kernel
theorem dX7_firstOn_7 : decode cX7_firstOn 7 = .ok (.if_icmp .ge 21, 3) := by decide +kernel
theorem dX7_firstOn_10 : decode cX7_firstOn 10 = .ok (.aload_n 0, 1) := by decide +kernel
theorem dX7_firstOn_11 : decode cX7_firstOn 11 = .ok (.getfield 25, 3) := by decide +kernel
theorem dX7_firstOn_14 : decode cX7_firstOn 14 = .ok (.iload_n 2, 1) := by decide +kernel
theorem dX7_firstOn_15 : decode cX7_firstOn 15 = .ok (.iaload, 1) := by decide +kernel
theorem dX7_firstOn_16 : decode cX7_firstOn 16 = .ok (.iload_n 1, 1) := by decide +kernel
theorem dX7_firstOn_17 : decode cX7_firstOn 17 = .ok (.if_icmp .ne 5, 3) := by decide +kernel
theorem dX7_firstOn_20 : decode cX7_firstOn 20 = .ok (.iload_n 2, 1) := by decide +kernel
theorem dX7_firstOn_21 : decode cX7_firstOn 21 = .ok (.ireturn, 1) := by decide +kernel
theorem dX7_firstOn_22 : decode cX7_firstOn 22 = .ok (.iinc 2 1, 3) := by decide +kernel
theorem dX7_firstOn_25 : decode cX7_firstOn 25 = .ok (.goto (-23), 3) := by decide +kernel
theorem dX7_firstOn_28 : decode cX7_firstOn 28 = .ok (.iconst (-1), 1) := by decide +kernel
theorem dX7_firstOn_29 : decode cX7_firstOn 29 = .ok (.ireturn, 1) := by decide +kernel
theorem dX7_manyOn_0 : decode cX7_manyOn 0 = .ok (.iconst 0, 1) := by decide +kernel
theorem dX7_manyOn_1 : decode cX7_manyOn 1 = .ok (.istore_n 2, 1) := by decide +kernel
theorem dX7_manyOn_2 : decode cX7_manyOn 2 = .ok (.iconst 0, 1) := by decide +kernel
theorem dX7_manyOn_3 : decode cX7_manyOn 3 = .ok (.istore_n 3, 1) := by decide +kernel
theorem dX7_manyOn_4 : decode cX7_manyOn 4 = .ok (.iload_n 3, 1) := by decide +kernel
theorem dX7_manyOn_5 : decode cX7_manyOn 5 = .ok (.aload_n 0, 1) := by decide +kernel
theorem dX7_manyOn_6 : decode cX7_manyOn 6 = .ok (.getfield 81, 3) := by decide +kernel
theorem dX7_manyOn_9 : decode cX7_manyOn 9 = .ok (.if_icmp .ge 27, 3) := by decide +kernel
theorem dX7_manyOn_12 : decode cX7_manyOn 12 = .ok (.iload_n 2, 1) := by decide +kernel
theorem dX7_manyOn_13 : decode cX7_manyOn 13 = .ok (.aload_n 0, 1) := by decide +kernel
theorem dX7_manyOn_14 : decode cX7_manyOn 14 = .ok (.getfield 25, 3) := by decide +kernel
theorem dX7_manyOn_17 : decode cX7_manyOn 17 = .ok (.iload_n 3, 1) := by decide +kernel
theorem dX7_manyOn_18 : decode cX7_manyOn 18 = .ok (.iaload, 1) := by decide +kernel
theorem dX7_manyOn_19 : decode cX7_manyOn 19 = .ok (.iload_n 1, 1) := by decide +kernel
theorem dX7_manyOn_20 : decode cX7_manyOn 20 = .ok (.if_icmp .ne 7, 3) := by decide +kernel
theorem dX7_manyOn_23 : decode cX7_manyOn 23 = .ok (.iconst 1, 1) := by decide +kernel
theorem dX7_manyOn_24 : decode cX7_manyOn 24 = .ok (.goto 4, 3) := by decide +kernel
theorem dX7_manyOn_27 : decode cX7_manyOn 27 = .ok (.iconst 0, 1) := by decide +kernel
theorem dX7_manyOn_28 : decode cX7_manyOn 28 = .ok (.iadd, 1) := by decide +kernel
theorem dX7_manyOn_29 : decode cX7_manyOn 29 = .ok (.istore_n 2, 1) := by decide +kernel
theorem dX7_manyOn_30 : decode cX7_manyOn 30 = .ok (.iinc 3 1, 3) := by decide +kernel
theorem dX7_manyOn_33 : decode cX7_manyOn 33 = .ok (.goto (-29), 3) := by decide +kernel
theorem dX7_manyOn_36 : decode cX7_manyOn 36 = .ok (.iload_n 2, 1) := by decide +kernel
theorem dX7_manyOn_37 : decode cX7_manyOn 37 = .ok (.ireturn, 1) := by decide +kernel
theorem dX7_cell_0 : decode cX7_cell 0 = .ok (.bipush 61, 2) := by decide +kernel
theorem dX7_cell_2 : decode cX7_cell 2 = .ok (.iload_n 1, 1) := by decide +kernel
theorem dX7_cell_3 : decode cX7_cell 3 = .ok (.imul, 1) := by decide +kernel
theorem dX7_cell_4 : decode cX7_cell 4 = .ok (.iload_n 2, 1) := by decide +kernel
theorem dX7_cell_5 : decode cX7_cell 5 = .ok (.iadd, 1) := by decide +kernel
theorem dX7_cell_6 : decode cX7_cell 6 = .ok (.ireturn, 1) := by decide +kernel
theorem dX7_costOf_0 : decode cX7_costOf 0 = .ok (.iload_n 3, 1) := by decide +kernel
theorem dX7_costOf_1 : decode cX7_costOf 1 = .ok (.ifCond .le 18, 3) := by decide +kernel
theorem dX7_costOf_4 : decode cX7_costOf 4 = .ok (.aload_n 0, 1) := by decide +kernel
theorem dX7_costOf_5 : decode cX7_costOf 5 = .ok (.getfield 13, 3) := by decide +kernel
theorem dX7_costOf_8 : decode cX7_costOf 8 = .ok (.iload_n 1, 1) := by decide +kernel
theorem dX7_costOf_9 : decode cX7_costOf 9 = .ok (.iaload, 1) := by decide +kernel
theorem dX7_costOf_10 : decode cX7_costOf 10 = .ok (.iconst 1, 1) := by decide +kernel
theorem dX7_costOf_11 : decode cX7_costOf 11 = .ok (.if_icmp .ne 8, 3) := by decide +kernel
theorem dX7_costOf_14 : decode cX7_costOf 14 = .ok (.ldc 100, 2) := by decide +kernel
theorem dX7_costOf_16 : decode cX7_costOf 16 = .ok (.goto 4, 3) := by decide +kernel
theorem dX7_costOf_19 : decode cX7_costOf 19 = .ok (.iconst 0, 1) := by decide +kernel
theorem dX7_costOf_20 : decode cX7_costOf 20 = .ok (.istore 4, 2) := by decide +kernel
theorem dX7_costOf_22 : decode cX7_costOf 22 = .ok (.iload_n 2, 1) := by decide +kernel
theorem dX7_costOf_23 : decode cX7_costOf 23 = .ok (.istore 5, 2) := by decide +kernel
theorem dX7_costOf_25 : decode cX7_costOf 25 = .ok (.iload 5, 2) := by decide +kernel
theorem dX7_costOf_27 : decode cX7_costOf 27 = .ok (.iload_n 2, 1) := by decide +kernel
theorem dX7_costOf_28 : decode cX7_costOf 28 = .ok (.iload_n 3, 1) := by decide +kernel
theorem dX7_costOf_29 : decode cX7_costOf 29 = .ok (.iadd, 1) := by decide +kernel
theorem dX7_costOf_30 : decode cX7_costOf 30 = .ok (.if_icmp .ge 52, 3) := by decide +kernel
theorem dX7_costOf_33 : decode cX7_costOf 33 = .ok (.iload 4, 2) := by decide +kernel
theorem dX7_costOf_35 : decode cX7_costOf 35 = .ok (.aload_n 0, 1) := by decide +kernel
theorem dX7_costOf_36 : decode cX7_costOf 36 = .ok (.getfield 25, 3) := by decide +kernel
theorem dX7_costOf_39 : decode cX7_costOf 39 = .ok (.iload 5, 2) := by decide +kernel
theorem dX7_costOf_41 : decode cX7_costOf 41 = .ok (.iaload, 1) := by decide +kernel
theorem dX7_costOf_42 : decode cX7_costOf 42 = .ok (.iload_n 1, 1) := by decide +kernel
theorem dX7_costOf_43 : decode cX7_costOf 43 = .ok (.if_icmp .eq 29, 3) := by decide +kernel
theorem dX7_costOf_46 : decode cX7_costOf 46 = .ok (.aload_n 0, 1) := by decide +kernel
theorem dX7_costOf_47 : decode cX7_costOf 47 = .ok (.getfield 25, 3) := by decide +kernel
theorem dX7_costOf_50 : decode cX7_costOf 50 = .ok (.iload 5, 2) := by decide +kernel
theorem dX7_costOf_52 : decode cX7_costOf 52 = .ok (.iaload, 1) := by decide +kernel
theorem dX7_costOf_53 : decode cX7_costOf 53 = .ok (.iconst (-1), 1) := by decide +kernel
theorem dX7_costOf_54 : decode cX7_costOf 54 = .ok (.if_icmp .eq 18, 3) := by decide +kernel
theorem dX7_costOf_57 : decode cX7_costOf 57 = .ok (.bipush 100, 2) := by decide +kernel
theorem dX7_costOf_59 : decode cX7_costOf 59 = .ok (.aload_n 0, 1) := by decide +kernel
theorem dX7_costOf_60 : decode cX7_costOf 60 = .ok (.getfield 22, 3) := by decide +kernel
theorem dX7_costOf_63 : decode cX7_costOf 63 = .ok (.iload 5, 2) := by decide +kernel
theorem dX7_costOf_65 : decode cX7_costOf 65 = .ok (.iaload, 1) := by decide +kernel
theorem dX7_costOf_66 : decode cX7_costOf 66 = .ok (.imul, 1) := by decide +kernel
theorem dX7_costOf_67 : decode cX7_costOf 67 = .ok (.iconst 1, 1) := by decide +kernel
theorem dX7_costOf_68 : decode cX7_costOf 68 = .ok (.iadd, 1) := by decide +kernel
theorem dX7_costOf_69 : decode cX7_costOf 69 = .ok (.goto 4, 3) := by decide +kernel
theorem dX7_costOf_72 : decode cX7_costOf 72 = .ok (.iconst 0, 1) := by decide +kernel
theorem dX7_costOf_73 : decode cX7_costOf 73 = .ok (.iadd, 1) := by decide +kernel
theorem dX7_costOf_74 : decode cX7_costOf 74 = .ok (.istore 4, 2) := by decide +kernel
theorem dX7_costOf_76 : decode cX7_costOf 76 = .ok (.iinc 5 1, 3) := by decide +kernel
theorem dX7_costOf_79 : decode cX7_costOf 79 = .ok (.goto (-54), 3) := by decide +kernel
theorem dX7_costOf_82 : decode cX7_costOf 82 = .ok (.iload 4, 2) := by decide +kernel
theorem dX7_costOf_84 : decode cX7_costOf 84 = .ok (.ireturn, 1) := by decide +kernel
theorem dX7_mostOn_0 : decode cX7_mostOn 0 = .ok (.iconst 0, 1) := by decide +kernel
theorem dX7_mostOn_1 : decode cX7_mostOn 1 = .ok (.istore_n 3, 1) := by decide +kernel
theorem dX7_mostOn_2 : decode cX7_mostOn 2 = .ok (.aload_n 0, 1) := by decide +kernel
theorem dX7_mostOn_3 : decode cX7_mostOn 3 = .ok (.getfield 7, 3) := by decide +kernel
theorem dX7_mostOn_6 : decode cX7_mostOn 6 = .ok (.iload_n 1, 1) := by decide +kernel
theorem dX7_mostOn_7 : decode cX7_mostOn 7 = .ok (.iaload, 1) := by decide +kernel
theorem dX7_mostOn_8 : decode cX7_mostOn 8 = .ok (.istore 4, 2) := by decide +kernel
theorem dX7_mostOn_10 : decode cX7_mostOn 10 = .ok (.aload_n 0, 1) := by decide +kernel
theorem dX7_mostOn_11 : decode cX7_mostOn 11 = .ok (.getfield 13, 3) := by decide +kernel
theorem dX7_mostOn_14 : decode cX7_mostOn 14 = .ok (.iload_n 1, 1) := by decide +kernel
theorem dX7_mostOn_15 : decode cX7_mostOn 15 = .ok (.iaload, 1) := by decide +kernel
theorem dX7_mostOn_16 : decode cX7_mostOn 16 = .ok (.iconst 2, 1) := by decide +kernel
theorem dX7_mostOn_17 : decode cX7_mostOn 17 = .ok (.if_icmp .eq 45, 3) := by decide +kernel
theorem dX7_mostOn_20 : decode cX7_mostOn 20 = .ok (.iload_n 2, 1) := by decide +kernel
theorem dX7_mostOn_21 : decode cX7_mostOn 21 = .ok (.iload_n 3, 1) := by decide +kernel
theorem dX7_mostOn_22 : decode cX7_mostOn 22 = .ok (.iadd, 1) := by decide +kernel
theorem dX7_mostOn_23 : decode cX7_mostOn 23 = .ok (.aload_n 0, 1) := by decide +kernel
theorem dX7_mostOn_24 : decode cX7_mostOn 24 = .ok (.getfield 81, 3) := by decide +kernel
theorem dX7_mostOn_27 : decode cX7_mostOn 27 = .ok (.if_icmp .ge 35, 3) := by decide +kernel
theorem dX7_mostOn_30 : decode cX7_mostOn 30 = .ok (.aload_n 0, 1) := by decide +kernel
theorem dX7_mostOn_31 : decode cX7_mostOn 31 = .ok (.getfield 50, 3) := by decide +kernel
theorem dX7_mostOn_34 : decode cX7_mostOn 34 = .ok (.iload_n 2, 1) := by decide +kernel
theorem dX7_mostOn_35 : decode cX7_mostOn 35 = .ok (.iload_n 3, 1) := by decide +kernel
theorem dX7_mostOn_36 : decode cX7_mostOn 36 = .ok (.iadd, 1) := by decide +kernel
theorem dX7_mostOn_37 : decode cX7_mostOn 37 = .ok (.iaload, 1) := by decide +kernel
theorem dX7_mostOn_38 : decode cX7_mostOn 38 = .ok (.iload 4, 2) := by decide +kernel
theorem dX7_mostOn_40 : decode cX7_mostOn 40 = .ok (.if_icmp .gt 22, 3) := by decide +kernel
theorem dX7_mostOn_43 : decode cX7_mostOn 43 = .ok (.iload 4, 2) := by decide +kernel
theorem dX7_mostOn_45 : decode cX7_mostOn 45 = .ok (.aload_n 0, 1) := by decide +kernel
theorem dX7_mostOn_46 : decode cX7_mostOn 46 = .ok (.getfield 50, 3) := by decide +kernel
theorem dX7_mostOn_49 : decode cX7_mostOn 49 = .ok (.iload_n 2, 1) := by decide +kernel
theorem dX7_mostOn_50 : decode cX7_mostOn 50 = .ok (.iload_n 3, 1) := by decide +kernel
theorem dX7_mostOn_51 : decode cX7_mostOn 51 = .ok (.iadd, 1) := by decide +kernel
theorem dX7_mostOn_52 : decode cX7_mostOn 52 = .ok (.iaload, 1) := by decide +kernel
theorem dX7_mostOn_53 : decode cX7_mostOn 53 = .ok (.isub, 1) := by decide +kernel
theorem dX7_mostOn_54 : decode cX7_mostOn 54 = .ok (.istore 4, 2) := by decide +kernel
theorem dX7_mostOn_56 : decode cX7_mostOn 56 = .ok (.iinc 3 1, 3) := by decide +kernel
theorem dX7_mostOn_59 : decode cX7_mostOn 59 = .ok (.goto (-49), 3) := by decide +kernel
theorem dX7_mostOn_62 : decode cX7_mostOn 62 = .ok (.iload_n 3, 1) := by decide +kernel
theorem dX7_mostOn_63 : decode cX7_mostOn 63 = .ok (.ireturn, 1) := by decide +kernel
theorem dX7_cuts_0 : decode cX7_cuts 0 = .ok (.aload_n 0, 1) := by decide +kernel
theorem dX7_cuts_1 : decode cX7_cuts 1 = .ok (.invokevirtual 91, 3) := by decide +kernel
theorem dX7_cuts_4 : decode cX7_cuts 4 = .ok (.iconst 0, 1) := by decide +kernel
theorem dX7_cuts_5 : decode cX7_cuts 5 = .ok (.istore_n 2, 1) := by decide +kernel
theorem dX7_cuts_6 : decode cX7_cuts 6 = .ok (.iload_n 2, 1) := by decide +kernel
theorem dX7_cuts_7 : decode cX7_cuts 7 = .ok (.aload_n 0, 1) := by decide +kernel
theorem dX7_cuts_8 : decode cX7_cuts 8 = .ok (.getfield 81, 3) := by decide +kernel
theorem dX7_cuts_11 : decode cX7_cuts 11 = .ok (.if_icmp .ge 30, 3) := by decide +kernel
theorem dX7_cuts_14 : decode cX7_cuts 14 = .ok (.aload_n 0, 1) := by decide +kernel
theorem dX7_cuts_15 : decode cX7_cuts 15 = .ok (.getfield 50, 3) := by decide +kernel
theorem dX7_cuts_18 : decode cX7_cuts 18 = .ok (.iload_n 2, 1) := by decide +kernel
theorem dX7_cuts_19 : decode cX7_cuts 19 = .ok (.aload_n 0, 1) := by decide +kernel
theorem dX7_cuts_20 : decode cX7_cuts 20 = .ok (.getfield 22, 3) := by decide +kernel
theorem dX7_cuts_23 : decode cX7_cuts 23 = .ok (.iload_n 2, 1) := by decide +kernel
theorem dX7_cuts_24 : decode cX7_cuts 24 = .ok (.iaload, 1) := by decide +kernel
theorem dX7_cuts_25 : decode cX7_cuts 25 = .ok (.iload_n 1, 1) := by decide +kernel
theorem dX7_cuts_26 : decode cX7_cuts 26 = .ok (.aload_n 0, 1) := by decide +kernel
theorem dX7_cuts_27 : decode cX7_cuts 27 = .ok (.getfield 38, 3) := by decide +kernel
theorem dX7_cuts_30 : decode cX7_cuts 30 = .ok (.iload_n 2, 1) := by decide +kernel
theorem dX7_cuts_31 : decode cX7_cuts 31 = .ok (.iaload, 1) := by decide +kernel
theorem dX7_cuts_32 : decode cX7_cuts 32 = .ok (.imul, 1) := by decide +kernel
theorem dX7_cuts_33 : decode cX7_cuts 33 = .ok (.iadd, 1) := by decide +kernel
theorem dX7_cuts_34 : decode cX7_cuts 34 = .ok (.iastore, 1) := by decide +kernel
theorem dX7_cuts_35 : decode cX7_cuts 35 = .ok (.iinc 2 1, 3) := by decide +kernel
theorem dX7_cuts_38 : decode cX7_cuts 38 = .ok (.goto (-32), 3) := by decide +kernel
theorem dX7_cuts_41 : decode cX7_cuts 41 = .ok (.iconst 0, 1) := by decide +kernel
theorem dX7_cuts_42 : decode cX7_cuts 42 = .ok (.istore_n 2, 1) := by decide +kernel
theorem dX7_cuts_43 : decode cX7_cuts 43 = .ok (.iload_n 2, 1) := by decide +kernel
theorem dX7_cuts_44 : decode cX7_cuts 44 = .ok (.aload_n 0, 1) := by decide +kernel
theorem dX7_cuts_45 : decode cX7_cuts 45 = .ok (.getfield 81, 3) := by decide +kernel
theorem dX7_cuts_48 : decode cX7_cuts 48 = .ok (.if_icmp .gt 37, 3) := by decide +kernel
theorem dX7_cuts_51 : decode cX7_cuts 51 = .ok (.aload_n 0, 1) := by decide +kernel
theorem dX7_cuts_52 : decode cX7_cuts 52 = .ok (.getfield 44, 3) := by decide +kernel
theorem dX7_cuts_55 : decode cX7_cuts 55 = .ok (.aload_n 0, 1) := by decide +kernel
theorem dX7_cuts_56 : decode cX7_cuts 56 = .ok (.aload_n 0, 1) := by decide +kernel
theorem dX7_cuts_57 : decode cX7_cuts 57 = .ok (.getfield 71, 3) := by decide +kernel
theorem dX7_cuts_60 : decode cX7_cuts 60 = .ok (.iload_n 2, 1) := by decide +kernel
theorem dX7_cuts_61 : decode cX7_cuts 61 = .ok (.invokevirtual 101, 3) := by decide +kernel
theorem dX7_cuts_64 : decode cX7_cuts 64 = .ok (.iload_n 2, 1) := by decide +kernel
theorem dX7_cuts_65 : decode cX7_cuts 65 = .ok (.aload_n 0, 1) := by decide +kernel
theorem dX7_cuts_66 : decode cX7_cuts 66 = .ok (.getfield 81, 3) := by decide +kernel
theorem dX7_cuts_69 : decode cX7_cuts 69 = .ok (.if_icmp .ne 7, 3) := by decide +kernel
theorem dX7_cuts_72 : decode cX7_cuts 72 = .ok (.iconst 0, 1) := by decide +kernel
theorem dX7_cuts_73 : decode cX7_cuts 73 = .ok (.goto 5, 3) := by decide +kernel
theorem dX7_cuts_76 : decode cX7_cuts 76 = .ok (.ldc 105, 2) := by decide +kernel
theorem dX7_cuts_78 : decode cX7_cuts 78 = .ok (.iastore, 1) := by decide +kernel
theorem dX7_cuts_79 : decode cX7_cuts 79 = .ok (.iinc 2 1, 3) := by decide +kernel
theorem dX7_cuts_82 : decode cX7_cuts 82 = .ok (.goto (-39), 3) := by decide +kernel
theorem dX7_cuts_85 : decode cX7_cuts 85 = .ok (.aload_n 0, 1) := by decide +kernel
theorem dX7_cuts_86 : decode cX7_cuts 86 = .ok (.getfield 71, 3) := by decide +kernel
theorem dX7_cuts_89 : decode cX7_cuts 89 = .ok (.iconst 1, 1) := by decide +kernel
theorem dX7_cuts_90 : decode cX7_cuts 90 = .ok (.isub, 1) := by decide +kernel
theorem dX7_cuts_91 : decode cX7_cuts 91 = .ok (.istore_n 2, 1) := by decide +kernel
theorem dX7_cuts_92 : decode cX7_cuts 92 = .ok (.iload_n 2, 1) := by decide +kernel
theorem dX7_cuts_93 : decode cX7_cuts 93 = .ok (.ifCond .lt 31, 3) := by decide +kernel
theorem dX7_cuts_96 : decode cX7_cuts 96 = .ok (.iconst 0, 1) := by decide +kernel
theorem dX7_cuts_97 : decode cX7_cuts 97 = .ok (.istore_n 3, 1) := by decide +kernel
theorem dX7_cuts_98 : decode cX7_cuts 98 = .ok (.iload_n 3, 1) := by decide +kernel
theorem dX7_cuts_99 : decode cX7_cuts 99 = .ok (.aload_n 0, 1) := by decide +kernel
theorem dX7_cuts_100 : decode cX7_cuts 100 = .ok (.getfield 81, 3) := by decide +kernel
theorem dX7_cuts_103 : decode cX7_cuts 103 = .ok (.if_icmp .gt 15, 3) := by decide +kernel
theorem dX7_cuts_106 : decode cX7_cuts 106 = .ok (.aload_n 0, 1) := by decide +kernel
theorem dX7_cuts_107 : decode cX7_cuts 107 = .ok (.iload_n 2, 1) := by decide +kernel
theorem dX7_cuts_108 : decode cX7_cuts 108 = .ok (.iload_n 3, 1) := by decide +kernel
theorem dX7_cuts_109 : decode cX7_cuts 109 = .ok (.invokevirtual 106, 3) := by decide +kernel
theorem dX7_cuts_112 : decode cX7_cuts 112 = .ok (.iinc 3 1, 3) := by decide +kernel
theorem dX7_cuts_115 : decode cX7_cuts 115 = .ok (.goto (-17), 3) := by decide +kernel
theorem dX7_cuts_118 : decode cX7_cuts 118 = .ok (.iinc 2 (-1), 3) := by decide +kernel
theorem dX7_cuts_121 : decode cX7_cuts 121 = .ok (.goto (-29), 3) := by decide +kernel
theorem dX7_cuts_124 : decode cX7_cuts 124 = .ok (.aload_n 0, 1) := by decide +kernel
theorem dX7_cuts_125 : decode cX7_cuts 125 = .ok (.getfield 44, 3) := by decide +kernel
theorem dX7_cuts_128 : decode cX7_cuts 128 = .ok (.iconst 0, 1) := by decide +kernel
theorem dX7_cuts_129 : decode cX7_cuts 129 = .ok (.iaload, 1) := by decide +kernel
theorem dX7_cuts_130 : decode cX7_cuts 130 = .ok (.ldc 105, 2) := by decide +kernel
theorem dX7_cuts_132 : decode cX7_cuts 132 = .ok (.if_icmp .lt 5, 3) := by decide +kernel
theorem dX7_cuts_135 : decode cX7_cuts 135 = .ok (.iconst 0, 1) := by decide +kernel
theorem dX7_cuts_136 : decode cX7_cuts 136 = .ok (.ireturn, 1) := by decide +kernel
theorem dX7_cuts_137 : decode cX7_cuts 137 = .ok (.iconst 0, 1) := by decide +kernel
theorem dX7_cuts_138 : decode cX7_cuts 138 = .ok (.istore_n 2, 1) := by decide +kernel
theorem dX7_cuts_139 : decode cX7_cuts 139 = .ok (.iconst 0, 1) := by decide +kernel
theorem dX7_cuts_140 : decode cX7_cuts 140 = .ok (.istore_n 3, 1) := by decide +kernel
theorem dX7_cuts_141 : decode cX7_cuts 141 = .ok (.iload_n 3, 1) := by decide +kernel
theorem dX7_cuts_142 : decode cX7_cuts 142 = .ok (.aload_n 0, 1) := by decide +kernel
theorem dX7_cuts_143 : decode cX7_cuts 143 = .ok (.getfield 71, 3) := by decide +kernel
theorem dX7_cuts_146 : decode cX7_cuts 146 = .ok (.if_icmp .ge 96, 3) := by decide +kernel
theorem dX7_cuts_149 : decode cX7_cuts 149 = .ok (.aload_n 0, 1) := by decide +kernel
theorem dX7_cuts_150 : decode cX7_cuts 150 = .ok (.iload_n 3, 1) := by decide +kernel
theorem dX7_cuts_151 : decode cX7_cuts 151 = .ok (.iload_n 2, 1) := by decide +kernel
theorem dX7_cuts_152 : decode cX7_cuts 152 = .ok (.invokevirtual 110, 3) := by decide +kernel
theorem dX7_cuts_155 : decode cX7_cuts 155 = .ok (.istore 4, 2) := by decide +kernel
theorem dX7_cuts_157 : decode cX7_cuts 157 = .ok (.aload_n 0, 1) := by decide +kernel
theorem dX7_cuts_158 : decode cX7_cuts 158 = .ok (.getfield 44, 3) := by decide +kernel
theorem dX7_cuts_161 : decode cX7_cuts 161 = .ok (.aload_n 0, 1) := by decide +kernel
theorem dX7_cuts_162 : decode cX7_cuts 162 = .ok (.iload_n 3, 1) := by decide +kernel
theorem dX7_cuts_163 : decode cX7_cuts 163 = .ok (.iconst 1, 1) := by decide +kernel
theorem dX7_cuts_164 : decode cX7_cuts 164 = .ok (.iadd, 1) := by decide +kernel
theorem dX7_cuts_165 : decode cX7_cuts 165 = .ok (.iload_n 2, 1) := by decide +kernel
theorem dX7_cuts_166 : decode cX7_cuts 166 = .ok (.iload 4, 2) := by decide +kernel
theorem dX7_cuts_168 : decode cX7_cuts 168 = .ok (.iadd, 1) := by decide +kernel
theorem dX7_cuts_169 : decode cX7_cuts 169 = .ok (.invokevirtual 101, 3) := by decide +kernel
theorem dX7_cuts_172 : decode cX7_cuts 172 = .ok (.iaload, 1) := by decide +kernel
theorem dX7_cuts_173 : decode cX7_cuts 173 = .ok (.ldc 105, 2) := by decide +kernel
theorem dX7_cuts_175 : decode cX7_cuts 175 = .ok (.if_icmp .ge 42, 3) := by decide +kernel
theorem dX7_cuts_178 : decode cX7_cuts 178 = .ok (.aload_n 0, 1) := by decide +kernel
theorem dX7_cuts_179 : decode cX7_cuts 179 = .ok (.iload_n 3, 1) := by decide +kernel
theorem dX7_cuts_180 : decode cX7_cuts 180 = .ok (.iload_n 2, 1) := by decide +kernel
theorem dX7_cuts_181 : decode cX7_cuts 181 = .ok (.iload 4, 2) := by decide +kernel
theorem dX7_cuts_183 : decode cX7_cuts 183 = .ok (.invokevirtual 113, 3) := by decide +kernel
theorem dX7_cuts_186 : decode cX7_cuts 186 = .ok (.aload_n 0, 1) := by decide +kernel
theorem dX7_cuts_187 : decode cX7_cuts 187 = .ok (.getfield 44, 3) := by decide +kernel
theorem dX7_cuts_190 : decode cX7_cuts 190 = .ok (.aload_n 0, 1) := by decide +kernel
theorem dX7_cuts_191 : decode cX7_cuts 191 = .ok (.iload_n 3, 1) := by decide +kernel
theorem dX7_cuts_192 : decode cX7_cuts 192 = .ok (.iconst 1, 1) := by decide +kernel
theorem dX7_cuts_193 : decode cX7_cuts 193 = .ok (.iadd, 1) := by decide +kernel
theorem dX7_cuts_194 : decode cX7_cuts 194 = .ok (.iload_n 2, 1) := by decide +kernel
theorem dX7_cuts_195 : decode cX7_cuts 195 = .ok (.iload 4, 2) := by decide +kernel
theorem dX7_cuts_197 : decode cX7_cuts 197 = .ok (.iadd, 1) := by decide +kernel
theorem dX7_cuts_198 : decode cX7_cuts 198 = .ok (.invokevirtual 101, 3) := by decide +kernel
theorem dX7_cuts_201 : decode cX7_cuts 201 = .ok (.iaload, 1) := by decide +kernel
theorem dX7_cuts_202 : decode cX7_cuts 202 = .ok (.iadd, 1) := by decide +kernel
theorem dX7_cuts_203 : decode cX7_cuts 203 = .ok (.aload_n 0, 1) := by decide +kernel
theorem dX7_cuts_204 : decode cX7_cuts 204 = .ok (.getfield 44, 3) := by decide +kernel
theorem dX7_cuts_207 : decode cX7_cuts 207 = .ok (.aload_n 0, 1) := by decide +kernel
theorem dX7_cuts_208 : decode cX7_cuts 208 = .ok (.iload_n 3, 1) := by decide +kernel
theorem dX7_cuts_209 : decode cX7_cuts 209 = .ok (.iload_n 2, 1) := by decide +kernel
theorem dX7_cuts_210 : decode cX7_cuts 210 = .ok (.invokevirtual 101, 3) := by decide +kernel
theorem dX7_cuts_213 : decode cX7_cuts 213 = .ok (.iaload, 1) := by decide +kernel
theorem dX7_cuts_214 : decode cX7_cuts 214 = .ok (.if_icmp .eq 9, 3) := by decide +kernel
theorem dX7_cuts_217 : decode cX7_cuts 217 = .ok (.iinc 4 (-1), 3) := by decide +kernel
theorem dX7_cuts_220 : decode cX7_cuts 220 = .ok (.goto (-63), 3) := by decide +kernel
theorem dX7_cuts_223 : decode cX7_cuts 223 = .ok (.aload_n 0, 1) := by decide +kernel
theorem dX7_cuts_224 : decode cX7_cuts 224 = .ok (.getfield 47, 3) := by decide +kernel
theorem dX7_cuts_227 : decode cX7_cuts 227 = .ok (.iload_n 3, 1) := by decide +kernel
theorem dX7_cuts_228 : decode cX7_cuts 228 = .ok (.iload 4, 2) := by decide +kernel
theorem dX7_cuts_230 : decode cX7_cuts 230 = .ok (.iastore, 1) := by decide +kernel
theorem dX7_cuts_231 : decode cX7_cuts 231 = .ok (.iload_n 2, 1) := by decide +kernel
theorem dX7_cuts_232 : decode cX7_cuts 232 = .ok (.iload 4, 2) := by decide +kernel
theorem dX7_cuts_234 : decode cX7_cuts 234 = .ok (.iadd, 1) := by decide +kernel
theorem dX7_cuts_235 : decode cX7_cuts 235 = .ok (.istore_n 2, 1) := by decide +kernel
theorem dX7_cuts_236 : decode cX7_cuts 236 = .ok (.iinc 3 1, 3) := by decide +kernel
theorem dX7_cuts_239 : decode cX7_cuts 239 = .ok (.goto (-98), 3) := by decide +kernel
theorem dX7_cuts_242 : decode cX7_cuts 242 = .ok (.iconst 1, 1) := by decide +kernel
theorem dX7_cuts_243 : decode cX7_cuts 243 = .ok (.ireturn, 1) := by decide +kernel
theorem dX7_laysLeast_0 : decode cX7_laysLeast 0 = .ok (.ldc 105, 2) := by decide +kernel
theorem dX7_laysLeast_2 : decode cX7_laysLeast 2 = .ok (.istore_n 3, 1) := by decide +kernel
theorem dX7_laysLeast_3 : decode cX7_laysLeast 3 = .ok (.aload_n 0, 1) := by decide +kernel
theorem dX7_laysLeast_4 : decode cX7_laysLeast 4 = .ok (.iload_n 1, 1) := by decide +kernel
theorem dX7_laysLeast_5 : decode cX7_laysLeast 5 = .ok (.iload_n 2, 1) := by decide +kernel
theorem dX7_laysLeast_6 : decode cX7_laysLeast 6 = .ok (.invokevirtual 110, 3) := by decide +kernel
theorem dX7_laysLeast_9 : decode cX7_laysLeast 9 = .ok (.istore 4, 2) := by decide +kernel
theorem dX7_laysLeast_11 : decode cX7_laysLeast 11 = .ok (.iload 4, 2) := by decide +kernel
theorem dX7_laysLeast_13 : decode cX7_laysLeast 13 = .ok (.ifCond .lt 61, 3) := by decide +kernel
theorem dX7_laysLeast_16 : decode cX7_laysLeast 16 = .ok (.aload_n 0, 1) := by decide +kernel
theorem dX7_laysLeast_17 : decode cX7_laysLeast 17 = .ok (.getfield 44, 3) := by decide +kernel
theorem dX7_laysLeast_20 : decode cX7_laysLeast 20 = .ok (.aload_n 0, 1) := by decide +kernel
theorem dX7_laysLeast_21 : decode cX7_laysLeast 21 = .ok (.iload_n 1, 1) := by decide +kernel
theorem dX7_laysLeast_22 : decode cX7_laysLeast 22 = .ok (.iconst 1, 1) := by decide +kernel
theorem dX7_laysLeast_23 : decode cX7_laysLeast 23 = .ok (.iadd, 1) := by decide +kernel
theorem dX7_laysLeast_24 : decode cX7_laysLeast 24 = .ok (.iload_n 2, 1) := by decide +kernel
theorem dX7_laysLeast_25 : decode cX7_laysLeast 25 = .ok (.iload 4, 2) := by decide +kernel
theorem dX7_laysLeast_27 : decode cX7_laysLeast 27 = .ok (.iadd, 1) := by decide +kernel
theorem dX7_laysLeast_28 : decode cX7_laysLeast 28 = .ok (.invokevirtual 101, 3) := by decide +kernel
theorem dX7_laysLeast_31 : decode cX7_laysLeast 31 = .ok (.iaload, 1) := by decide +kernel
theorem dX7_laysLeast_32 : decode cX7_laysLeast 32 = .ok (.istore 5, 2) := by decide +kernel
theorem dX7_laysLeast_34 : decode cX7_laysLeast 34 = .ok (.iload 5, 2) := by decide +kernel
theorem dX7_laysLeast_36 : decode cX7_laysLeast 36 = .ok (.ldc 105, 2) := by decide +kernel
theorem dX7_laysLeast_38 : decode cX7_laysLeast 38 = .ok (.if_icmp .ge 30, 3) := by decide +kernel
theorem dX7_laysLeast_41 : decode cX7_laysLeast 41 = .ok (.aload_n 0, 1) := by decide +kernel
theorem dX7_laysLeast_42 : decode cX7_laysLeast 42 = .ok (.iload_n 1, 1) := by decide +kernel
theorem dX7_laysLeast_43 : decode cX7_laysLeast 43 = .ok (.iload_n 2, 1) := by decide +kernel
theorem dX7_laysLeast_44 : decode cX7_laysLeast 44 = .ok (.iload 4, 2) := by decide +kernel
theorem dX7_laysLeast_46 : decode cX7_laysLeast 46 = .ok (.invokevirtual 113, 3) := by decide +kernel
theorem dX7_laysLeast_49 : decode cX7_laysLeast 49 = .ok (.iload 5, 2) := by decide +kernel
theorem dX7_laysLeast_51 : decode cX7_laysLeast 51 = .ok (.iadd, 1) := by decide +kernel
theorem dX7_laysLeast_52 : decode cX7_laysLeast 52 = .ok (.iload_n 3, 1) := by decide +kernel
theorem dX7_laysLeast_53 : decode cX7_laysLeast 53 = .ok (.if_icmp .ge 15, 3) := by decide +kernel
theorem dX7_laysLeast_56 : decode cX7_laysLeast 56 = .ok (.aload_n 0, 1) := by decide +kernel
theorem dX7_laysLeast_57 : decode cX7_laysLeast 57 = .ok (.iload_n 1, 1) := by decide +kernel
theorem dX7_laysLeast_58 : decode cX7_laysLeast 58 = .ok (.iload_n 2, 1) := by decide +kernel
theorem dX7_laysLeast_59 : decode cX7_laysLeast 59 = .ok (.iload 4, 2) := by decide +kernel
theorem dX7_laysLeast_61 : decode cX7_laysLeast 61 = .ok (.invokevirtual 113, 3) := by decide +kernel
theorem dX7_laysLeast_64 : decode cX7_laysLeast 64 = .ok (.iload 5, 2) := by decide +kernel
theorem dX7_laysLeast_66 : decode cX7_laysLeast 66 = .ok (.iadd, 1) := by decide +kernel
theorem dX7_laysLeast_67 : decode cX7_laysLeast 67 = .ok (.istore_n 3, 1) := by decide +kernel
theorem dX7_laysLeast_68 : decode cX7_laysLeast 68 = .ok (.iinc 4 (-1), 3) := by decide +kernel
theorem dX7_laysLeast_71 : decode cX7_laysLeast 71 = .ok (.goto (-60), 3) := by decide +kernel
theorem dX7_laysLeast_74 : decode cX7_laysLeast 74 = .ok (.aload_n 0, 1) := by decide +kernel
theorem dX7_laysLeast_75 : decode cX7_laysLeast 75 = .ok (.getfield 44, 3) := by decide +kernel
theorem dX7_laysLeast_78 : decode cX7_laysLeast 78 = .ok (.aload_n 0, 1) := by decide +kernel
theorem dX7_laysLeast_79 : decode cX7_laysLeast 79 = .ok (.iload_n 1, 1) := by decide +kernel
theorem dX7_laysLeast_80 : decode cX7_laysLeast 80 = .ok (.iload_n 2, 1) := by decide +kernel
theorem dX7_laysLeast_81 : decode cX7_laysLeast 81 = .ok (.invokevirtual 101, 3) := by decide +kernel
theorem dX7_laysLeast_84 : decode cX7_laysLeast 84 = .ok (.iload_n 3, 1) := by decide +kernel
theorem dX7_laysLeast_85 : decode cX7_laysLeast 85 = .ok (.iastore, 1) := by decide +kernel
theorem dX7_laysLeast_86 : decode cX7_laysLeast 86 = .ok (.return_, 1) := by decide +kernel
theorem dX7_isYears_0 : decode cX7_isYears 0 = .ok (.iload_n 0, 1) := by decide +kernel
theorem dX7_isYears_1 : decode cX7_isYears 1 = .ok (.iconst 0, 1) := by decide +kernel
theorem dX7_isYears_2 : decode cX7_isYears 2 = .ok (.sipush 999, 3) := by decide +kernel
theorem dX7_isYears_5 : decode cX7_isYears 5 = .ok (.invokestatic 74, 3) := by decide +kernel
theorem dX7_isYears_8 : decode cX7_isYears 8 = .ok (.ireturn, 1) := by decide +kernel
theorem dX7_cut_0 : decode cX7_cut 0 = .ok (.aload_n 0, 1) := by decide +kernel
theorem dX7_cut_1 : decode cX7_cut 1 = .ok (.iconst 0, 1) := by decide +kernel
theorem dX7_cut_2 : decode cX7_cut 2 = .ok (.putfield 68, 3) := by decide +kernel
theorem dX7_cut_5 : decode cX7_cut 5 = .ok (.aload_n 0, 1) := by decide +kernel
theorem dX7_cut_6 : decode cX7_cut 6 = .ok (.iload_n 2, 1) := by decide +kernel
theorem dX7_cut_7 : decode cX7_cut 7 = .ok (.invokevirtual 117, 3) := by decide +kernel
theorem dX7_cut_10 : decode cX7_cut 10 = .ok (.ifCond .eq 27, 3) := by decide +kernel
theorem dX7_cut_13 : decode cX7_cut 13 = .ok (.iload_n 1, 1) := by decide +kernel
theorem dX7_cut_14 : decode cX7_cut 14 = .ok (.invokestatic 121, 3) := by decide +kernel
theorem dX7_cut_17 : decode cX7_cut 17 = .ok (.ifCond .eq 20, 3) := by decide +kernel
theorem dX7_cut_20 : decode cX7_cut 20 = .ok (.aload_n 0, 1) := by decide +kernel
theorem dX7_cut_21 : decode cX7_cut 21 = .ok (.iload_n 1, 1) := by decide +kernel
theorem dX7_cut_22 : decode cX7_cut 22 = .ok (.invokevirtual 124, 3) := by decide +kernel
theorem dX7_cut_25 : decode cX7_cut 25 = .ok (.ifCond .eq 12, 3) := by decide +kernel
theorem dX7_cut_28 : decode cX7_cut 28 = .ok (.aload_n 0, 1) := by decide +kernel
theorem dX7_cut_29 : decode cX7_cut 29 = .ok (.getfield 47, 3) := by decide +kernel
theorem dX7_cut_32 : decode cX7_cut 32 = .ok (.iload_n 2, 1) := by decide +kernel
theorem dX7_cut_33 : decode cX7_cut 33 = .ok (.iaload, 1) := by decide +kernel
theorem dX7_cut_34 : decode cX7_cut 34 = .ok (.goto 4, 3) := by decide +kernel
theorem dX7_cut_37 : decode cX7_cut 37 = .ok (.iconst (-1), 1) := by decide +kernel
theorem dX7_cut_38 : decode cX7_cut 38 = .ok (.ireturn, 1) := by decide +kernel
theorem dX7_price_0 : decode cX7_price 0 = .ok (.aload_n 0, 1) := by decide +kernel
theorem dX7_price_1 : decode cX7_price 1 = .ok (.iconst 0, 1) := by decide +kernel
theorem dX7_price_2 : decode cX7_price 2 = .ok (.putfield 68, 3) := by decide +kernel
theorem dX7_price_5 : decode cX7_price 5 = .ok (.iload_n 1, 1) := by decide +kernel
theorem dX7_price_6 : decode cX7_price 6 = .ok (.invokestatic 121, 3) := by decide +kernel
theorem dX7_price_9 : decode cX7_price 9 = .ok (.ifCond .eq 20, 3) := by decide +kernel
theorem dX7_price_12 : decode cX7_price 12 = .ok (.iload_n 2, 1) := by decide +kernel
theorem dX7_price_13 : decode cX7_price 13 = .ok (.iconst 0, 1) := by decide +kernel
theorem dX7_price_14 : decode cX7_price 14 = .ok (.iconst 2, 1) := by decide +kernel
theorem dX7_price_15 : decode cX7_price 15 = .ok (.invokestatic 74, 3) := by decide +kernel
theorem dX7_price_18 : decode cX7_price 18 = .ok (.ifCond .eq 11, 3) := by decide +kernel
theorem dX7_price_21 : decode cX7_price 21 = .ok (.aload_n 0, 1) := by decide +kernel
theorem dX7_price_22 : decode cX7_price 22 = .ok (.iload_n 1, 1) := by decide +kernel
theorem dX7_price_23 : decode cX7_price 23 = .ok (.invokevirtual 124, 3) := by decide +kernel
theorem dX7_price_26 : decode cX7_price 26 = .ok (.ifCond .ne 5, 3) := by decide +kernel
theorem dX7_price_29 : decode cX7_price 29 = .ok (.iconst (-1), 1) := by decide +kernel
theorem dX7_price_30 : decode cX7_price 30 = .ok (.ireturn, 1) := by decide +kernel
theorem dX7_price_31 : decode cX7_price 31 = .ok (.iload_n 2, 1) := by decide +kernel
theorem dX7_price_32 : decode cX7_price 32 = .ok (.ifCond .ne 15, 3) := by decide +kernel
theorem dX7_price_35 : decode cX7_price 35 = .ok (.aload_n 0, 1) := by decide +kernel
theorem dX7_price_36 : decode cX7_price 36 = .ok (.getfield 44, 3) := by decide +kernel
theorem dX7_price_39 : decode cX7_price 39 = .ok (.iconst 0, 1) := by decide +kernel
theorem dX7_price_40 : decode cX7_price 40 = .ok (.iaload, 1) := by decide +kernel
theorem dX7_price_41 : decode cX7_price 41 = .ok (.ldc 100, 2) := by decide +kernel
theorem dX7_price_43 : decode cX7_price 43 = .ok (.idiv, 1) := by decide +kernel
theorem dX7_price_44 : decode cX7_price 44 = .ok (.goto 32, 3) := by decide +kernel
theorem dX7_price_47 : decode cX7_price 47 = .ok (.iload_n 2, 1) := by decide +kernel
theorem dX7_price_48 : decode cX7_price 48 = .ok (.iconst 1, 1) := by decide +kernel
theorem dX7_price_49 : decode cX7_price 49 = .ok (.if_icmp .ne 18, 3) := by decide +kernel
theorem dX7_price_52 : decode cX7_price 52 = .ok (.aload_n 0, 1) := by decide +kernel
theorem dX7_price_53 : decode cX7_price 53 = .ok (.getfield 44, 3) := by decide +kernel
theorem dX7_price_56 : decode cX7_price 56 = .ok (.iconst 0, 1) := by decide +kernel
theorem dX7_price_57 : decode cX7_price 57 = .ok (.iaload, 1) := by decide +kernel
theorem dX7_price_58 : decode cX7_price 58 = .ok (.ldc 100, 2) := by decide +kernel
theorem dX7_price_60 : decode cX7_price 60 = .ok (.irem, 1) := by decide +kernel
theorem dX7_price_61 : decode cX7_price 61 = .ok (.bipush 100, 2) := by decide +kernel
theorem dX7_price_63 : decode cX7_price 63 = .ok (.idiv, 1) := by decide +kernel
theorem dX7_price_64 : decode cX7_price 64 = .ok (.goto 12, 3) := by decide +kernel
theorem dX7_price_67 : decode cX7_price 67 = .ok (.aload_n 0, 1) := by decide +kernel
theorem dX7_price_68 : decode cX7_price 68 = .ok (.getfield 44, 3) := by decide +kernel
theorem dX7_price_71 : decode cX7_price 71 = .ok (.iconst 0, 1) := by decide +kernel
theorem dX7_price_72 : decode cX7_price 72 = .ok (.iaload, 1) := by decide +kernel
theorem dX7_price_73 : decode cX7_price 73 = .ok (.bipush 100, 2) := by decide +kernel
theorem dX7_price_75 : decode cX7_price 75 = .ok (.irem, 1) := by decide +kernel
theorem dX7_price_76 : decode cX7_price 76 = .ok (.ireturn, 1) := by decide +kernel
theorem dX7_fits_0 : decode cX7_fits 0 = .ok (.aload_n 0, 1) := by decide +kernel
theorem dX7_fits_1 : decode cX7_fits 1 = .ok (.invokevirtual 91, 3) := by decide +kernel
theorem dX7_fits_4 : decode cX7_fits 4 = .ok (.iconst 0, 1) := by decide +kernel
theorem dX7_fits_5 : decode cX7_fits 5 = .ok (.istore_n 3, 1) := by decide +kernel
theorem dX7_fits_6 : decode cX7_fits 6 = .ok (.iconst 0, 1) := by decide +kernel
theorem dX7_fits_7 : decode cX7_fits 7 = .ok (.istore 4, 2) := by decide +kernel
theorem dX7_fits_9 : decode cX7_fits 9 = .ok (.iload 4, 2) := by decide +kernel
theorem dX7_fits_11 : decode cX7_fits 11 = .ok (.aload_n 0, 1) := by decide +kernel
theorem dX7_fits_12 : decode cX7_fits 12 = .ok (.getfield 71, 3) := by decide +kernel
theorem dX7_fits_15 : decode cX7_fits 15 = .ok (.if_icmp .ge 101, 3) := by decide +kernel
theorem dX7_fits_18 : decode cX7_fits 18 = .ok (.aload_n 0, 1) := by decide +kernel
theorem dX7_fits_19 : decode cX7_fits 19 = .ok (.getfield 13, 3) := by decide +kernel
theorem dX7_fits_22 : decode cX7_fits 22 = .ok (.iload 4, 2) := by decide +kernel
theorem dX7_fits_24 : decode cX7_fits 24 = .ok (.iaload, 1) := by decide +kernel
theorem dX7_fits_25 : decode cX7_fits 25 = .ok (.ifCond .eq 18, 3) := by decide +kernel
theorem dX7_fits_28 : decode cX7_fits 28 = .ok (.iload_n 2, 1) := by decide +kernel
theorem dX7_fits_29 : decode cX7_fits 29 = .ok (.ifCond .eq 24, 3) := by decide +kernel
theorem dX7_fits_32 : decode cX7_fits 32 = .ok (.aload_n 0, 1) := by decide +kernel
theorem dX7_fits_33 : decode cX7_fits 33 = .ok (.getfield 13, 3) := by decide +kernel
theorem dX7_fits_36 : decode cX7_fits 36 = .ok (.iload 4, 2) := by decide +kernel
theorem dX7_fits_38 : decode cX7_fits 38 = .ok (.iaload, 1) := by decide +kernel
theorem dX7_fits_39 : decode cX7_fits 39 = .ok (.iconst 1, 1) := by decide +kernel
theorem dX7_fits_40 : decode cX7_fits 40 = .ok (.if_icmp .ne 13, 3) := by decide +kernel
theorem dX7_fits_43 : decode cX7_fits 43 = .ok (.aload_n 0, 1) := by decide +kernel
theorem dX7_fits_44 : decode cX7_fits 44 = .ok (.getfield 7, 3) := by decide +kernel
theorem dX7_fits_47 : decode cX7_fits 47 = .ok (.iload 4, 2) := by decide +kernel
theorem dX7_fits_49 : decode cX7_fits 49 = .ok (.iaload, 1) := by decide +kernel
theorem dX7_fits_50 : decode cX7_fits 50 = .ok (.goto 4, 3) := by decide +kernel
theorem dX7_fits_53 : decode cX7_fits 53 = .ok (.iconst 0, 1) := by decide +kernel
theorem dX7_fits_54 : decode cX7_fits 54 = .ok (.istore 5, 2) := by decide +kernel
theorem dX7_fits_56 : decode cX7_fits 56 = .ok (.iload_n 3, 1) := by decide +kernel
theorem dX7_fits_57 : decode cX7_fits 57 = .ok (.aload_n 0, 1) := by decide +kernel
theorem dX7_fits_58 : decode cX7_fits 58 = .ok (.getfield 81, 3) := by decide +kernel
theorem dX7_fits_61 : decode cX7_fits 61 = .ok (.if_icmp .ge 49, 3) := by decide +kernel
theorem dX7_fits_64 : decode cX7_fits 64 = .ok (.aload_n 0, 1) := by decide +kernel
theorem dX7_fits_65 : decode cX7_fits 65 = .ok (.getfield 22, 3) := by decide +kernel
theorem dX7_fits_68 : decode cX7_fits 68 = .ok (.iload_n 3, 1) := by decide +kernel
theorem dX7_fits_69 : decode cX7_fits 69 = .ok (.iaload, 1) := by decide +kernel
theorem dX7_fits_70 : decode cX7_fits 70 = .ok (.iload_n 1, 1) := by decide +kernel
theorem dX7_fits_71 : decode cX7_fits 71 = .ok (.aload_n 0, 1) := by decide +kernel
theorem dX7_fits_72 : decode cX7_fits 72 = .ok (.getfield 38, 3) := by decide +kernel
theorem dX7_fits_75 : decode cX7_fits 75 = .ok (.iload_n 3, 1) := by decide +kernel
theorem dX7_fits_76 : decode cX7_fits 76 = .ok (.iaload, 1) := by decide +kernel
theorem dX7_fits_77 : decode cX7_fits 77 = .ok (.imul, 1) := by decide +kernel
theorem dX7_fits_78 : decode cX7_fits 78 = .ok (.iadd, 1) := by decide +kernel
theorem dX7_fits_79 : decode cX7_fits 79 = .ok (.iload 5, 2) := by decide +kernel
theorem dX7_fits_81 : decode cX7_fits 81 = .ok (.if_icmp .gt 29, 3) := by decide +kernel
theorem dX7_fits_84 : decode cX7_fits 84 = .ok (.iload 5, 2) := by decide +kernel
theorem dX7_fits_86 : decode cX7_fits 86 = .ok (.aload_n 0, 1) := by decide +kernel
theorem dX7_fits_87 : decode cX7_fits 87 = .ok (.getfield 22, 3) := by decide +kernel
theorem dX7_fits_90 : decode cX7_fits 90 = .ok (.iload_n 3, 1) := by decide +kernel
theorem dX7_fits_91 : decode cX7_fits 91 = .ok (.iaload, 1) := by decide +kernel
theorem dX7_fits_92 : decode cX7_fits 92 = .ok (.iload_n 1, 1) := by decide +kernel
theorem dX7_fits_93 : decode cX7_fits 93 = .ok (.aload_n 0, 1) := by decide +kernel
theorem dX7_fits_94 : decode cX7_fits 94 = .ok (.getfield 38, 3) := by decide +kernel
theorem dX7_fits_97 : decode cX7_fits 97 = .ok (.iload_n 3, 1) := by decide +kernel
theorem dX7_fits_98 : decode cX7_fits 98 = .ok (.iaload, 1) := by decide +kernel
theorem dX7_fits_99 : decode cX7_fits 99 = .ok (.imul, 1) := by decide +kernel
theorem dX7_fits_100 : decode cX7_fits 100 = .ok (.iadd, 1) := by decide +kernel
theorem dX7_fits_101 : decode cX7_fits 101 = .ok (.isub, 1) := by decide +kernel
theorem dX7_fits_102 : decode cX7_fits 102 = .ok (.istore 5, 2) := by decide +kernel
theorem dX7_fits_104 : decode cX7_fits 104 = .ok (.iinc 3 1, 3) := by decide +kernel
theorem dX7_fits_107 : decode cX7_fits 107 = .ok (.goto (-51), 3) := by decide +kernel
theorem dX7_fits_110 : decode cX7_fits 110 = .ok (.iinc 4 1, 3) := by decide +kernel
theorem dX7_fits_113 : decode cX7_fits 113 = .ok (.goto (-104), 3) := by decide +kernel
theorem dX7_fits_116 : decode cX7_fits 116 = .ok (.iload_n 3, 1) := by decide +kernel
theorem dX7_fits_117 : decode cX7_fits 117 = .ok (.aload_n 0, 1) := by decide +kernel
theorem dX7_fits_118 : decode cX7_fits 118 = .ok (.getfield 81, 3) := by decide +kernel
theorem dX7_fits_121 : decode cX7_fits 121 = .ok (.if_icmp .ne 7, 3) := by decide +kernel
theorem dX7_fits_124 : decode cX7_fits 124 = .ok (.iconst 1, 1) := by decide +kernel
theorem dX7_fits_125 : decode cX7_fits 125 = .ok (.goto 4, 3) := by decide +kernel
theorem dX7_fits_128 : decode cX7_fits 128 = .ok (.iconst 0, 1) := by decide +kernel
theorem dX7_fits_129 : decode cX7_fits 129 = .ok (.ireturn, 1) := by decide +kernel
theorem dX7_best_0 : decode cX7_best 0 = .ok (.aload_n 0, 1) := by decide +kernel
theorem dX7_best_1 : decode cX7_best 1 = .ok (.iconst 0, 1) := by decide +kernel
theorem dX7_best_2 : decode cX7_best 2 = .ok (.putfield 68, 3) := by decide +kernel
theorem dX7_best_5 : decode cX7_best 5 = .ok (.sipush 999, 3) := by decide +kernel
theorem dX7_best_8 : decode cX7_best 8 = .ok (.istore_n 2, 1) := by decide +kernel
theorem dX7_best_9 : decode cX7_best 9 = .ok (.iload_n 2, 1) := by decide +kernel
theorem dX7_best_10 : decode cX7_best 10 = .ok (.ifCond .lt 26, 3) := by decide +kernel
theorem dX7_best_13 : decode cX7_best 13 = .ok (.aload_n 0, 1) := by decide +kernel
theorem dX7_best_14 : decode cX7_best 14 = .ok (.iload_n 2, 1) := by decide +kernel
theorem dX7_best_15 : decode cX7_best 15 = .ok (.iload_n 1, 1) := by decide +kernel
theorem dX7_best_16 : decode cX7_best 16 = .ok (.ifCond .ne 7, 3) := by decide +kernel
theorem dX7_best_19 : decode cX7_best 19 = .ok (.iconst 1, 1) := by decide +kernel
theorem dX7_best_20 : decode cX7_best 20 = .ok (.goto 4, 3) := by decide +kernel
theorem dX7_best_23 : decode cX7_best 23 = .ok (.iconst 0, 1) := by decide +kernel
theorem dX7_best_24 : decode cX7_best 24 = .ok (.invokevirtual 127, 3) := by decide +kernel
theorem dX7_best_27 : decode cX7_best 27 = .ok (.ifCond .ne 9, 3) := by decide +kernel
theorem dX7_best_30 : decode cX7_best 30 = .ok (.iinc 2 (-1), 3) := by decide +kernel
theorem dX7_best_33 : decode cX7_best 33 = .ok (.goto (-24), 3) := by decide +kernel
theorem dX7_best_36 : decode cX7_best 36 = .ok (.iload_n 2, 1) := by decide +kernel
theorem dX7_best_37 : decode cX7_best 37 = .ok (.ireturn, 1) := by decide +kernel
theorem dX7_tight_0 : decode cX7_tight 0 = .ok (.aload_n 0, 1) := by decide +kernel
theorem dX7_tight_1 : decode cX7_tight 1 = .ok (.iconst 0, 1) := by decide +kernel
theorem dX7_tight_2 : decode cX7_tight 2 = .ok (.putfield 68, 3) := by decide +kernel
theorem dX7_tight_5 : decode cX7_tight 5 = .ok (.iconst 0, 1) := by decide +kernel
theorem dX7_tight_6 : decode cX7_tight 6 = .ok (.istore_n 1, 1) := by decide +kernel
theorem dX7_tight_7 : decode cX7_tight 7 = .ok (.iconst (-1), 1) := by decide +kernel
theorem dX7_tight_8 : decode cX7_tight 8 = .ok (.istore_n 2, 1) := by decide +kernel
theorem dX7_tight_9 : decode cX7_tight 9 = .ok (.iconst 0, 1) := by decide +kernel
theorem dX7_tight_10 : decode cX7_tight 10 = .ok (.istore_n 3, 1) := by decide +kernel
theorem dX7_tight_11 : decode cX7_tight 11 = .ok (.iload_n 3, 1) := by decide +kernel
theorem dX7_tight_12 : decode cX7_tight 12 = .ok (.aload_n 0, 1) := by decide +kernel
theorem dX7_tight_13 : decode cX7_tight 13 = .ok (.getfield 71, 3) := by decide +kernel
theorem dX7_tight_16 : decode cX7_tight 16 = .ok (.if_icmp .ge 68, 3) := by decide +kernel
theorem dX7_tight_19 : decode cX7_tight 19 = .ok (.aload_n 0, 1) := by decide +kernel
theorem dX7_tight_20 : decode cX7_tight 20 = .ok (.getfield 13, 3) := by decide +kernel
theorem dX7_tight_23 : decode cX7_tight 23 = .ok (.iload_n 3, 1) := by decide +kernel
theorem dX7_tight_24 : decode cX7_tight 24 = .ok (.iaload, 1) := by decide +kernel
theorem dX7_tight_25 : decode cX7_tight 25 = .ok (.ifCond .ne 12, 3) := by decide +kernel
theorem dX7_tight_28 : decode cX7_tight 28 = .ok (.aload_n 0, 1) := by decide +kernel
theorem dX7_tight_29 : decode cX7_tight 29 = .ok (.getfield 7, 3) := by decide +kernel
theorem dX7_tight_32 : decode cX7_tight 32 = .ok (.iload_n 3, 1) := by decide +kernel
theorem dX7_tight_33 : decode cX7_tight 33 = .ok (.iaload, 1) := by decide +kernel
theorem dX7_tight_34 : decode cX7_tight 34 = .ok (.goto 4, 3) := by decide +kernel
theorem dX7_tight_37 : decode cX7_tight 37 = .ok (.iconst 0, 1) := by decide +kernel
theorem dX7_tight_38 : decode cX7_tight 38 = .ok (.istore 4, 2) := by decide +kernel
theorem dX7_tight_40 : decode cX7_tight 40 = .ok (.iload_n 1, 1) := by decide +kernel
theorem dX7_tight_41 : decode cX7_tight 41 = .ok (.aload_n 0, 1) := by decide +kernel
theorem dX7_tight_42 : decode cX7_tight 42 = .ok (.getfield 81, 3) := by decide +kernel
theorem dX7_tight_45 : decode cX7_tight 45 = .ok (.if_icmp .ge 33, 3) := by decide +kernel
theorem dX7_tight_48 : decode cX7_tight 48 = .ok (.aload_n 0, 1) := by decide +kernel
theorem dX7_tight_49 : decode cX7_tight 49 = .ok (.getfield 22, 3) := by decide +kernel
theorem dX7_tight_52 : decode cX7_tight 52 = .ok (.iload_n 1, 1) := by decide +kernel
theorem dX7_tight_53 : decode cX7_tight 53 = .ok (.iaload, 1) := by decide +kernel
theorem dX7_tight_54 : decode cX7_tight 54 = .ok (.iload 4, 2) := by decide +kernel
theorem dX7_tight_56 : decode cX7_tight 56 = .ok (.if_icmp .gt 22, 3) := by decide +kernel
theorem dX7_tight_59 : decode cX7_tight 59 = .ok (.iload 4, 2) := by decide +kernel
theorem dX7_tight_61 : decode cX7_tight 61 = .ok (.aload_n 0, 1) := by decide +kernel
theorem dX7_tight_62 : decode cX7_tight 62 = .ok (.getfield 22, 3) := by decide +kernel
theorem dX7_tight_65 : decode cX7_tight 65 = .ok (.iload_n 1, 1) := by decide +kernel
theorem dX7_tight_66 : decode cX7_tight 66 = .ok (.iaload, 1) := by decide +kernel
theorem dX7_tight_67 : decode cX7_tight 67 = .ok (.isub, 1) := by decide +kernel
theorem dX7_tight_68 : decode cX7_tight 68 = .ok (.istore 4, 2) := by decide +kernel
theorem dX7_tight_70 : decode cX7_tight 70 = .ok (.iload_n 3, 1) := by decide +kernel
theorem dX7_tight_71 : decode cX7_tight 71 = .ok (.istore_n 2, 1) := by decide +kernel
theorem dX7_tight_72 : decode cX7_tight 72 = .ok (.iinc 1 1, 3) := by decide +kernel
theorem dX7_tight_75 : decode cX7_tight 75 = .ok (.goto (-35), 3) := by decide +kernel
theorem dX7_tight_78 : decode cX7_tight 78 = .ok (.iinc 3 1, 3) := by decide +kernel
theorem dX7_tight_81 : decode cX7_tight 81 = .ok (.goto (-70), 3) := by decide +kernel
theorem dX7_tight_84 : decode cX7_tight 84 = .ok (.iload_n 1, 1) := by decide +kernel
theorem dX7_tight_85 : decode cX7_tight 85 = .ok (.aload_n 0, 1) := by decide +kernel
theorem dX7_tight_86 : decode cX7_tight 86 = .ok (.getfield 81, 3) := by decide +kernel
theorem dX7_tight_89 : decode cX7_tight 89 = .ok (.if_icmp .ne 7, 3) := by decide +kernel
theorem dX7_tight_92 : decode cX7_tight 92 = .ok (.iload_n 2, 1) := by decide +kernel
theorem dX7_tight_93 : decode cX7_tight 93 = .ok (.goto 4, 3) := by decide +kernel
theorem dX7_tight_96 : decode cX7_tight 96 = .ok (.iconst (-1), 1) := by decide +kernel
theorem dX7_tight_97 : decode cX7_tight 97 = .ok (.ireturn, 1) := by decide +kernel
theorem dX7_opens_0 : decode cX7_opens 0 = .ok (.aload_n 0, 1) := by decide +kernel
theorem dX7_opens_1 : decode cX7_opens 1 = .ok (.getfield 81, 3) := by decide +kernel
theorem dX7_opens_4 : decode cX7_opens 4 = .ok (.istore_n 2, 1) := by decide +kernel
theorem dX7_opens_5 : decode cX7_opens 5 = .ok (.iload_n 2, 1) := by decide +kernel
theorem dX7_opens_6 : decode cX7_opens 6 = .ok (.iload_n 1, 1) := by decide +kernel
theorem dX7_opens_7 : decode cX7_opens 7 = .ok (.if_icmp .le 65, 3) := by decide +kernel
theorem dX7_opens_10 : decode cX7_opens 10 = .ok (.aload_n 0, 1) := by decide +kernel
theorem dX7_opens_11 : decode cX7_opens 11 = .ok (.getfield 19, 3) := by decide +kernel
theorem dX7_opens_14 : decode cX7_opens 14 = .ok (.iload_n 2, 1) := by decide +kernel
theorem dX7_opens_15 : decode cX7_opens 15 = .ok (.aload_n 0, 1) := by decide +kernel
theorem dX7_opens_16 : decode cX7_opens 16 = .ok (.getfield 19, 3) := by decide +kernel
theorem dX7_opens_19 : decode cX7_opens 19 = .ok (.iload_n 2, 1) := by decide +kernel
theorem dX7_opens_20 : decode cX7_opens 20 = .ok (.iconst 1, 1) := by decide +kernel
theorem dX7_opens_21 : decode cX7_opens 21 = .ok (.isub, 1) := by decide +kernel
theorem dX7_opens_22 : decode cX7_opens 22 = .ok (.iaload, 1) := by decide +kernel
theorem dX7_opens_23 : decode cX7_opens 23 = .ok (.iastore, 1) := by decide +kernel
theorem dX7_opens_24 : decode cX7_opens 24 = .ok (.aload_n 0, 1) := by decide +kernel
theorem dX7_opens_25 : decode cX7_opens 25 = .ok (.getfield 22, 3) := by decide +kernel
theorem dX7_opens_28 : decode cX7_opens 28 = .ok (.iload_n 2, 1) := by decide +kernel
theorem dX7_opens_29 : decode cX7_opens 29 = .ok (.aload_n 0, 1) := by decide +kernel
theorem dX7_opens_30 : decode cX7_opens 30 = .ok (.getfield 22, 3) := by decide +kernel
theorem dX7_opens_33 : decode cX7_opens 33 = .ok (.iload_n 2, 1) := by decide +kernel
theorem dX7_opens_34 : decode cX7_opens 34 = .ok (.iconst 1, 1) := by decide +kernel
theorem dX7_opens_35 : decode cX7_opens 35 = .ok (.isub, 1) := by decide +kernel
theorem dX7_opens_36 : decode cX7_opens 36 = .ok (.iaload, 1) := by decide +kernel
theorem dX7_opens_37 : decode cX7_opens 37 = .ok (.iastore, 1) := by decide +kernel
theorem dX7_opens_38 : decode cX7_opens 38 = .ok (.aload_n 0, 1) := by decide +kernel
theorem dX7_opens_39 : decode cX7_opens 39 = .ok (.getfield 25, 3) := by decide +kernel
theorem dX7_opens_42 : decode cX7_opens 42 = .ok (.iload_n 2, 1) := by decide +kernel
theorem dX7_opens_43 : decode cX7_opens 43 = .ok (.aload_n 0, 1) := by decide +kernel
theorem dX7_opens_44 : decode cX7_opens 44 = .ok (.getfield 25, 3) := by decide +kernel
theorem dX7_opens_47 : decode cX7_opens 47 = .ok (.iload_n 2, 1) := by decide +kernel
theorem dX7_opens_48 : decode cX7_opens 48 = .ok (.iconst 1, 1) := by decide +kernel
theorem dX7_opens_49 : decode cX7_opens 49 = .ok (.isub, 1) := by decide +kernel
theorem dX7_opens_50 : decode cX7_opens 50 = .ok (.iaload, 1) := by decide +kernel
theorem dX7_opens_51 : decode cX7_opens 51 = .ok (.iastore, 1) := by decide +kernel
theorem dX7_opens_52 : decode cX7_opens 52 = .ok (.aload_n 0, 1) := by decide +kernel
theorem dX7_opens_53 : decode cX7_opens 53 = .ok (.getfield 28, 3) := by decide +kernel
theorem dX7_opens_56 : decode cX7_opens 56 = .ok (.iload_n 2, 1) := by decide +kernel
theorem dX7_opens_57 : decode cX7_opens 57 = .ok (.aload_n 0, 1) := by decide +kernel
theorem dX7_opens_58 : decode cX7_opens 58 = .ok (.getfield 28, 3) := by decide +kernel
theorem dX7_opens_61 : decode cX7_opens 61 = .ok (.iload_n 2, 1) := by decide +kernel
theorem dX7_opens_62 : decode cX7_opens 62 = .ok (.iconst 1, 1) := by decide +kernel
theorem dX7_opens_63 : decode cX7_opens 63 = .ok (.isub, 1) := by decide +kernel
theorem dX7_opens_64 : decode cX7_opens 64 = .ok (.iaload, 1) := by decide +kernel
theorem dX7_opens_65 : decode cX7_opens 65 = .ok (.iastore, 1) := by decide +kernel
theorem dX7_opens_66 : decode cX7_opens 66 = .ok (.iinc 2 (-1), 3) := by decide +kernel
theorem dX7_opens_69 : decode cX7_opens 69 = .ok (.goto (-64), 3) := by decide +kernel
theorem dX7_opens_72 : decode cX7_opens 72 = .ok (.aload_n 0, 1) := by decide +kernel
theorem dX7_opens_73 : decode cX7_opens 73 = .ok (.dup, 1) := by decide +kernel
theorem dX7_opens_74 : decode cX7_opens 74 = .ok (.getfield 81, 3) := by decide +kernel
theorem dX7_opens_77 : decode cX7_opens 77 = .ok (.iconst 1, 1) := by decide +kernel
theorem dX7_opens_78 : decode cX7_opens 78 = .ok (.iadd, 1) := by decide +kernel
theorem dX7_opens_79 : decode cX7_opens 79 = .ok (.putfield 81, 3) := by decide +kernel
theorem dX7_opens_82 : decode cX7_opens 82 = .ok (.return_, 1) := by decide +kernel
theorem dX7_closes_0 : decode cX7_closes 0 = .ok (.aload_n 0, 1) := by decide +kernel
theorem dX7_closes_1 : decode cX7_closes 1 = .ok (.dup, 1) := by decide +kernel
theorem dX7_closes_2 : decode cX7_closes 2 = .ok (.getfield 81, 3) := by decide +kernel
theorem dX7_closes_5 : decode cX7_closes 5 = .ok (.iconst 1, 1) := by decide +kernel
theorem dX7_closes_6 : decode cX7_closes 6 = .ok (.isub, 1) := by decide +kernel
theorem dX7_closes_7 : decode cX7_closes 7 = .ok (.putfield 81, 3) := by decide +kernel
theorem dX7_closes_10 : decode cX7_closes 10 = .ok (.iload_n 1, 1) := by decide +kernel
theorem dX7_closes_11 : decode cX7_closes 11 = .ok (.istore_n 2, 1) := by decide +kernel
theorem dX7_closes_12 : decode cX7_closes 12 = .ok (.iload_n 2, 1) := by decide +kernel
theorem dX7_closes_13 : decode cX7_closes 13 = .ok (.aload_n 0, 1) := by decide +kernel
theorem dX7_closes_14 : decode cX7_closes 14 = .ok (.getfield 81, 3) := by decide +kernel
theorem dX7_closes_17 : decode cX7_closes 17 = .ok (.if_icmp .ge 65, 3) := by decide +kernel
theorem dX7_closes_20 : decode cX7_closes 20 = .ok (.aload_n 0, 1) := by decide +kernel
theorem dX7_closes_21 : decode cX7_closes 21 = .ok (.getfield 19, 3) := by decide +kernel
theorem dX7_closes_24 : decode cX7_closes 24 = .ok (.iload_n 2, 1) := by decide +kernel
theorem dX7_closes_25 : decode cX7_closes 25 = .ok (.aload_n 0, 1) := by decide +kernel
theorem dX7_closes_26 : decode cX7_closes 26 = .ok (.getfield 19, 3) := by decide +kernel
theorem dX7_closes_29 : decode cX7_closes 29 = .ok (.iload_n 2, 1) := by decide +kernel
theorem dX7_closes_30 : decode cX7_closes 30 = .ok (.iconst 1, 1) := by decide +kernel
theorem dX7_closes_31 : decode cX7_closes 31 = .ok (.iadd, 1) := by decide +kernel
theorem dX7_closes_32 : decode cX7_closes 32 = .ok (.iaload, 1) := by decide +kernel
theorem dX7_closes_33 : decode cX7_closes 33 = .ok (.iastore, 1) := by decide +kernel
theorem dX7_closes_34 : decode cX7_closes 34 = .ok (.aload_n 0, 1) := by decide +kernel
theorem dX7_closes_35 : decode cX7_closes 35 = .ok (.getfield 22, 3) := by decide +kernel
theorem dX7_closes_38 : decode cX7_closes 38 = .ok (.iload_n 2, 1) := by decide +kernel
theorem dX7_closes_39 : decode cX7_closes 39 = .ok (.aload_n 0, 1) := by decide +kernel
theorem dX7_closes_40 : decode cX7_closes 40 = .ok (.getfield 22, 3) := by decide +kernel
theorem dX7_closes_43 : decode cX7_closes 43 = .ok (.iload_n 2, 1) := by decide +kernel
theorem dX7_closes_44 : decode cX7_closes 44 = .ok (.iconst 1, 1) := by decide +kernel
theorem dX7_closes_45 : decode cX7_closes 45 = .ok (.iadd, 1) := by decide +kernel
theorem dX7_closes_46 : decode cX7_closes 46 = .ok (.iaload, 1) := by decide +kernel
theorem dX7_closes_47 : decode cX7_closes 47 = .ok (.iastore, 1) := by decide +kernel
theorem dX7_closes_48 : decode cX7_closes 48 = .ok (.aload_n 0, 1) := by decide +kernel
theorem dX7_closes_49 : decode cX7_closes 49 = .ok (.getfield 25, 3) := by decide +kernel
theorem dX7_closes_52 : decode cX7_closes 52 = .ok (.iload_n 2, 1) := by decide +kernel
theorem dX7_closes_53 : decode cX7_closes 53 = .ok (.aload_n 0, 1) := by decide +kernel
theorem dX7_closes_54 : decode cX7_closes 54 = .ok (.getfield 25, 3) := by decide +kernel
theorem dX7_closes_57 : decode cX7_closes 57 = .ok (.iload_n 2, 1) := by decide +kernel
theorem dX7_closes_58 : decode cX7_closes 58 = .ok (.iconst 1, 1) := by decide +kernel
theorem dX7_closes_59 : decode cX7_closes 59 = .ok (.iadd, 1) := by decide +kernel
theorem dX7_closes_60 : decode cX7_closes 60 = .ok (.iaload, 1) := by decide +kernel
theorem dX7_closes_61 : decode cX7_closes 61 = .ok (.iastore, 1) := by decide +kernel
theorem dX7_closes_62 : decode cX7_closes 62 = .ok (.aload_n 0, 1) := by decide +kernel
theorem dX7_closes_63 : decode cX7_closes 63 = .ok (.getfield 28, 3) := by decide +kernel
theorem dX7_closes_66 : decode cX7_closes 66 = .ok (.iload_n 2, 1) := by decide +kernel
theorem dX7_closes_67 : decode cX7_closes 67 = .ok (.aload_n 0, 1) := by decide +kernel
theorem dX7_closes_68 : decode cX7_closes 68 = .ok (.getfield 28, 3) := by decide +kernel
theorem dX7_closes_71 : decode cX7_closes 71 = .ok (.iload_n 2, 1) := by decide +kernel
theorem dX7_closes_72 : decode cX7_closes 72 = .ok (.iconst 1, 1) := by decide +kernel
theorem dX7_closes_73 : decode cX7_closes 73 = .ok (.iadd, 1) := by decide +kernel
theorem dX7_closes_74 : decode cX7_closes 74 = .ok (.iaload, 1) := by decide +kernel
theorem dX7_closes_75 : decode cX7_closes 75 = .ok (.iastore, 1) := by decide +kernel
theorem dX7_closes_76 : decode cX7_closes 76 = .ok (.iinc 2 1, 3) := by decide +kernel
theorem dX7_closes_79 : decode cX7_closes 79 = .ok (.goto (-67), 3) := by decide +kernel
theorem dX7_closes_82 : decode cX7_closes 82 = .ok (.return_, 1) := by decide +kernel
theorem dX7_behind_0 : decode cX7_behind 0 = .ok (.iconst 0, 1) := by decide +kernel
theorem dX7_behind_1 : decode cX7_behind 1 = .ok (.istore_n 2, 1) := by decide +kernel
theorem dX7_behind_2 : decode cX7_behind 2 = .ok (.iload_n 2, 1) := by decide +kernel
theorem dX7_behind_3 : decode cX7_behind 3 = .ok (.aload_n 0, 1) := by decide +kernel
theorem dX7_behind_4 : decode cX7_behind 4 = .ok (.getfield 81, 3) := by decide +kernel
theorem dX7_behind_7 : decode cX7_behind 7 = .ok (.if_icmp .ge 19, 3) := by decide +kernel
theorem dX7_behind_10 : decode cX7_behind 10 = .ok (.aload_n 0, 1) := by decide +kernel
theorem dX7_behind_11 : decode cX7_behind 11 = .ok (.getfield 19, 3) := by decide +kernel
theorem dX7_behind_14 : decode cX7_behind 14 = .ok (.iload_n 2, 1) := by decide +kernel
theorem dX7_behind_15 : decode cX7_behind 15 = .ok (.iaload, 1) := by decide +kernel
theorem dX7_behind_16 : decode cX7_behind 16 = .ok (.iload_n 1, 1) := by decide +kernel
theorem dX7_behind_17 : decode cX7_behind 17 = .ok (.if_icmp .gt 9, 3) := by decide +kernel
theorem dX7_behind_20 : decode cX7_behind 20 = .ok (.iinc 2 1, 3) := by decide +kernel
theorem dX7_behind_23 : decode cX7_behind 23 = .ok (.goto (-21), 3) := by decide +kernel
theorem dX7_behind_26 : decode cX7_behind 26 = .ok (.iload_n 2, 1) := by decide +kernel
theorem dX7_behind_27 : decode cX7_behind 27 = .ok (.ireturn, 1) := by decide +kernel
theorem dX7_comes_0 : decode cX7_comes 0 = .ok (.aload_n 0, 1) := by decide +kernel
theorem dX7_comes_1 : decode cX7_comes 1 = .ok (.iload_n 1, 1) := by decide +kernel
theorem dX7_comes_2 : decode cX7_comes 2 = .ok (.invokevirtual 131, 3) := by decide +kernel
theorem dX7_comes_5 : decode cX7_comes 5 = .ok (.aload_n 0, 1) := by decide +kernel
theorem dX7_comes_6 : decode cX7_comes 6 = .ok (.getfield 19, 3) := by decide +kernel
theorem dX7_comes_9 : decode cX7_comes 9 = .ok (.iload_n 1, 1) := by decide +kernel
theorem dX7_comes_10 : decode cX7_comes 10 = .ok (.iload_n 2, 1) := by decide +kernel
theorem dX7_comes_11 : decode cX7_comes 11 = .ok (.iastore, 1) := by decide +kernel
theorem dX7_comes_12 : decode cX7_comes 12 = .ok (.aload_n 0, 1) := by decide +kernel
theorem dX7_comes_13 : decode cX7_comes 13 = .ok (.getfield 22, 3) := by decide +kernel
theorem dX7_comes_16 : decode cX7_comes 16 = .ok (.iload_n 1, 1) := by decide +kernel
theorem dX7_comes_17 : decode cX7_comes 17 = .ok (.iload_n 3, 1) := by decide +kernel
theorem dX7_comes_18 : decode cX7_comes 18 = .ok (.iastore, 1) := by decide +kernel
theorem dX7_comes_19 : decode cX7_comes 19 = .ok (.aload_n 0, 1) := by decide +kernel
theorem dX7_comes_20 : decode cX7_comes 20 = .ok (.getfield 25, 3) := by decide +kernel
theorem dX7_comes_23 : decode cX7_comes 23 = .ok (.iload_n 1, 1) := by decide +kernel
theorem dX7_comes_24 : decode cX7_comes 24 = .ok (.iconst (-1), 1) := by decide +kernel
theorem dX7_comes_25 : decode cX7_comes 25 = .ok (.iastore, 1) := by decide +kernel
theorem dX7_comes_26 : decode cX7_comes 26 = .ok (.aload_n 0, 1) := by decide +kernel
theorem dX7_comes_27 : decode cX7_comes 27 = .ok (.getfield 28, 3) := by decide +kernel
theorem dX7_comes_30 : decode cX7_comes 30 = .ok (.iload_n 1, 1) := by decide +kernel
theorem dX7_comes_31 : decode cX7_comes 31 = .ok (.iconst 0, 1) := by decide +kernel
theorem dX7_comes_32 : decode cX7_comes 32 = .ok (.iastore, 1) := by decide +kernel
theorem dX7_comes_33 : decode cX7_comes 33 = .ok (.return_, 1) := by decide +kernel
theorem dX7_laysGoals_0 : decode cX7_laysGoals 0 = .ok (.iconst 0, 1) := by decide +kernel
theorem dX7_laysGoals_1 : decode cX7_laysGoals 1 = .ok (.istore_n 1, 1) := by decide +kernel
theorem dX7_laysGoals_2 : decode cX7_laysGoals 2 = .ok (.iconst 0, 1) := by decide +kernel
theorem dX7_laysGoals_3 : decode cX7_laysGoals 3 = .ok (.istore_n 2, 1) := by decide +kernel
theorem dX7_laysGoals_4 : decode cX7_laysGoals 4 = .ok (.iload_n 2, 1) := by decide +kernel
theorem dX7_laysGoals_5 : decode cX7_laysGoals 5 = .ok (.aload_n 0, 1) := by decide +kernel
theorem dX7_laysGoals_6 : decode cX7_laysGoals 6 = .ok (.getfield 71, 3) := by decide +kernel
theorem dX7_laysGoals_9 : decode cX7_laysGoals 9 = .ok (.if_icmp .ge 37, 3) := by decide +kernel
theorem dX7_laysGoals_12 : decode cX7_laysGoals 12 = .ok (.iconst 0, 1) := by decide +kernel
theorem dX7_laysGoals_13 : decode cX7_laysGoals 13 = .ok (.istore_n 3, 1) := by decide +kernel
theorem dX7_laysGoals_14 : decode cX7_laysGoals 14 = .ok (.iload_n 3, 1) := by decide +kernel
theorem dX7_laysGoals_15 : decode cX7_laysGoals 15 = .ok (.aload_n 0, 1) := by decide +kernel
theorem dX7_laysGoals_16 : decode cX7_laysGoals 16 = .ok (.getfield 47, 3) := by decide +kernel
theorem dX7_laysGoals_19 : decode cX7_laysGoals 19 = .ok (.iload_n 2, 1) := by decide +kernel
theorem dX7_laysGoals_20 : decode cX7_laysGoals 20 = .ok (.iaload, 1) := by decide +kernel
theorem dX7_laysGoals_21 : decode cX7_laysGoals 21 = .ok (.if_icmp .ge 19, 3) := by decide +kernel
theorem dX7_laysGoals_24 : decode cX7_laysGoals 24 = .ok (.aload_n 0, 1) := by decide +kernel
theorem dX7_laysGoals_25 : decode cX7_laysGoals 25 = .ok (.getfield 53, 3) := by decide +kernel
theorem dX7_laysGoals_28 : decode cX7_laysGoals 28 = .ok (.iload_n 1, 1) := by decide +kernel
theorem dX7_laysGoals_29 : decode cX7_laysGoals 29 = .ok (.iload_n 2, 1) := by decide +kernel
theorem dX7_laysGoals_30 : decode cX7_laysGoals 30 = .ok (.iastore, 1) := by decide +kernel
theorem dX7_laysGoals_31 : decode cX7_laysGoals 31 = .ok (.iinc 1 1, 3) := by decide +kernel
theorem dX7_laysGoals_34 : decode cX7_laysGoals 34 = .ok (.iinc 3 1, 3) := by decide +kernel
theorem dX7_laysGoals_37 : decode cX7_laysGoals 37 = .ok (.goto (-23), 3) := by decide +kernel
theorem dX7_laysGoals_40 : decode cX7_laysGoals 40 = .ok (.iinc 2 1, 3) := by decide +kernel
theorem dX7_laysGoals_43 : decode cX7_laysGoals 43 = .ok (.goto (-39), 3) := by decide +kernel
theorem dX7_laysGoals_46 : decode cX7_laysGoals 46 = .ok (.return_, 1) := by decide +kernel
theorem dX7_book_0 : decode cX7_book 0 = .ok (.aload_n 0, 1) := by decide +kernel
theorem dX7_book_1 : decode cX7_book 1 = .ok (.iconst 0, 1) := by decide +kernel
theorem dX7_book_2 : decode cX7_book 2 = .ok (.putfield 68, 3) := by decide +kernel
theorem dX7_book_5 : decode cX7_book 5 = .ok (.aload_n 0, 1) := by decide +kernel
theorem dX7_book_6 : decode cX7_book 6 = .ok (.getfield 81, 3) := by decide +kernel
theorem dX7_book_9 : decode cX7_book 9 = .ok (.bipush 60, 2) := by decide +kernel
theorem dX7_book_11 : decode cX7_book 11 = .ok (.if_icmp .eq 21, 3) := by decide +kernel
theorem dX7_book_14 : decode cX7_book 14 = .ok (.aload_n 0, 1) := by decide +kernel
theorem dX7_book_15 : decode cX7_book 15 = .ok (.iload_n 1, 1) := by decide +kernel
theorem dX7_book_16 : decode cX7_book 16 = .ok (.invokevirtual 135, 3) := by decide +kernel
theorem dX7_book_19 : decode cX7_book 19 = .ok (.ifCond .eq 13, 3) := by decide +kernel
theorem dX7_book_22 : decode cX7_book 22 = .ok (.iload_n 2, 1) := by decide +kernel
theorem dX7_book_23 : decode cX7_book 23 = .ok (.iconst 1, 1) := by decide +kernel
theorem dX7_book_24 : decode cX7_book 24 = .ok (.bipush 40, 2) := by decide +kernel
theorem dX7_book_26 : decode cX7_book 26 = .ok (.invokestatic 74, 3) := by decide +kernel
theorem dX7_book_29 : decode cX7_book 29 = .ok (.ifCond .ne 5, 3) := by decide +kernel
theorem dX7_book_32 : decode cX7_book 32 = .ok (.iconst (-1), 1) := by decide +kernel
theorem dX7_book_33 : decode cX7_book 33 = .ok (.ireturn, 1) := by decide +kernel
theorem dX7_book_34 : decode cX7_book 34 = .ok (.aload_n 0, 1) := by decide +kernel
theorem dX7_book_35 : decode cX7_book 35 = .ok (.iload_n 1, 1) := by decide +kernel
theorem dX7_book_36 : decode cX7_book 36 = .ok (.invokevirtual 138, 3) := by decide +kernel
theorem dX7_book_39 : decode cX7_book 39 = .ok (.istore_n 3, 1) := by decide +kernel
theorem dX7_book_40 : decode cX7_book 40 = .ok (.aload_n 0, 1) := by decide +kernel
theorem dX7_book_41 : decode cX7_book 41 = .ok (.iload_n 3, 1) := by decide +kernel
theorem dX7_book_42 : decode cX7_book 42 = .ok (.iload_n 1, 1) := by decide +kernel
theorem dX7_book_43 : decode cX7_book 43 = .ok (.iload_n 2, 1) := by decide +kernel
theorem dX7_book_44 : decode cX7_book 44 = .ok (.invokevirtual 141, 3) := by decide +kernel
theorem dX7_book_47 : decode cX7_book 47 = .ok (.aload_n 0, 1) := by decide +kernel
theorem dX7_book_48 : decode cX7_book 48 = .ok (.iconst 0, 1) := by decide +kernel
theorem dX7_book_49 : decode cX7_book 49 = .ok (.invokevirtual 124, 3) := by decide +kernel
theorem dX7_book_52 : decode cX7_book 52 = .ok (.ifCond .ne 10, 3) := by decide +kernel
theorem dX7_book_55 : decode cX7_book 55 = .ok (.aload_n 0, 1) := by decide +kernel
theorem dX7_book_56 : decode cX7_book 56 = .ok (.iload_n 3, 1) := by decide +kernel
theorem dX7_book_57 : decode cX7_book 57 = .ok (.invokevirtual 145, 3) := by decide +kernel
theorem dX7_book_60 : decode cX7_book 60 = .ok (.iconst (-1), 1) := by decide +kernel
theorem dX7_book_61 : decode cX7_book 61 = .ok (.ireturn, 1) := by decide +kernel
theorem dX7_book_62 : decode cX7_book 62 = .ok (.aload_n 0, 1) := by decide +kernel
theorem dX7_book_63 : decode cX7_book 63 = .ok (.invokevirtual 148, 3) := by decide +kernel
theorem dX7_book_66 : decode cX7_book 66 = .ok (.aload_n 0, 1) := by decide +kernel
theorem dX7_book_67 : decode cX7_book 67 = .ok (.getfield 53, 3) := by decide +kernel
theorem dX7_book_70 : decode cX7_book 70 = .ok (.iload_n 3, 1) := by decide +kernel
theorem dX7_book_71 : decode cX7_book 71 = .ok (.iaload, 1) := by decide +kernel
theorem dX7_book_72 : decode cX7_book 72 = .ok (.istore 4, 2) := by decide +kernel
theorem dX7_book_74 : decode cX7_book 74 = .ok (.iload_n 3, 1) := by decide +kernel
theorem dX7_book_75 : decode cX7_book 75 = .ok (.istore 5, 2) := by decide +kernel
theorem dX7_book_77 : decode cX7_book 77 = .ok (.iload 5, 2) := by decide +kernel
theorem dX7_book_79 : decode cX7_book 79 = .ok (.aload_n 0, 1) := by decide +kernel
theorem dX7_book_80 : decode cX7_book 80 = .ok (.getfield 81, 3) := by decide +kernel
theorem dX7_book_83 : decode cX7_book 83 = .ok (.iconst 1, 1) := by decide +kernel
theorem dX7_book_84 : decode cX7_book 84 = .ok (.isub, 1) := by decide +kernel
theorem dX7_book_85 : decode cX7_book 85 = .ok (.if_icmp .ge 25, 3) := by decide +kernel
theorem dX7_book_88 : decode cX7_book 88 = .ok (.aload_n 0, 1) := by decide +kernel
theorem dX7_book_89 : decode cX7_book 89 = .ok (.getfield 53, 3) := by decide +kernel
theorem dX7_book_92 : decode cX7_book 92 = .ok (.iload 5, 2) := by decide +kernel
theorem dX7_book_94 : decode cX7_book 94 = .ok (.aload_n 0, 1) := by decide +kernel
theorem dX7_book_95 : decode cX7_book 95 = .ok (.getfield 53, 3) := by decide +kernel
theorem dX7_book_98 : decode cX7_book 98 = .ok (.iload 5, 2) := by decide +kernel
theorem dX7_book_100 : decode cX7_book 100 = .ok (.iconst 1, 1) := by decide +kernel
theorem dX7_book_101 : decode cX7_book 101 = .ok (.iadd, 1) := by decide +kernel
theorem dX7_book_102 : decode cX7_book 102 = .ok (.iaload, 1) := by decide +kernel
theorem dX7_book_103 : decode cX7_book 103 = .ok (.iastore, 1) := by decide +kernel
theorem dX7_book_104 : decode cX7_book 104 = .ok (.iinc 5 1, 3) := by decide +kernel
theorem dX7_book_107 : decode cX7_book 107 = .ok (.goto (-30), 3) := by decide +kernel
theorem dX7_book_110 : decode cX7_book 110 = .ok (.aload_n 0, 1) := by decide +kernel
theorem dX7_book_111 : decode cX7_book 111 = .ok (.iload_n 3, 1) := by decide +kernel
theorem dX7_book_112 : decode cX7_book 112 = .ok (.invokevirtual 145, 3) := by decide +kernel
theorem dX7_book_115 : decode cX7_book 115 = .ok (.aload_n 0, 1) := by decide +kernel
theorem dX7_book_116 : decode cX7_book 116 = .ok (.invokevirtual 151, 3) := by decide +kernel
theorem dX7_book_119 : decode cX7_book 119 = .ok (.aload_n 0, 1) := by decide +kernel
theorem dX7_book_120 : decode cX7_book 120 = .ok (.getfield 81, 3) := by decide +kernel
theorem dX7_book_123 : decode cX7_book 123 = .ok (.iconst 1, 1) := by decide +kernel
theorem dX7_book_124 : decode cX7_book 124 = .ok (.isub, 1) := by decide +kernel
theorem dX7_book_125 : decode cX7_book 125 = .ok (.istore 5, 2) := by decide +kernel
theorem dX7_book_127 : decode cX7_book 127 = .ok (.iload 5, 2) := by decide +kernel
theorem dX7_book_129 : decode cX7_book 129 = .ok (.ifCond .lt 39, 3) := by decide +kernel
theorem dX7_book_132 : decode cX7_book 132 = .ok (.aload_n 0, 1) := by decide +kernel
theorem dX7_book_133 : decode cX7_book 133 = .ok (.getfield 53, 3) := by decide +kernel
theorem dX7_book_136 : decode cX7_book 136 = .ok (.iload 5, 2) := by decide +kernel
theorem dX7_book_138 : decode cX7_book 138 = .ok (.iaload, 1) := by decide +kernel
theorem dX7_book_139 : decode cX7_book 139 = .ok (.aload_n 0, 1) := by decide +kernel
theorem dX7_book_140 : decode cX7_book 140 = .ok (.getfield 25, 3) := by decide +kernel
theorem dX7_book_143 : decode cX7_book 143 = .ok (.iload 5, 2) := by decide +kernel
theorem dX7_book_145 : decode cX7_book 145 = .ok (.iaload, 1) := by decide +kernel
theorem dX7_book_146 : decode cX7_book 146 = .ok (.if_icmp .le 16, 3) := by decide +kernel
theorem dX7_book_149 : decode cX7_book 149 = .ok (.aload_n 0, 1) := by decide +kernel
theorem dX7_book_150 : decode cX7_book 150 = .ok (.iload 5, 2) := by decide +kernel
theorem dX7_book_152 : decode cX7_book 152 = .ok (.aload_n 0, 1) := by decide +kernel
theorem dX7_book_153 : decode cX7_book 153 = .ok (.getfield 53, 3) := by decide +kernel
theorem dX7_book_156 : decode cX7_book 156 = .ok (.iload 5, 2) := by decide +kernel
theorem dX7_book_158 : decode cX7_book 158 = .ok (.iaload, 1) := by decide +kernel
theorem dX7_book_159 : decode cX7_book 159 = .ok (.invokevirtual 154, 3) := by decide +kernel
theorem dX7_book_162 : decode cX7_book 162 = .ok (.iinc 5 (-1), 3) := by decide +kernel
theorem dX7_book_165 : decode cX7_book 165 = .ok (.goto (-38), 3) := by decide +kernel
theorem dX7_book_168 : decode cX7_book 168 = .ok (.iconst 0, 1) := by decide +kernel
theorem dX7_book_169 : decode cX7_book 169 = .ok (.istore 5, 2) := by decide +kernel
theorem dX7_book_171 : decode cX7_book 171 = .ok (.iload 5, 2) := by decide +kernel
theorem dX7_book_173 : decode cX7_book 173 = .ok (.aload_n 0, 1) := by decide +kernel
theorem dX7_book_174 : decode cX7_book 174 = .ok (.getfield 81, 3) := by decide +kernel
theorem dX7_book_177 : decode cX7_book 177 = .ok (.if_icmp .ge 39, 3) := by decide +kernel
theorem dX7_book_180 : decode cX7_book 180 = .ok (.aload_n 0, 1) := by decide +kernel
theorem dX7_book_181 : decode cX7_book 181 = .ok (.getfield 53, 3) := by decide +kernel
theorem dX7_book_184 : decode cX7_book 184 = .ok (.iload 5, 2) := by decide +kernel
theorem dX7_book_186 : decode cX7_book 186 = .ok (.iaload, 1) := by decide +kernel
theorem dX7_book_187 : decode cX7_book 187 = .ok (.aload_n 0, 1) := by decide +kernel
theorem dX7_book_188 : decode cX7_book 188 = .ok (.getfield 25, 3) := by decide +kernel
theorem dX7_book_191 : decode cX7_book 191 = .ok (.iload 5, 2) := by decide +kernel
theorem dX7_book_193 : decode cX7_book 193 = .ok (.iaload, 1) := by decide +kernel
theorem dX7_book_194 : decode cX7_book 194 = .ok (.if_icmp .ge 16, 3) := by decide +kernel
theorem dX7_book_197 : decode cX7_book 197 = .ok (.aload_n 0, 1) := by decide +kernel
theorem dX7_book_198 : decode cX7_book 198 = .ok (.iload 5, 2) := by decide +kernel
theorem dX7_book_200 : decode cX7_book 200 = .ok (.aload_n 0, 1) := by decide +kernel
theorem dX7_book_201 : decode cX7_book 201 = .ok (.getfield 53, 3) := by decide +kernel
theorem dX7_book_204 : decode cX7_book 204 = .ok (.iload 5, 2) := by decide +kernel
theorem dX7_book_206 : decode cX7_book 206 = .ok (.iaload, 1) := by decide +kernel
theorem dX7_book_207 : decode cX7_book 207 = .ok (.invokevirtual 154, 3) := by decide +kernel
theorem dX7_book_210 : decode cX7_book 210 = .ok (.iinc 5 1, 3) := by decide +kernel
theorem dX7_book_213 : decode cX7_book 213 = .ok (.goto (-42), 3) := by decide +kernel
theorem dX7_book_216 : decode cX7_book 216 = .ok (.aload_n 0, 1) := by decide +kernel
theorem dX7_book_217 : decode cX7_book 217 = .ok (.iload_n 3, 1) := by decide +kernel
theorem dX7_book_218 : decode cX7_book 218 = .ok (.iload_n 1, 1) := by decide +kernel
theorem dX7_book_219 : decode cX7_book 219 = .ok (.iload_n 2, 1) := by decide +kernel
theorem dX7_book_220 : decode cX7_book 220 = .ok (.invokevirtual 141, 3) := by decide +kernel
theorem dX7_book_223 : decode cX7_book 223 = .ok (.aload_n 0, 1) := by decide +kernel
theorem dX7_book_224 : decode cX7_book 224 = .ok (.getfield 25, 3) := by decide +kernel
theorem dX7_book_227 : decode cX7_book 227 = .ok (.iload_n 3, 1) := by decide +kernel
theorem dX7_book_228 : decode cX7_book 228 = .ok (.iload 4, 2) := by decide +kernel
theorem dX7_book_230 : decode cX7_book 230 = .ok (.iastore, 1) := by decide +kernel
theorem dX7_book_231 : decode cX7_book 231 = .ok (.aload_n 0, 1) := by decide +kernel
theorem dX7_book_232 : decode cX7_book 232 = .ok (.iconst 0, 1) := by decide +kernel
theorem dX7_book_233 : decode cX7_book 233 = .ok (.iload_n 3, 1) := by decide +kernel
theorem dX7_book_234 : decode cX7_book 234 = .ok (.iconst (-1), 1) := by decide +kernel
theorem dX7_book_235 : decode cX7_book 235 = .ok (.iload 4, 2) := by decide +kernel
theorem dX7_book_237 : decode cX7_book 237 = .ok (.invokevirtual 157, 3) := by decide +kernel
theorem dX7_book_240 : decode cX7_book 240 = .ok (.iload_n 3, 1) := by decide +kernel
theorem dX7_book_241 : decode cX7_book 241 = .ok (.ireturn, 1) := by decide +kernel
theorem dX7_gone_0 : decode cX7_gone 0 = .ok (.aload_n 0, 1) := by decide +kernel
theorem dX7_gone_1 : decode cX7_gone 1 = .ok (.iconst 0, 1) := by decide +kernel
theorem dX7_gone_2 : decode cX7_gone 2 = .ok (.putfield 68, 3) := by decide +kernel
theorem dX7_gone_5 : decode cX7_gone 5 = .ok (.aload_n 0, 1) := by decide +kernel
theorem dX7_gone_6 : decode cX7_gone 6 = .ok (.iload_n 1, 1) := by decide +kernel
theorem dX7_gone_7 : decode cX7_gone 7 = .ok (.invokevirtual 161, 3) := by decide +kernel
theorem dX7_gone_10 : decode cX7_gone 10 = .ok (.ifCond .ne 5, 3) := by decide +kernel
theorem dX7_gone_13 : decode cX7_gone 13 = .ok (.iconst (-1), 1) := by decide +kernel
theorem dX7_gone_14 : decode cX7_gone 14 = .ok (.ireturn, 1) := by decide +kernel
theorem dX7_gone_15 : decode cX7_gone 15 = .ok (.aload_n 0, 1) := by decide +kernel
theorem dX7_gone_16 : decode cX7_gone 16 = .ok (.getfield 25, 3) := by decide +kernel
theorem dX7_gone_19 : decode cX7_gone 19 = .ok (.iload_n 1, 1) := by decide +kernel
theorem dX7_gone_20 : decode cX7_gone 20 = .ok (.iaload, 1) := by decide +kernel
theorem dX7_gone_21 : decode cX7_gone 21 = .ok (.istore_n 2, 1) := by decide +kernel
theorem dX7_gone_22 : decode cX7_gone 22 = .ok (.aload_n 0, 1) := by decide +kernel
theorem dX7_gone_23 : decode cX7_gone 23 = .ok (.iconst 3, 1) := by decide +kernel
theorem dX7_gone_24 : decode cX7_gone 24 = .ok (.iload_n 1, 1) := by decide +kernel
theorem dX7_gone_25 : decode cX7_gone 25 = .ok (.iload_n 2, 1) := by decide +kernel
theorem dX7_gone_26 : decode cX7_gone 26 = .ok (.iconst (-1), 1) := by decide +kernel
theorem dX7_gone_27 : decode cX7_gone 27 = .ok (.invokevirtual 157, 3) := by decide +kernel
theorem dX7_gone_30 : decode cX7_gone 30 = .ok (.aload_n 0, 1) := by decide +kernel
theorem dX7_gone_31 : decode cX7_gone 31 = .ok (.iload_n 1, 1) := by decide +kernel
theorem dX7_gone_32 : decode cX7_gone 32 = .ok (.invokevirtual 145, 3) := by decide +kernel
theorem dX7_gone_35 : decode cX7_gone 35 = .ok (.aload_n 0, 1) := by decide +kernel
theorem dX7_gone_36 : decode cX7_gone 36 = .ok (.invokevirtual 151, 3) := by decide +kernel
theorem dX7_gone_39 : decode cX7_gone 39 = .ok (.iload_n 2, 1) := by decide +kernel
theorem dX7_gone_40 : decode cX7_gone 40 = .ok (.ireturn, 1) := by decide +kernel
theorem dX7_more_0 : decode cX7_more 0 = .ok (.aload_n 0, 1) := by decide +kernel
theorem dX7_more_1 : decode cX7_more 1 = .ok (.iconst 0, 1) := by decide +kernel
theorem dX7_more_2 : decode cX7_more 2 = .ok (.putfield 68, 3) := by decide +kernel
theorem dX7_more_5 : decode cX7_more 5 = .ok (.aload_n 0, 1) := by decide +kernel
theorem dX7_more_6 : decode cX7_more 6 = .ok (.iload_n 1, 1) := by decide +kernel
theorem dX7_more_7 : decode cX7_more 7 = .ok (.invokevirtual 135, 3) := by decide +kernel
theorem dX7_more_10 : decode cX7_more 10 = .ok (.ifCond .eq 13, 3) := by decide +kernel
theorem dX7_more_13 : decode cX7_more 13 = .ok (.iload_n 2, 1) := by decide +kernel
theorem dX7_more_14 : decode cX7_more 14 = .ok (.iconst 1, 1) := by decide +kernel
theorem dX7_more_15 : decode cX7_more 15 = .ok (.bipush 40, 2) := by decide +kernel
theorem dX7_more_17 : decode cX7_more 17 = .ok (.invokestatic 74, 3) := by decide +kernel
theorem dX7_more_20 : decode cX7_more 20 = .ok (.ifCond .ne 5, 3) := by decide +kernel
theorem dX7_more_23 : decode cX7_more 23 = .ok (.iconst (-1), 1) := by decide +kernel
theorem dX7_more_24 : decode cX7_more 24 = .ok (.ireturn, 1) := by decide +kernel
theorem dX7_more_25 : decode cX7_more 25 = .ok (.aload_n 0, 1) := by decide +kernel
theorem dX7_more_26 : decode cX7_more 26 = .ok (.iload_n 1, 1) := by decide +kernel
theorem dX7_more_27 : decode cX7_more 27 = .ok (.invokevirtual 138, 3) := by decide +kernel
theorem dX7_more_30 : decode cX7_more 30 = .ok (.istore_n 3, 1) := by decide +kernel
theorem dX7_more_31 : decode cX7_more 31 = .ok (.iconst 0, 1) := by decide +kernel
theorem dX7_more_32 : decode cX7_more 32 = .ok (.istore 4, 2) := by decide +kernel
theorem dX7_more_34 : decode cX7_more 34 = .ok (.iconst 1, 1) := by decide +kernel
theorem dX7_more_35 : decode cX7_more 35 = .ok (.istore 5, 2) := by decide +kernel
theorem dX7_more_37 : decode cX7_more 37 = .ok (.iload 5, 2) := by decide +kernel
theorem dX7_more_39 : decode cX7_more 39 = .ok (.ifCond .eq 55, 3) := by decide +kernel
theorem dX7_more_42 : decode cX7_more 42 = .ok (.aload_n 0, 1) := by decide +kernel
theorem dX7_more_43 : decode cX7_more 43 = .ok (.getfield 81, 3) := by decide +kernel
theorem dX7_more_46 : decode cX7_more 46 = .ok (.bipush 60, 2) := by decide +kernel
theorem dX7_more_48 : decode cX7_more 48 = .ok (.if_icmp .ge 46, 3) := by decide +kernel
theorem dX7_more_51 : decode cX7_more 51 = .ok (.aload_n 0, 1) := by decide +kernel
theorem dX7_more_52 : decode cX7_more 52 = .ok (.iload_n 3, 1) := by decide +kernel
theorem dX7_more_53 : decode cX7_more 53 = .ok (.iload_n 1, 1) := by decide +kernel
theorem dX7_more_54 : decode cX7_more 54 = .ok (.iload_n 2, 1) := by decide +kernel
theorem dX7_more_55 : decode cX7_more 55 = .ok (.invokevirtual 141, 3) := by decide +kernel
theorem dX7_more_58 : decode cX7_more 58 = .ok (.aload_n 0, 1) := by decide +kernel
theorem dX7_more_59 : decode cX7_more 59 = .ok (.iconst 0, 1) := by decide +kernel
theorem dX7_more_60 : decode cX7_more 60 = .ok (.iconst 1, 1) := by decide +kernel
theorem dX7_more_61 : decode cX7_more 61 = .ok (.invokevirtual 127, 3) := by decide +kernel
theorem dX7_more_64 : decode cX7_more 64 = .ok (.istore 5, 2) := by decide +kernel
theorem dX7_more_66 : decode cX7_more 66 = .ok (.iload 4, 2) := by decide +kernel
theorem dX7_more_68 : decode cX7_more 68 = .ok (.iload 5, 2) := by decide +kernel
theorem dX7_more_70 : decode cX7_more 70 = .ok (.ifCond .eq 7, 3) := by decide +kernel
theorem dX7_more_73 : decode cX7_more 73 = .ok (.iconst 1, 1) := by decide +kernel
theorem dX7_more_74 : decode cX7_more 74 = .ok (.goto 4, 3) := by decide +kernel
theorem dX7_more_77 : decode cX7_more 77 = .ok (.iconst 0, 1) := by decide +kernel
theorem dX7_more_78 : decode cX7_more 78 = .ok (.iadd, 1) := by decide +kernel
theorem dX7_more_79 : decode cX7_more 79 = .ok (.istore 4, 2) := by decide +kernel
theorem dX7_more_81 : decode cX7_more 81 = .ok (.iload 5, 2) := by decide +kernel
theorem dX7_more_83 : decode cX7_more 83 = .ok (.ifCond .ne (-46), 3) := by decide +kernel
theorem dX7_more_86 : decode cX7_more 86 = .ok (.aload_n 0, 1) := by decide +kernel
theorem dX7_more_87 : decode cX7_more 87 = .ok (.iload_n 3, 1) := by decide +kernel
theorem dX7_more_88 : decode cX7_more 88 = .ok (.invokevirtual 145, 3) := by decide +kernel
theorem dX7_more_91 : decode cX7_more 91 = .ok (.goto (-54), 3) := by decide +kernel
theorem dX7_more_94 : decode cX7_more 94 = .ok (.iconst 0, 1) := by decide +kernel
theorem dX7_more_95 : decode cX7_more 95 = .ok (.istore 6, 2) := by decide +kernel
theorem dX7_more_97 : decode cX7_more 97 = .ok (.iload 6, 2) := by decide +kernel
theorem dX7_more_99 : decode cX7_more 99 = .ok (.iload 4, 2) := by decide +kernel
theorem dX7_more_101 : decode cX7_more 101 = .ok (.if_icmp .ge 14, 3) := by decide +kernel
theorem dX7_more_104 : decode cX7_more 104 = .ok (.aload_n 0, 1) := by decide +kernel
theorem dX7_more_105 : decode cX7_more 105 = .ok (.iload_n 3, 1) := by decide +kernel
theorem dX7_more_106 : decode cX7_more 106 = .ok (.invokevirtual 145, 3) := by decide +kernel
theorem dX7_more_109 : decode cX7_more 109 = .ok (.iinc 6 1, 3) := by decide +kernel
theorem dX7_more_112 : decode cX7_more 112 = .ok (.goto (-15), 3) := by decide +kernel
theorem dX7_more_115 : decode cX7_more 115 = .ok (.iload 4, 2) := by decide +kernel
theorem dX7_more_117 : decode cX7_more 117 = .ok (.ireturn, 1) := by decide +kernel
theorem dX7_ends_0 : decode cX7_ends 0 = .ok (.aload_n 0, 1) := by decide +kernel
theorem dX7_ends_1 : decode cX7_ends 1 = .ok (.iconst 0, 1) := by decide +kernel
theorem dX7_ends_2 : decode cX7_ends 2 = .ok (.putfield 164, 3) := by decide +kernel
theorem dX7_ends_5 : decode cX7_ends 5 = .ok (.return_, 1) := by decide +kernel
theorem dX7_moves_0 : decode cX7_moves 0 = .ok (.aload_n 0, 1) := by decide +kernel
theorem dX7_moves_1 : decode cX7_moves 1 = .ok (.iload_n 2, 1) := by decide +kernel
theorem dX7_moves_2 : decode cX7_moves 2 = .ok (.aload_n 0, 1) := by decide +kernel
theorem dX7_moves_3 : decode cX7_moves 3 = .ok (.getfield 25, 3) := by decide +kernel
theorem dX7_moves_6 : decode cX7_moves 6 = .ok (.iload_n 1, 1) := by decide +kernel
theorem dX7_moves_7 : decode cX7_moves 7 = .ok (.iaload, 1) := by decide +kernel
theorem dX7_moves_8 : decode cX7_moves 8 = .ok (.if_icmp .le 7, 3) := by decide +kernel
theorem dX7_moves_11 : decode cX7_moves 11 = .ok (.iconst 1, 1) := by decide +kernel
theorem dX7_moves_12 : decode cX7_moves 12 = .ok (.goto 4, 3) := by decide +kernel
theorem dX7_moves_15 : decode cX7_moves 15 = .ok (.iconst 2, 1) := by decide +kernel
theorem dX7_moves_16 : decode cX7_moves 16 = .ok (.iload_n 1, 1) := by decide +kernel
theorem dX7_moves_17 : decode cX7_moves 17 = .ok (.aload_n 0, 1) := by decide +kernel
theorem dX7_moves_18 : decode cX7_moves 18 = .ok (.getfield 25, 3) := by decide +kernel
theorem dX7_moves_21 : decode cX7_moves 21 = .ok (.iload_n 1, 1) := by decide +kernel
theorem dX7_moves_22 : decode cX7_moves 22 = .ok (.iaload, 1) := by decide +kernel
theorem dX7_moves_23 : decode cX7_moves 23 = .ok (.iload_n 2, 1) := by decide +kernel
theorem dX7_moves_24 : decode cX7_moves 24 = .ok (.invokevirtual 157, 3) := by decide +kernel
theorem dX7_moves_27 : decode cX7_moves 27 = .ok (.aload_n 0, 1) := by decide +kernel
theorem dX7_moves_28 : decode cX7_moves 28 = .ok (.getfield 25, 3) := by decide +kernel
theorem dX7_moves_31 : decode cX7_moves 31 = .ok (.iload_n 1, 1) := by decide +kernel
theorem dX7_moves_32 : decode cX7_moves 32 = .ok (.iload_n 2, 1) := by decide +kernel
theorem dX7_moves_33 : decode cX7_moves 33 = .ok (.iastore, 1) := by decide +kernel
theorem dX7_moves_34 : decode cX7_moves 34 = .ok (.aload_n 0, 1) := by decide +kernel
theorem dX7_moves_35 : decode cX7_moves 35 = .ok (.getfield 28, 3) := by decide +kernel
theorem dX7_moves_38 : decode cX7_moves 38 = .ok (.iload_n 1, 1) := by decide +kernel
theorem dX7_moves_39 : decode cX7_moves 39 = .ok (.dup2, 1) := by decide +kernel
theorem dX7_moves_40 : decode cX7_moves 40 = .ok (.iaload, 1) := by decide +kernel
theorem dX7_moves_41 : decode cX7_moves 41 = .ok (.iconst 1, 1) := by decide +kernel
theorem dX7_moves_42 : decode cX7_moves 42 = .ok (.iadd, 1) := by decide +kernel
theorem dX7_moves_43 : decode cX7_moves 43 = .ok (.iastore, 1) := by decide +kernel
theorem dX7_moves_44 : decode cX7_moves 44 = .ok (.aload_n 0, 1) := by decide +kernel
theorem dX7_moves_45 : decode cX7_moves 45 = .ok (.dup, 1) := by decide +kernel
theorem dX7_moves_46 : decode cX7_moves 46 = .ok (.getfield 168, 3) := by decide +kernel
theorem dX7_moves_49 : decode cX7_moves 49 = .ok (.iconst 1, 1) := by decide +kernel
theorem dX7_moves_50 : decode cX7_moves 50 = .ok (.iadd, 1) := by decide +kernel
theorem dX7_moves_51 : decode cX7_moves 51 = .ok (.putfield 168, 3) := by decide +kernel
theorem dX7_moves_54 : decode cX7_moves 54 = .ok (.return_, 1) := by decide +kernel
theorem dX7_plans_0 : decode cX7_plans 0 = .ok (.aload_n 0, 1) := by decide +kernel
theorem dX7_plans_1 : decode cX7_plans 1 = .ok (.getfield 56, 3) := by decide +kernel
theorem dX7_plans_4 : decode cX7_plans 4 = .ok (.aload_n 0, 1) := by decide +kernel
theorem dX7_plans_5 : decode cX7_plans 5 = .ok (.getfield 171, 3) := by decide +kernel
theorem dX7_plans_8 : decode cX7_plans 8 = .ok (.iload_n 1, 1) := by decide +kernel
theorem dX7_plans_9 : decode cX7_plans 9 = .ok (.iastore, 1) := by decide +kernel
theorem dX7_plans_10 : decode cX7_plans 10 = .ok (.aload_n 0, 1) := by decide +kernel
theorem dX7_plans_11 : decode cX7_plans 11 = .ok (.getfield 59, 3) := by decide +kernel
theorem dX7_plans_14 : decode cX7_plans 14 = .ok (.aload_n 0, 1) := by decide +kernel
theorem dX7_plans_15 : decode cX7_plans 15 = .ok (.getfield 171, 3) := by decide +kernel
theorem dX7_plans_18 : decode cX7_plans 18 = .ok (.aload_n 0, 1) := by decide +kernel
theorem dX7_plans_19 : decode cX7_plans 19 = .ok (.getfield 25, 3) := by decide +kernel
theorem dX7_plans_22 : decode cX7_plans 22 = .ok (.iload_n 1, 1) := by decide +kernel
theorem dX7_plans_23 : decode cX7_plans 23 = .ok (.iaload, 1) := by decide +kernel
theorem dX7_plans_24 : decode cX7_plans 24 = .ok (.iastore, 1) := by decide +kernel
theorem dX7_plans_25 : decode cX7_plans 25 = .ok (.aload_n 0, 1) := by decide +kernel
theorem dX7_plans_26 : decode cX7_plans 26 = .ok (.getfield 62, 3) := by decide +kernel
theorem dX7_plans_29 : decode cX7_plans 29 = .ok (.aload_n 0, 1) := by decide +kernel
theorem dX7_plans_30 : decode cX7_plans 30 = .ok (.getfield 171, 3) := by decide +kernel
theorem dX7_plans_33 : decode cX7_plans 33 = .ok (.aload_n 0, 1) := by decide +kernel
theorem dX7_plans_34 : decode cX7_plans 34 = .ok (.getfield 53, 3) := by decide +kernel
theorem dX7_plans_37 : decode cX7_plans 37 = .ok (.iload_n 1, 1) := by decide +kernel
theorem dX7_plans_38 : decode cX7_plans 38 = .ok (.iaload, 1) := by decide +kernel
theorem dX7_plans_39 : decode cX7_plans 39 = .ok (.iastore, 1) := by decide +kernel
theorem dX7_plans_40 : decode cX7_plans 40 = .ok (.aload_n 0, 1) := by decide +kernel
theorem dX7_plans_41 : decode cX7_plans 41 = .ok (.dup, 1) := by decide +kernel
theorem dX7_plans_42 : decode cX7_plans 42 = .ok (.getfield 171, 3) := by decide +kernel
theorem dX7_plans_45 : decode cX7_plans 45 = .ok (.iconst 1, 1) := by decide +kernel
theorem dX7_plans_46 : decode cX7_plans 46 = .ok (.iadd, 1) := by decide +kernel
theorem dX7_plans_47 : decode cX7_plans 47 = .ok (.putfield 171, 3) := by decide +kernel
theorem dX7_plans_50 : decode cX7_plans 50 = .ok (.return_, 1) := by decide +kernel
theorem dX7_plan_0 : decode cX7_plan 0 = .ok (.aload_n 0, 1) := by decide +kernel
theorem dX7_plan_1 : decode cX7_plan 1 = .ok (.iconst 0, 1) := by decide +kernel
theorem dX7_plan_2 : decode cX7_plan 2 = .ok (.putfield 68, 3) := by decide +kernel
theorem dX7_plan_5 : decode cX7_plan 5 = .ok (.iload_n 1, 1) := by decide +kernel
theorem dX7_plan_6 : decode cX7_plan 6 = .ok (.invokestatic 121, 3) := by decide +kernel
theorem dX7_plan_9 : decode cX7_plan 9 = .ok (.ifCond .eq 11, 3) := by decide +kernel
theorem dX7_plan_12 : decode cX7_plan 12 = .ok (.aload_n 0, 1) := by decide +kernel
theorem dX7_plan_13 : decode cX7_plan 13 = .ok (.iload_n 1, 1) := by decide +kernel
theorem dX7_plan_14 : decode cX7_plan 14 = .ok (.invokevirtual 124, 3) := by decide +kernel
theorem dX7_plan_17 : decode cX7_plan 17 = .ok (.ifCond .ne 5, 3) := by decide +kernel
theorem dX7_plan_20 : decode cX7_plan 20 = .ok (.iconst (-1), 1) := by decide +kernel
theorem dX7_plan_21 : decode cX7_plan 21 = .ok (.ireturn, 1) := by decide +kernel
theorem dX7_plan_22 : decode cX7_plan 22 = .ok (.aload_n 0, 1) := by decide +kernel
theorem dX7_plan_23 : decode cX7_plan 23 = .ok (.invokevirtual 148, 3) := by decide +kernel
theorem dX7_plan_26 : decode cX7_plan 26 = .ok (.aload_n 0, 1) := by decide +kernel
theorem dX7_plan_27 : decode cX7_plan 27 = .ok (.iconst 0, 1) := by decide +kernel
theorem dX7_plan_28 : decode cX7_plan 28 = .ok (.putfield 171, 3) := by decide +kernel
theorem dX7_plan_31 : decode cX7_plan 31 = .ok (.aload_n 0, 1) := by decide +kernel
theorem dX7_plan_32 : decode cX7_plan 32 = .ok (.iconst 0, 1) := by decide +kernel
theorem dX7_plan_33 : decode cX7_plan 33 = .ok (.putfield 174, 3) := by decide +kernel
theorem dX7_plan_36 : decode cX7_plan 36 = .ok (.aload_n 0, 1) := by decide +kernel
theorem dX7_plan_37 : decode cX7_plan 37 = .ok (.iload_n 1, 1) := by decide +kernel
theorem dX7_plan_38 : decode cX7_plan 38 = .ok (.putfield 177, 3) := by decide +kernel
theorem dX7_plan_41 : decode cX7_plan 41 = .ok (.aload_n 0, 1) := by decide +kernel
theorem dX7_plan_42 : decode cX7_plan 42 = .ok (.getfield 81, 3) := by decide +kernel
theorem dX7_plan_45 : decode cX7_plan 45 = .ok (.iconst 1, 1) := by decide +kernel
theorem dX7_plan_46 : decode cX7_plan 46 = .ok (.isub, 1) := by decide +kernel
theorem dX7_plan_47 : decode cX7_plan 47 = .ok (.istore_n 2, 1) := by decide +kernel
theorem dX7_plan_48 : decode cX7_plan 48 = .ok (.iload_n 2, 1) := by decide +kernel
theorem dX7_plan_49 : decode cX7_plan 49 = .ok (.ifCond .lt 41, 3) := by decide +kernel
theorem dX7_plan_52 : decode cX7_plan 52 = .ok (.aload_n 0, 1) := by decide +kernel
theorem dX7_plan_53 : decode cX7_plan 53 = .ok (.getfield 65, 3) := by decide +kernel
theorem dX7_plan_56 : decode cX7_plan 56 = .ok (.iload_n 2, 1) := by decide +kernel
theorem dX7_plan_57 : decode cX7_plan 57 = .ok (.aload_n 0, 1) := by decide +kernel
theorem dX7_plan_58 : decode cX7_plan 58 = .ok (.getfield 53, 3) := by decide +kernel
theorem dX7_plan_61 : decode cX7_plan 61 = .ok (.iload_n 2, 1) := by decide +kernel
theorem dX7_plan_62 : decode cX7_plan 62 = .ok (.iaload, 1) := by decide +kernel
theorem dX7_plan_63 : decode cX7_plan 63 = .ok (.iastore, 1) := by decide +kernel
theorem dX7_plan_64 : decode cX7_plan 64 = .ok (.aload_n 0, 1) := by decide +kernel
theorem dX7_plan_65 : decode cX7_plan 65 = .ok (.getfield 53, 3) := by decide +kernel
theorem dX7_plan_68 : decode cX7_plan 68 = .ok (.iload_n 2, 1) := by decide +kernel
theorem dX7_plan_69 : decode cX7_plan 69 = .ok (.iaload, 1) := by decide +kernel
theorem dX7_plan_70 : decode cX7_plan 70 = .ok (.aload_n 0, 1) := by decide +kernel
theorem dX7_plan_71 : decode cX7_plan 71 = .ok (.getfield 25, 3) := by decide +kernel
theorem dX7_plan_74 : decode cX7_plan 74 = .ok (.iload_n 2, 1) := by decide +kernel
theorem dX7_plan_75 : decode cX7_plan 75 = .ok (.iaload, 1) := by decide +kernel
theorem dX7_plan_76 : decode cX7_plan 76 = .ok (.if_icmp .le 8, 3) := by decide +kernel
theorem dX7_plan_79 : decode cX7_plan 79 = .ok (.aload_n 0, 1) := by decide +kernel
theorem dX7_plan_80 : decode cX7_plan 80 = .ok (.iload_n 2, 1) := by decide +kernel
theorem dX7_plan_81 : decode cX7_plan 81 = .ok (.invokevirtual 180, 3) := by decide +kernel
theorem dX7_plan_84 : decode cX7_plan 84 = .ok (.iinc 2 (-1), 3) := by decide +kernel
theorem dX7_plan_87 : decode cX7_plan 87 = .ok (.goto (-39), 3) := by decide +kernel
theorem dX7_plan_90 : decode cX7_plan 90 = .ok (.iconst 0, 1) := by decide +kernel
theorem dX7_plan_91 : decode cX7_plan 91 = .ok (.istore_n 2, 1) := by decide +kernel
theorem dX7_plan_92 : decode cX7_plan 92 = .ok (.iload_n 2, 1) := by decide +kernel
theorem dX7_plan_93 : decode cX7_plan 93 = .ok (.aload_n 0, 1) := by decide +kernel
theorem dX7_plan_94 : decode cX7_plan 94 = .ok (.getfield 81, 3) := by decide +kernel
theorem dX7_plan_97 : decode cX7_plan 97 = .ok (.if_icmp .ge 29, 3) := by decide +kernel
theorem dX7_plan_100 : decode cX7_plan 100 = .ok (.aload_n 0, 1) := by decide +kernel
theorem dX7_plan_101 : decode cX7_plan 101 = .ok (.getfield 53, 3) := by decide +kernel
theorem dX7_plan_104 : decode cX7_plan 104 = .ok (.iload_n 2, 1) := by decide +kernel
theorem dX7_plan_105 : decode cX7_plan 105 = .ok (.iaload, 1) := by decide +kernel
theorem dX7_plan_106 : decode cX7_plan 106 = .ok (.aload_n 0, 1) := by decide +kernel
theorem dX7_plan_107 : decode cX7_plan 107 = .ok (.getfield 25, 3) := by decide +kernel
theorem dX7_plan_110 : decode cX7_plan 110 = .ok (.iload_n 2, 1) := by decide +kernel
theorem dX7_plan_111 : decode cX7_plan 111 = .ok (.iaload, 1) := by decide +kernel
theorem dX7_plan_112 : decode cX7_plan 112 = .ok (.if_icmp .ge 8, 3) := by decide +kernel
theorem dX7_plan_115 : decode cX7_plan 115 = .ok (.aload_n 0, 1) := by decide +kernel
theorem dX7_plan_116 : decode cX7_plan 116 = .ok (.iload_n 2, 1) := by decide +kernel
theorem dX7_plan_117 : decode cX7_plan 117 = .ok (.invokevirtual 180, 3) := by decide +kernel
theorem dX7_plan_120 : decode cX7_plan 120 = .ok (.iinc 2 1, 3) := by decide +kernel
theorem dX7_plan_123 : decode cX7_plan 123 = .ok (.goto (-31), 3) := by decide +kernel
theorem dX7_plan_126 : decode cX7_plan 126 = .ok (.aload_n 0, 1) := by decide +kernel
theorem dX7_plan_127 : decode cX7_plan 127 = .ok (.aload_n 0, 1) := by decide +kernel
theorem dX7_plan_128 : decode cX7_plan 128 = .ok (.getfield 171, 3) := by decide +kernel
theorem dX7_plan_131 : decode cX7_plan 131 = .ok (.ifCond .le 7, 3) := by decide +kernel
theorem dX7_plan_134 : decode cX7_plan 134 = .ok (.iconst 1, 1) := by decide +kernel
theorem dX7_plan_135 : decode cX7_plan 135 = .ok (.goto 4, 3) := by decide +kernel
theorem dX7_plan_138 : decode cX7_plan 138 = .ok (.iconst 0, 1) := by decide +kernel
theorem dX7_plan_139 : decode cX7_plan 139 = .ok (.putfield 164, 3) := by decide +kernel
theorem dX7_plan_142 : decode cX7_plan 142 = .ok (.aload_n 0, 1) := by decide +kernel
theorem dX7_plan_143 : decode cX7_plan 143 = .ok (.getfield 171, 3) := by decide +kernel
theorem dX7_plan_146 : decode cX7_plan 146 = .ok (.ireturn, 1) := by decide +kernel
theorem dX7_drop_0 : decode cX7_drop 0 = .ok (.aload_n 0, 1) := by decide +kernel
theorem dX7_drop_1 : decode cX7_drop 1 = .ok (.iconst 0, 1) := by decide +kernel
theorem dX7_drop_2 : decode cX7_drop 2 = .ok (.putfield 68, 3) := by decide +kernel
theorem dX7_drop_5 : decode cX7_drop 5 = .ok (.aload_n 0, 1) := by decide +kernel
theorem dX7_drop_6 : decode cX7_drop 6 = .ok (.getfield 164, 3) := by decide +kernel
theorem dX7_drop_9 : decode cX7_drop 9 = .ok (.ifCond .ne 5, 3) := by decide +kernel
theorem dX7_drop_12 : decode cX7_drop 12 = .ok (.iconst (-1), 1) := by decide +kernel
theorem dX7_drop_13 : decode cX7_drop 13 = .ok (.ireturn, 1) := by decide +kernel
theorem dX7_drop_14 : decode cX7_drop 14 = .ok (.aload_n 0, 1) := by decide +kernel
theorem dX7_drop_15 : decode cX7_drop 15 = .ok (.invokevirtual 151, 3) := by decide +kernel
theorem dX7_drop_18 : decode cX7_drop 18 = .ok (.aload_n 0, 1) := by decide +kernel
theorem dX7_drop_19 : decode cX7_drop 19 = .ok (.getfield 171, 3) := by decide +kernel
theorem dX7_drop_22 : decode cX7_drop 22 = .ok (.aload_n 0, 1) := by decide +kernel
theorem dX7_drop_23 : decode cX7_drop 23 = .ok (.getfield 174, 3) := by decide +kernel
theorem dX7_drop_26 : decode cX7_drop 26 = .ok (.isub, 1) := by decide +kernel
theorem dX7_drop_27 : decode cX7_drop 27 = .ok (.ireturn, 1) := by decide +kernel
theorem dX7_goesOn_0 : decode cX7_goesOn 0 = .ok (.aload_n 0, 1) := by decide +kernel
theorem dX7_goesOn_1 : decode cX7_goesOn 1 = .ok (.getfield 56, 3) := by decide +kernel
theorem dX7_goesOn_4 : decode cX7_goesOn 4 = .ok (.aload_n 0, 1) := by decide +kernel
theorem dX7_goesOn_5 : decode cX7_goesOn 5 = .ok (.getfield 174, 3) := by decide +kernel
theorem dX7_goesOn_8 : decode cX7_goesOn 8 = .ok (.iaload, 1) := by decide +kernel
theorem dX7_goesOn_9 : decode cX7_goesOn 9 = .ok (.istore_n 1, 1) := by decide +kernel
theorem dX7_goesOn_10 : decode cX7_goesOn 10 = .ok (.aload_n 0, 1) := by decide +kernel
theorem dX7_goesOn_11 : decode cX7_goesOn 11 = .ok (.iload_n 1, 1) := by decide +kernel
theorem dX7_goesOn_12 : decode cX7_goesOn 12 = .ok (.aload_n 0, 1) := by decide +kernel
theorem dX7_goesOn_13 : decode cX7_goesOn 13 = .ok (.getfield 62, 3) := by decide +kernel
theorem dX7_goesOn_16 : decode cX7_goesOn 16 = .ok (.aload_n 0, 1) := by decide +kernel
theorem dX7_goesOn_17 : decode cX7_goesOn 17 = .ok (.getfield 174, 3) := by decide +kernel
theorem dX7_goesOn_20 : decode cX7_goesOn 20 = .ok (.iaload, 1) := by decide +kernel
theorem dX7_goesOn_21 : decode cX7_goesOn 21 = .ok (.invokevirtual 154, 3) := by decide +kernel
theorem dX7_goesOn_24 : decode cX7_goesOn 24 = .ok (.aload_n 0, 1) := by decide +kernel
theorem dX7_goesOn_25 : decode cX7_goesOn 25 = .ok (.dup, 1) := by decide +kernel
theorem dX7_goesOn_26 : decode cX7_goesOn 26 = .ok (.getfield 174, 3) := by decide +kernel
theorem dX7_goesOn_29 : decode cX7_goesOn 29 = .ok (.iconst 1, 1) := by decide +kernel
theorem dX7_goesOn_30 : decode cX7_goesOn 30 = .ok (.iadd, 1) := by decide +kernel
theorem dX7_goesOn_31 : decode cX7_goesOn 31 = .ok (.putfield 174, 3) := by decide +kernel
theorem dX7_goesOn_34 : decode cX7_goesOn 34 = .ok (.aload_n 0, 1) := by decide +kernel
theorem dX7_goesOn_35 : decode cX7_goesOn 35 = .ok (.getfield 174, 3) := by decide +kernel
theorem dX7_goesOn_38 : decode cX7_goesOn 38 = .ok (.aload_n 0, 1) := by decide +kernel
theorem dX7_goesOn_39 : decode cX7_goesOn 39 = .ok (.getfield 171, 3) := by decide +kernel
theorem dX7_goesOn_42 : decode cX7_goesOn 42 = .ok (.if_icmp .ne 7, 3) := by decide +kernel
theorem dX7_goesOn_45 : decode cX7_goesOn 45 = .ok (.aload_n 0, 1) := by decide +kernel
theorem dX7_goesOn_46 : decode cX7_goesOn 46 = .ok (.invokevirtual 151, 3) := by decide +kernel
theorem dX7_goesOn_49 : decode cX7_goesOn 49 = .ok (.iload_n 1, 1) := by decide +kernel
theorem dX7_goesOn_50 : decode cX7_goesOn 50 = .ok (.ireturn, 1) := by decide +kernel
theorem dX7_move_0 : decode cX7_move 0 = .ok (.aload_n 0, 1) := by decide +kernel
theorem dX7_move_1 : decode cX7_move 1 = .ok (.iconst 0, 1) := by decide +kernel
theorem dX7_move_2 : decode cX7_move 2 = .ok (.putfield 68, 3) := by decide +kernel
theorem dX7_move_5 : decode cX7_move 5 = .ok (.aload_n 0, 1) := by decide +kernel
theorem dX7_move_6 : decode cX7_move 6 = .ok (.getfield 164, 3) := by decide +kernel
theorem dX7_move_9 : decode cX7_move 9 = .ok (.ifCond .eq 10, 3) := by decide +kernel
theorem dX7_move_12 : decode cX7_move 12 = .ok (.aload_n 0, 1) := by decide +kernel
theorem dX7_move_13 : decode cX7_move 13 = .ok (.invokevirtual 183, 3) := by decide +kernel
theorem dX7_move_16 : decode cX7_move 16 = .ok (.goto 4, 3) := by decide +kernel
theorem dX7_move_19 : decode cX7_move 19 = .ok (.iconst (-1), 1) := by decide +kernel
theorem dX7_move_20 : decode cX7_move 20 = .ok (.ireturn, 1) := by decide +kernel
theorem dX7_day_0 : decode cX7_day 0 = .ok (.aload_n 0, 1) := by decide +kernel
theorem dX7_day_1 : decode cX7_day 1 = .ok (.iconst 0, 1) := by decide +kernel
theorem dX7_day_2 : decode cX7_day 2 = .ok (.putfield 68, 3) := by decide +kernel
theorem dX7_day_5 : decode cX7_day 5 = .ok (.aload_n 0, 1) := by decide +kernel
theorem dX7_day_6 : decode cX7_day 6 = .ok (.getfield 164, 3) := by decide +kernel
theorem dX7_day_9 : decode cX7_day 9 = .ok (.ifCond .ne 5, 3) := by decide +kernel
theorem dX7_day_12 : decode cX7_day 12 = .ok (.iconst (-1), 1) := by decide +kernel
theorem dX7_day_13 : decode cX7_day 13 = .ok (.ireturn, 1) := by decide +kernel
theorem dX7_day_14 : decode cX7_day 14 = .ok (.iconst 0, 1) := by decide +kernel
theorem dX7_day_15 : decode cX7_day 15 = .ok (.istore_n 1, 1) := by decide +kernel
theorem dX7_day_16 : decode cX7_day 16 = .ok (.aload_n 0, 1) := by decide +kernel
theorem dX7_day_17 : decode cX7_day 17 = .ok (.getfield 31, 3) := by decide +kernel
theorem dX7_day_20 : decode cX7_day 20 = .ok (.istore_n 2, 1) := by decide +kernel
theorem dX7_day_21 : decode cX7_day 21 = .ok (.aload_n 0, 1) := by decide +kernel
theorem dX7_day_22 : decode cX7_day 22 = .ok (.getfield 164, 3) := by decide +kernel
theorem dX7_day_25 : decode cX7_day 25 = .ok (.ifCond .eq 49, 3) := by decide +kernel
theorem dX7_day_28 : decode cX7_day 28 = .ok (.aload_n 0, 1) := by decide +kernel
theorem dX7_day_29 : decode cX7_day 29 = .ok (.getfield 22, 3) := by decide +kernel
theorem dX7_day_32 : decode cX7_day 32 = .ok (.aload_n 0, 1) := by decide +kernel
theorem dX7_day_33 : decode cX7_day 33 = .ok (.getfield 56, 3) := by decide +kernel
theorem dX7_day_36 : decode cX7_day 36 = .ok (.aload_n 0, 1) := by decide +kernel
theorem dX7_day_37 : decode cX7_day 37 = .ok (.getfield 174, 3) := by decide +kernel
theorem dX7_day_40 : decode cX7_day 40 = .ok (.iaload, 1) := by decide +kernel
theorem dX7_day_41 : decode cX7_day 41 = .ok (.iaload, 1) := by decide +kernel
theorem dX7_day_42 : decode cX7_day 42 = .ok (.iload_n 2, 1) := by decide +kernel
theorem dX7_day_43 : decode cX7_day 43 = .ok (.if_icmp .gt 31, 3) := by decide +kernel
theorem dX7_day_46 : decode cX7_day 46 = .ok (.iload_n 2, 1) := by decide +kernel
theorem dX7_day_47 : decode cX7_day 47 = .ok (.aload_n 0, 1) := by decide +kernel
theorem dX7_day_48 : decode cX7_day 48 = .ok (.getfield 22, 3) := by decide +kernel
theorem dX7_day_51 : decode cX7_day 51 = .ok (.aload_n 0, 1) := by decide +kernel
theorem dX7_day_52 : decode cX7_day 52 = .ok (.getfield 56, 3) := by decide +kernel
theorem dX7_day_55 : decode cX7_day 55 = .ok (.aload_n 0, 1) := by decide +kernel
theorem dX7_day_56 : decode cX7_day 56 = .ok (.getfield 174, 3) := by decide +kernel
theorem dX7_day_59 : decode cX7_day 59 = .ok (.iaload, 1) := by decide +kernel
theorem dX7_day_60 : decode cX7_day 60 = .ok (.iaload, 1) := by decide +kernel
theorem dX7_day_61 : decode cX7_day 61 = .ok (.isub, 1) := by decide +kernel
theorem dX7_day_62 : decode cX7_day 62 = .ok (.istore_n 2, 1) := by decide +kernel
theorem dX7_day_63 : decode cX7_day 63 = .ok (.aload_n 0, 1) := by decide +kernel
theorem dX7_day_64 : decode cX7_day 64 = .ok (.invokevirtual 183, 3) := by decide +kernel
theorem dX7_day_67 : decode cX7_day 67 = .ok (.istore_n 3, 1) := by decide +kernel
theorem dX7_day_68 : decode cX7_day 68 = .ok (.iinc 1 1, 3) := by decide +kernel
theorem dX7_day_71 : decode cX7_day 71 = .ok (.goto (-50), 3) := by decide +kernel
theorem dX7_day_74 : decode cX7_day 74 = .ok (.iload_n 1, 1) := by decide +kernel
theorem dX7_day_75 : decode cX7_day 75 = .ok (.ireturn, 1) := by decide +kernel
theorem dX7_dayOf_0 : decode cX7_dayOf 0 = .ok (.iconst 0, 1) := by decide +kernel
theorem dX7_dayOf_1 : decode cX7_dayOf 1 = .ok (.istore 4, 2) := by decide +kernel
theorem dX7_dayOf_3 : decode cX7_dayOf 3 = .ok (.iload_n 3, 1) := by decide +kernel
theorem dX7_dayOf_4 : decode cX7_dayOf 4 = .ok (.istore 5, 2) := by decide +kernel
theorem dX7_dayOf_6 : decode cX7_dayOf 6 = .ok (.iload_n 1, 1) := by decide +kernel
theorem dX7_dayOf_7 : decode cX7_dayOf 7 = .ok (.istore 6, 2) := by decide +kernel
theorem dX7_dayOf_9 : decode cX7_dayOf 9 = .ok (.iload 6, 2) := by decide +kernel
theorem dX7_dayOf_11 : decode cX7_dayOf 11 = .ok (.iload_n 2, 1) := by decide +kernel
theorem dX7_dayOf_12 : decode cX7_dayOf 12 = .ok (.if_icmp .gt 43, 3) := by decide +kernel
theorem dX7_dayOf_15 : decode cX7_dayOf 15 = .ok (.aload_n 0, 1) := by decide +kernel
theorem dX7_dayOf_16 : decode cX7_dayOf 16 = .ok (.getfield 22, 3) := by decide +kernel
theorem dX7_dayOf_19 : decode cX7_dayOf 19 = .ok (.aload_n 0, 1) := by decide +kernel
theorem dX7_dayOf_20 : decode cX7_dayOf 20 = .ok (.getfield 56, 3) := by decide +kernel
theorem dX7_dayOf_23 : decode cX7_dayOf 23 = .ok (.iload 6, 2) := by decide +kernel
theorem dX7_dayOf_25 : decode cX7_dayOf 25 = .ok (.iaload, 1) := by decide +kernel
theorem dX7_dayOf_26 : decode cX7_dayOf 26 = .ok (.iaload, 1) := by decide +kernel
theorem dX7_dayOf_27 : decode cX7_dayOf 27 = .ok (.istore 7, 2) := by decide +kernel
theorem dX7_dayOf_29 : decode cX7_dayOf 29 = .ok (.iload 7, 2) := by decide +kernel
theorem dX7_dayOf_31 : decode cX7_dayOf 31 = .ok (.iload 5, 2) := by decide +kernel
theorem dX7_dayOf_33 : decode cX7_dayOf 33 = .ok (.if_icmp .le 9, 3) := by decide +kernel
theorem dX7_dayOf_36 : decode cX7_dayOf 36 = .ok (.iinc 4 1, 3) := by decide +kernel
theorem dX7_dayOf_39 : decode cX7_dayOf 39 = .ok (.iload_n 3, 1) := by decide +kernel
theorem dX7_dayOf_40 : decode cX7_dayOf 40 = .ok (.istore 5, 2) := by decide +kernel
theorem dX7_dayOf_42 : decode cX7_dayOf 42 = .ok (.iload 5, 2) := by decide +kernel
theorem dX7_dayOf_44 : decode cX7_dayOf 44 = .ok (.iload 7, 2) := by decide +kernel
theorem dX7_dayOf_46 : decode cX7_dayOf 46 = .ok (.isub, 1) := by decide +kernel
theorem dX7_dayOf_47 : decode cX7_dayOf 47 = .ok (.istore 5, 2) := by decide +kernel
theorem dX7_dayOf_49 : decode cX7_dayOf 49 = .ok (.iinc 6 1, 3) := by decide +kernel
theorem dX7_dayOf_52 : decode cX7_dayOf 52 = .ok (.goto (-43), 3) := by decide +kernel
theorem dX7_dayOf_55 : decode cX7_dayOf 55 = .ok (.iload 4, 2) := by decide +kernel
theorem dX7_dayOf_57 : decode cX7_dayOf 57 = .ok (.ireturn, 1) := by decide +kernel
theorem dX7_tripOf_0 : decode cX7_tripOf 0 = .ok (.iconst 0, 1) := by decide +kernel
theorem dX7_tripOf_1 : decode cX7_tripOf 1 = .ok (.istore_n 3, 1) := by decide +kernel
theorem dX7_tripOf_2 : decode cX7_tripOf 2 = .ok (.iload_n 1, 1) := by decide +kernel
theorem dX7_tripOf_3 : decode cX7_tripOf 3 = .ok (.iconst 1, 1) := by decide +kernel
theorem dX7_tripOf_4 : decode cX7_tripOf 4 = .ok (.iadd, 1) := by decide +kernel
theorem dX7_tripOf_5 : decode cX7_tripOf 5 = .ok (.istore 4, 2) := by decide +kernel
theorem dX7_tripOf_7 : decode cX7_tripOf 7 = .ok (.iload 4, 2) := by decide +kernel
theorem dX7_tripOf_9 : decode cX7_tripOf 9 = .ok (.iload_n 2, 1) := by decide +kernel
theorem dX7_tripOf_10 : decode cX7_tripOf 10 = .ok (.if_icmp .gt 55, 3) := by decide +kernel
theorem dX7_tripOf_13 : decode cX7_tripOf 13 = .ok (.iload_n 3, 1) := by decide +kernel
theorem dX7_tripOf_14 : decode cX7_tripOf 14 = .ok (.aload_n 0, 1) := by decide +kernel
theorem dX7_tripOf_15 : decode cX7_tripOf 15 = .ok (.getfield 59, 3) := by decide +kernel
theorem dX7_tripOf_18 : decode cX7_tripOf 18 = .ok (.iload 4, 2) := by decide +kernel
theorem dX7_tripOf_20 : decode cX7_tripOf 20 = .ok (.iaload, 1) := by decide +kernel
theorem dX7_tripOf_21 : decode cX7_tripOf 21 = .ok (.aload_n 0, 1) := by decide +kernel
theorem dX7_tripOf_22 : decode cX7_tripOf 22 = .ok (.getfield 59, 3) := by decide +kernel
theorem dX7_tripOf_25 : decode cX7_tripOf 25 = .ok (.iload 4, 2) := by decide +kernel
theorem dX7_tripOf_27 : decode cX7_tripOf 27 = .ok (.iconst 1, 1) := by decide +kernel
theorem dX7_tripOf_28 : decode cX7_tripOf 28 = .ok (.isub, 1) := by decide +kernel
theorem dX7_tripOf_29 : decode cX7_tripOf 29 = .ok (.iaload, 1) := by decide +kernel
theorem dX7_tripOf_30 : decode cX7_tripOf 30 = .ok (.if_icmp .ne 22, 3) := by decide +kernel
theorem dX7_tripOf_33 : decode cX7_tripOf 33 = .ok (.aload_n 0, 1) := by decide +kernel
theorem dX7_tripOf_34 : decode cX7_tripOf 34 = .ok (.getfield 62, 3) := by decide +kernel
theorem dX7_tripOf_37 : decode cX7_tripOf 37 = .ok (.iload 4, 2) := by decide +kernel
theorem dX7_tripOf_39 : decode cX7_tripOf 39 = .ok (.iaload, 1) := by decide +kernel
theorem dX7_tripOf_40 : decode cX7_tripOf 40 = .ok (.aload_n 0, 1) := by decide +kernel
theorem dX7_tripOf_41 : decode cX7_tripOf 41 = .ok (.getfield 62, 3) := by decide +kernel
theorem dX7_tripOf_44 : decode cX7_tripOf 44 = .ok (.iload 4, 2) := by decide +kernel
theorem dX7_tripOf_46 : decode cX7_tripOf 46 = .ok (.iconst 1, 1) := by decide +kernel
theorem dX7_tripOf_47 : decode cX7_tripOf 47 = .ok (.isub, 1) := by decide +kernel
theorem dX7_tripOf_48 : decode cX7_tripOf 48 = .ok (.iaload, 1) := by decide +kernel
theorem dX7_tripOf_49 : decode cX7_tripOf 49 = .ok (.if_icmp .eq 7, 3) := by decide +kernel
theorem dX7_tripOf_52 : decode cX7_tripOf 52 = .ok (.iconst 1, 1) := by decide +kernel
theorem dX7_tripOf_53 : decode cX7_tripOf 53 = .ok (.goto 4, 3) := by decide +kernel
theorem dX7_tripOf_56 : decode cX7_tripOf 56 = .ok (.iconst 0, 1) := by decide +kernel
theorem dX7_tripOf_57 : decode cX7_tripOf 57 = .ok (.iadd, 1) := by decide +kernel
theorem dX7_tripOf_58 : decode cX7_tripOf 58 = .ok (.istore_n 3, 1) := by decide +kernel
theorem dX7_tripOf_59 : decode cX7_tripOf 59 = .ok (.iinc 4 1, 3) := by decide +kernel
theorem dX7_tripOf_62 : decode cX7_tripOf 62 = .ok (.goto (-55), 3) := by decide +kernel
theorem dX7_tripOf_65 : decode cX7_tripOf 65 = .ok (.iload_n 3, 1) := by decide +kernel
theorem dX7_tripOf_66 : decode cX7_tripOf 66 = .ok (.ireturn, 1) := by decide +kernel
theorem dX7_taken_0 : decode cX7_taken 0 = .ok (.iconst 0, 1) := by decide +kernel
theorem dX7_taken_1 : decode cX7_taken 1 = .ok (.istore_n 2, 1) := by decide +kernel
theorem dX7_taken_2 : decode cX7_taken 2 = .ok (.iconst 0, 1) := by decide +kernel
theorem dX7_taken_3 : decode cX7_taken 3 = .ok (.istore_n 3, 1) := by decide +kernel
theorem dX7_taken_4 : decode cX7_taken 4 = .ok (.iload_n 3, 1) := by decide +kernel
theorem dX7_taken_5 : decode cX7_taken 5 = .ok (.iload_n 1, 1) := by decide +kernel
theorem dX7_taken_6 : decode cX7_taken 6 = .ok (.if_icmp .ge 32, 3) := by decide +kernel
theorem dX7_taken_9 : decode cX7_taken 9 = .ok (.iload_n 2, 1) := by decide +kernel
theorem dX7_taken_10 : decode cX7_taken 10 = .ok (.aload_n 0, 1) := by decide +kernel
theorem dX7_taken_11 : decode cX7_taken 11 = .ok (.getfield 59, 3) := by decide +kernel
theorem dX7_taken_14 : decode cX7_taken 14 = .ok (.iload_n 3, 1) := by decide +kernel
theorem dX7_taken_15 : decode cX7_taken 15 = .ok (.iaload, 1) := by decide +kernel
theorem dX7_taken_16 : decode cX7_taken 16 = .ok (.aload_n 0, 1) := by decide +kernel
theorem dX7_taken_17 : decode cX7_taken 17 = .ok (.getfield 62, 3) := by decide +kernel
theorem dX7_taken_20 : decode cX7_taken 20 = .ok (.iload_n 1, 1) := by decide +kernel
theorem dX7_taken_21 : decode cX7_taken 21 = .ok (.iaload, 1) := by decide +kernel
theorem dX7_taken_22 : decode cX7_taken 22 = .ok (.if_icmp .ne 7, 3) := by decide +kernel
theorem dX7_taken_25 : decode cX7_taken 25 = .ok (.iconst 1, 1) := by decide +kernel
theorem dX7_taken_26 : decode cX7_taken 26 = .ok (.goto 4, 3) := by decide +kernel
theorem dX7_taken_29 : decode cX7_taken 29 = .ok (.iconst 0, 1) := by decide +kernel
theorem dX7_taken_30 : decode cX7_taken 30 = .ok (.iadd, 1) := by decide +kernel
theorem dX7_taken_31 : decode cX7_taken 31 = .ok (.istore_n 2, 1) := by decide +kernel
theorem dX7_taken_32 : decode cX7_taken 32 = .ok (.iinc 3 1, 3) := by decide +kernel
theorem dX7_taken_35 : decode cX7_taken 35 = .ok (.goto (-31), 3) := by decide +kernel
theorem dX7_taken_38 : decode cX7_taken 38 = .ok (.iload_n 2, 1) := by decide +kernel
theorem dX7_taken_39 : decode cX7_taken 39 = .ok (.ireturn, 1) := by decide +kernel
theorem dX7_planned_0 : decode cX7_planned 0 = .ok (.aload_n 0, 1) := by decide +kernel
theorem dX7_planned_1 : decode cX7_planned 1 = .ok (.iconst 0, 1) := by decide +kernel
theorem dX7_planned_2 : decode cX7_planned 2 = .ok (.putfield 68, 3) := by decide +kernel
theorem dX7_planned_5 : decode cX7_planned 5 = .ok (.aload_n 0, 1) := by decide +kernel
theorem dX7_planned_6 : decode cX7_planned 6 = .ok (.getfield 164, 3) := by decide +kernel
theorem dX7_planned_9 : decode cX7_planned 9 = .ok (.ifCond .eq 17, 3) := by decide +kernel
theorem dX7_planned_12 : decode cX7_planned 12 = .ok (.iload_n 1, 1) := by decide +kernel
theorem dX7_planned_13 : decode cX7_planned 13 = .ok (.iconst 0, 1) := by decide +kernel
theorem dX7_planned_14 : decode cX7_planned 14 = .ok (.aload_n 0, 1) := by decide +kernel
theorem dX7_planned_15 : decode cX7_planned 15 = .ok (.getfield 171, 3) := by decide +kernel
theorem dX7_planned_18 : decode cX7_planned 18 = .ok (.iconst 1, 1) := by decide +kernel
theorem dX7_planned_19 : decode cX7_planned 19 = .ok (.isub, 1) := by decide +kernel
theorem dX7_planned_20 : decode cX7_planned 20 = .ok (.invokestatic 74, 3) := by decide +kernel
theorem dX7_planned_23 : decode cX7_planned 23 = .ok (.ifCond .ne 5, 3) := by decide +kernel
theorem dX7_planned_26 : decode cX7_planned 26 = .ok (.iconst (-1), 1) := by decide +kernel
theorem dX7_planned_27 : decode cX7_planned 27 = .ok (.ireturn, 1) := by decide +kernel
theorem dX7_planned_28 : decode cX7_planned 28 = .ok (.iload_n 2, 1) := by decide +kernel
theorem dX7_planned_29 : decode cX7_planned 29 = .ok (.tableswitch 109 0 6 #[43, 50, 57, 64, 85, 96, 103], 43) := by decide +kernel
theorem dX7_planned_72 : decode cX7_planned 72 = .ok (.aload_n 0, 1) := by decide +kernel
theorem dX7_planned_73 : decode cX7_planned 73 = .ok (.getfield 56, 3) := by decide +kernel
theorem dX7_planned_76 : decode cX7_planned 76 = .ok (.iload_n 1, 1) := by decide +kernel
theorem dX7_planned_77 : decode cX7_planned 77 = .ok (.iaload, 1) := by decide +kernel
theorem dX7_planned_78 : decode cX7_planned 78 = .ok (.ireturn, 1) := by decide +kernel
theorem dX7_planned_79 : decode cX7_planned 79 = .ok (.aload_n 0, 1) := by decide +kernel
theorem dX7_planned_80 : decode cX7_planned 80 = .ok (.getfield 59, 3) := by decide +kernel
theorem dX7_planned_83 : decode cX7_planned 83 = .ok (.iload_n 1, 1) := by decide +kernel
theorem dX7_planned_84 : decode cX7_planned 84 = .ok (.iaload, 1) := by decide +kernel
theorem dX7_planned_85 : decode cX7_planned 85 = .ok (.ireturn, 1) := by decide +kernel
theorem dX7_planned_86 : decode cX7_planned 86 = .ok (.aload_n 0, 1) := by decide +kernel
theorem dX7_planned_87 : decode cX7_planned 87 = .ok (.getfield 62, 3) := by decide +kernel
theorem dX7_planned_90 : decode cX7_planned 90 = .ok (.iload_n 1, 1) := by decide +kernel
theorem dX7_planned_91 : decode cX7_planned 91 = .ok (.iaload, 1) := by decide +kernel
theorem dX7_planned_92 : decode cX7_planned 92 = .ok (.ireturn, 1) := by decide +kernel
theorem dX7_planned_93 : decode cX7_planned 93 = .ok (.aload_n 0, 1) := by decide +kernel
theorem dX7_planned_94 : decode cX7_planned 94 = .ok (.getfield 62, 3) := by decide +kernel
theorem dX7_planned_97 : decode cX7_planned 97 = .ok (.iload_n 1, 1) := by decide +kernel
theorem dX7_planned_98 : decode cX7_planned 98 = .ok (.iaload, 1) := by decide +kernel
theorem dX7_planned_99 : decode cX7_planned 99 = .ok (.aload_n 0, 1) := by decide +kernel
theorem dX7_planned_100 : decode cX7_planned 100 = .ok (.getfield 59, 3) := by decide +kernel
theorem dX7_planned_103 : decode cX7_planned 103 = .ok (.iload_n 1, 1) := by decide +kernel
theorem dX7_planned_104 : decode cX7_planned 104 = .ok (.iaload, 1) := by decide +kernel
theorem dX7_planned_105 : decode cX7_planned 105 = .ok (.if_icmp .le 7, 3) := by decide +kernel
theorem dX7_planned_108 : decode cX7_planned 108 = .ok (.iconst 1, 1) := by decide +kernel
theorem dX7_planned_109 : decode cX7_planned 109 = .ok (.goto 4, 3) := by decide +kernel
theorem dX7_planned_112 : decode cX7_planned 112 = .ok (.iconst 2, 1) := by decide +kernel
theorem dX7_planned_113 : decode cX7_planned 113 = .ok (.ireturn, 1) := by decide +kernel
theorem dX7_planned_114 : decode cX7_planned 114 = .ok (.aload_n 0, 1) := by decide +kernel
theorem dX7_planned_115 : decode cX7_planned 115 = .ok (.iconst 0, 1) := by decide +kernel
theorem dX7_planned_116 : decode cX7_planned 116 = .ok (.iload_n 1, 1) := by decide +kernel
theorem dX7_planned_117 : decode cX7_planned 117 = .ok (.aload_n 0, 1) := by decide +kernel
theorem dX7_planned_118 : decode cX7_planned 118 = .ok (.getfield 31, 3) := by decide +kernel
theorem dX7_planned_121 : decode cX7_planned 121 = .ok (.invokevirtual 187, 3) := by decide +kernel
theorem dX7_planned_124 : decode cX7_planned 124 = .ok (.ireturn, 1) := by decide +kernel
theorem dX7_planned_125 : decode cX7_planned 125 = .ok (.aload_n 0, 1) := by decide +kernel
theorem dX7_planned_126 : decode cX7_planned 126 = .ok (.iconst 0, 1) := by decide +kernel
theorem dX7_planned_127 : decode cX7_planned 127 = .ok (.iload_n 1, 1) := by decide +kernel
theorem dX7_planned_128 : decode cX7_planned 128 = .ok (.invokevirtual 190, 3) := by decide +kernel
theorem dX7_planned_131 : decode cX7_planned 131 = .ok (.ireturn, 1) := by decide +kernel
theorem dX7_planned_132 : decode cX7_planned 132 = .ok (.aload_n 0, 1) := by decide +kernel
theorem dX7_planned_133 : decode cX7_planned 133 = .ok (.iload_n 1, 1) := by decide +kernel
theorem dX7_planned_134 : decode cX7_planned 134 = .ok (.invokevirtual 193, 3) := by decide +kernel
theorem dX7_planned_137 : decode cX7_planned 137 = .ok (.ireturn, 1) := by decide +kernel
theorem dX7_planned_138 : decode cX7_planned 138 = .ok (.iconst (-1), 1) := by decide +kernel
theorem dX7_planned_139 : decode cX7_planned 139 = .ok (.ireturn, 1) := by decide +kernel
theorem dX7_leftWidths_0 : decode cX7_leftWidths 0 = .ok (.iconst 0, 1) := by decide +kernel
theorem dX7_leftWidths_1 : decode cX7_leftWidths 1 = .ok (.istore_n 1, 1) := by decide +kernel
theorem dX7_leftWidths_2 : decode cX7_leftWidths 2 = .ok (.aload_n 0, 1) := by decide +kernel
theorem dX7_leftWidths_3 : decode cX7_leftWidths 3 = .ok (.getfield 174, 3) := by decide +kernel
theorem dX7_leftWidths_6 : decode cX7_leftWidths 6 = .ok (.istore_n 2, 1) := by decide +kernel
theorem dX7_leftWidths_7 : decode cX7_leftWidths 7 = .ok (.iload_n 2, 1) := by decide +kernel
theorem dX7_leftWidths_8 : decode cX7_leftWidths 8 = .ok (.aload_n 0, 1) := by decide +kernel
theorem dX7_leftWidths_9 : decode cX7_leftWidths 9 = .ok (.getfield 171, 3) := by decide +kernel
theorem dX7_leftWidths_12 : decode cX7_leftWidths 12 = .ok (.if_icmp .ge 23, 3) := by decide +kernel
theorem dX7_leftWidths_15 : decode cX7_leftWidths 15 = .ok (.iload_n 1, 1) := by decide +kernel
theorem dX7_leftWidths_16 : decode cX7_leftWidths 16 = .ok (.aload_n 0, 1) := by decide +kernel
theorem dX7_leftWidths_17 : decode cX7_leftWidths 17 = .ok (.getfield 22, 3) := by decide +kernel
theorem dX7_leftWidths_20 : decode cX7_leftWidths 20 = .ok (.aload_n 0, 1) := by decide +kernel
theorem dX7_leftWidths_21 : decode cX7_leftWidths 21 = .ok (.getfield 56, 3) := by decide +kernel
theorem dX7_leftWidths_24 : decode cX7_leftWidths 24 = .ok (.iload_n 2, 1) := by decide +kernel
theorem dX7_leftWidths_25 : decode cX7_leftWidths 25 = .ok (.iaload, 1) := by decide +kernel
theorem dX7_leftWidths_26 : decode cX7_leftWidths 26 = .ok (.iaload, 1) := by decide +kernel
theorem dX7_leftWidths_27 : decode cX7_leftWidths 27 = .ok (.iadd, 1) := by decide +kernel
theorem dX7_leftWidths_28 : decode cX7_leftWidths 28 = .ok (.istore_n 1, 1) := by decide +kernel
theorem dX7_leftWidths_29 : decode cX7_leftWidths 29 = .ok (.iinc 2 1, 3) := by decide +kernel
theorem dX7_leftWidths_32 : decode cX7_leftWidths 32 = .ok (.goto (-25), 3) := by decide +kernel
theorem dX7_leftWidths_35 : decode cX7_leftWidths 35 = .ok (.iload_n 1, 1) := by decide +kernel
theorem dX7_leftWidths_36 : decode cX7_leftWidths 36 = .ok (.ireturn, 1) := by decide +kernel
theorem dX7_leftRight_0 : decode cX7_leftRight 0 = .ok (.iconst 0, 1) := by decide +kernel
theorem dX7_leftRight_1 : decode cX7_leftRight 1 = .ok (.istore_n 1, 1) := by decide +kernel
theorem dX7_leftRight_2 : decode cX7_leftRight 2 = .ok (.aload_n 0, 1) := by decide +kernel
theorem dX7_leftRight_3 : decode cX7_leftRight 3 = .ok (.getfield 174, 3) := by decide +kernel
theorem dX7_leftRight_6 : decode cX7_leftRight 6 = .ok (.istore_n 2, 1) := by decide +kernel
theorem dX7_leftRight_7 : decode cX7_leftRight 7 = .ok (.iload_n 2, 1) := by decide +kernel
theorem dX7_leftRight_8 : decode cX7_leftRight 8 = .ok (.aload_n 0, 1) := by decide +kernel
theorem dX7_leftRight_9 : decode cX7_leftRight 9 = .ok (.getfield 171, 3) := by decide +kernel
theorem dX7_leftRight_12 : decode cX7_leftRight 12 = .ok (.if_icmp .ge 32, 3) := by decide +kernel
theorem dX7_leftRight_15 : decode cX7_leftRight 15 = .ok (.iload_n 1, 1) := by decide +kernel
theorem dX7_leftRight_16 : decode cX7_leftRight 16 = .ok (.aload_n 0, 1) := by decide +kernel
theorem dX7_leftRight_17 : decode cX7_leftRight 17 = .ok (.getfield 62, 3) := by decide +kernel
theorem dX7_leftRight_20 : decode cX7_leftRight 20 = .ok (.iload_n 2, 1) := by decide +kernel
theorem dX7_leftRight_21 : decode cX7_leftRight 21 = .ok (.iaload, 1) := by decide +kernel
theorem dX7_leftRight_22 : decode cX7_leftRight 22 = .ok (.aload_n 0, 1) := by decide +kernel
theorem dX7_leftRight_23 : decode cX7_leftRight 23 = .ok (.getfield 59, 3) := by decide +kernel
theorem dX7_leftRight_26 : decode cX7_leftRight 26 = .ok (.iload_n 2, 1) := by decide +kernel
theorem dX7_leftRight_27 : decode cX7_leftRight 27 = .ok (.iaload, 1) := by decide +kernel
theorem dX7_leftRight_28 : decode cX7_leftRight 28 = .ok (.if_icmp .le 7, 3) := by decide +kernel
theorem dX7_leftRight_31 : decode cX7_leftRight 31 = .ok (.iconst 1, 1) := by decide +kernel
theorem dX7_leftRight_32 : decode cX7_leftRight 32 = .ok (.goto 4, 3) := by decide +kernel
theorem dX7_leftRight_35 : decode cX7_leftRight 35 = .ok (.iconst 0, 1) := by decide +kernel
theorem dX7_leftRight_36 : decode cX7_leftRight 36 = .ok (.iadd, 1) := by decide +kernel
theorem dX7_leftRight_37 : decode cX7_leftRight 37 = .ok (.istore_n 1, 1) := by decide +kernel
theorem dX7_leftRight_38 : decode cX7_leftRight 38 = .ok (.iinc 2 1, 3) := by decide +kernel
theorem dX7_leftRight_41 : decode cX7_leftRight 41 = .ok (.goto (-34), 3) := by decide +kernel
theorem dX7_leftRight_44 : decode cX7_leftRight 44 = .ok (.iload_n 1, 1) := by decide +kernel
theorem dX7_leftRight_45 : decode cX7_leftRight 45 = .ok (.ireturn, 1) := by decide +kernel
theorem dX7_left_0 : decode cX7_left 0 = .ok (.aload_n 0, 1) := by decide +kernel
theorem dX7_left_1 : decode cX7_left 1 = .ok (.iconst 0, 1) := by decide +kernel
theorem dX7_left_2 : decode cX7_left 2 = .ok (.putfield 68, 3) := by decide +kernel
theorem dX7_left_5 : decode cX7_left 5 = .ok (.aload_n 0, 1) := by decide +kernel
theorem dX7_left_6 : decode cX7_left 6 = .ok (.getfield 164, 3) := by decide +kernel
theorem dX7_left_9 : decode cX7_left 9 = .ok (.ifCond .ne 5, 3) := by decide +kernel
theorem dX7_left_12 : decode cX7_left 12 = .ok (.iconst (-1), 1) := by decide +kernel
theorem dX7_left_13 : decode cX7_left 13 = .ok (.ireturn, 1) := by decide +kernel
theorem dX7_left_14 : decode cX7_left 14 = .ok (.iload_n 1, 1) := by decide +kernel
theorem dX7_left_15 : decode cX7_left 15 = .ok (.tableswitch 91 0 4 #[33, 43, 48, 69, 86], 33) := by decide +kernel
theorem dX7_left_48 : decode cX7_left 48 = .ok (.aload_n 0, 1) := by decide +kernel
theorem dX7_left_49 : decode cX7_left 49 = .ok (.getfield 171, 3) := by decide +kernel
theorem dX7_left_52 : decode cX7_left 52 = .ok (.aload_n 0, 1) := by decide +kernel
theorem dX7_left_53 : decode cX7_left 53 = .ok (.getfield 174, 3) := by decide +kernel
theorem dX7_left_56 : decode cX7_left 56 = .ok (.isub, 1) := by decide +kernel
theorem dX7_left_57 : decode cX7_left 57 = .ok (.ireturn, 1) := by decide +kernel
theorem dX7_left_58 : decode cX7_left 58 = .ok (.aload_n 0, 1) := by decide +kernel
theorem dX7_left_59 : decode cX7_left 59 = .ok (.invokevirtual 196, 3) := by decide +kernel
theorem dX7_left_62 : decode cX7_left 62 = .ok (.ireturn, 1) := by decide +kernel
theorem dX7_left_63 : decode cX7_left 63 = .ok (.iconst 1, 1) := by decide +kernel
theorem dX7_left_64 : decode cX7_left 64 = .ok (.aload_n 0, 1) := by decide +kernel
theorem dX7_left_65 : decode cX7_left 65 = .ok (.aload_n 0, 1) := by decide +kernel
theorem dX7_left_66 : decode cX7_left 66 = .ok (.getfield 174, 3) := by decide +kernel
theorem dX7_left_69 : decode cX7_left 69 = .ok (.aload_n 0, 1) := by decide +kernel
theorem dX7_left_70 : decode cX7_left 70 = .ok (.getfield 171, 3) := by decide +kernel
theorem dX7_left_73 : decode cX7_left 73 = .ok (.iconst 1, 1) := by decide +kernel
theorem dX7_left_74 : decode cX7_left 74 = .ok (.isub, 1) := by decide +kernel
theorem dX7_left_75 : decode cX7_left 75 = .ok (.aload_n 0, 1) := by decide +kernel
theorem dX7_left_76 : decode cX7_left 76 = .ok (.getfield 31, 3) := by decide +kernel
theorem dX7_left_79 : decode cX7_left 79 = .ok (.invokevirtual 187, 3) := by decide +kernel
theorem dX7_left_82 : decode cX7_left 82 = .ok (.iadd, 1) := by decide +kernel
theorem dX7_left_83 : decode cX7_left 83 = .ok (.ireturn, 1) := by decide +kernel
theorem dX7_left_84 : decode cX7_left 84 = .ok (.iconst 1, 1) := by decide +kernel
theorem dX7_left_85 : decode cX7_left 85 = .ok (.aload_n 0, 1) := by decide +kernel
theorem dX7_left_86 : decode cX7_left 86 = .ok (.aload_n 0, 1) := by decide +kernel
theorem dX7_left_87 : decode cX7_left 87 = .ok (.getfield 174, 3) := by decide +kernel
theorem dX7_left_90 : decode cX7_left 90 = .ok (.aload_n 0, 1) := by decide +kernel
theorem dX7_left_91 : decode cX7_left 91 = .ok (.getfield 171, 3) := by decide +kernel
theorem dX7_left_94 : decode cX7_left 94 = .ok (.iconst 1, 1) := by decide +kernel
theorem dX7_left_95 : decode cX7_left 95 = .ok (.isub, 1) := by decide +kernel
theorem dX7_left_96 : decode cX7_left 96 = .ok (.invokevirtual 190, 3) := by decide +kernel
theorem dX7_left_99 : decode cX7_left 99 = .ok (.iadd, 1) := by decide +kernel
theorem dX7_left_100 : decode cX7_left 100 = .ok (.ireturn, 1) := by decide +kernel
theorem dX7_left_101 : decode cX7_left 101 = .ok (.aload_n 0, 1) := by decide +kernel
theorem dX7_left_102 : decode cX7_left 102 = .ok (.invokevirtual 199, 3) := by decide +kernel
theorem dX7_left_105 : decode cX7_left 105 = .ok (.ireturn, 1) := by decide +kernel
theorem dX7_left_106 : decode cX7_left 106 = .ok (.iconst (-1), 1) := by decide +kernel
theorem dX7_left_107 : decode cX7_left 107 = .ok (.ireturn, 1) := by decide +kernel
theorem dX7_enough_0 : decode cX7_enough 0 = .ok (.aload_n 0, 1) := by decide +kernel
theorem dX7_enough_1 : decode cX7_enough 1 = .ok (.iconst 0, 1) := by decide +kernel
theorem dX7_enough_2 : decode cX7_enough 2 = .ok (.putfield 68, 3) := by decide +kernel
theorem dX7_enough_5 : decode cX7_enough 5 = .ok (.bipush 40, 2) := by decide +kernel
theorem dX7_enough_7 : decode cX7_enough 7 = .ok (.istore_n 2, 1) := by decide +kernel
theorem dX7_enough_8 : decode cX7_enough 8 = .ok (.aload_n 0, 1) := by decide +kernel
theorem dX7_enough_9 : decode cX7_enough 9 = .ok (.getfield 164, 3) := by decide +kernel
theorem dX7_enough_12 : decode cX7_enough 12 = .ok (.ifCond .eq 39, 3) := by decide +kernel
theorem dX7_enough_15 : decode cX7_enough 15 = .ok (.iload_n 2, 1) := by decide +kernel
theorem dX7_enough_16 : decode cX7_enough 16 = .ok (.sipush 400, 3) := by decide +kernel
theorem dX7_enough_19 : decode cX7_enough 19 = .ok (.if_icmp .gt 32, 3) := by decide +kernel
theorem dX7_enough_22 : decode cX7_enough 22 = .ok (.iconst 1, 1) := by decide +kernel
theorem dX7_enough_23 : decode cX7_enough 23 = .ok (.aload_n 0, 1) := by decide +kernel
theorem dX7_enough_24 : decode cX7_enough 24 = .ok (.aload_n 0, 1) := by decide +kernel
theorem dX7_enough_25 : decode cX7_enough 25 = .ok (.getfield 174, 3) := by decide +kernel
theorem dX7_enough_28 : decode cX7_enough 28 = .ok (.aload_n 0, 1) := by decide +kernel
theorem dX7_enough_29 : decode cX7_enough 29 = .ok (.getfield 171, 3) := by decide +kernel
theorem dX7_enough_32 : decode cX7_enough 32 = .ok (.iconst 1, 1) := by decide +kernel
theorem dX7_enough_33 : decode cX7_enough 33 = .ok (.isub, 1) := by decide +kernel
theorem dX7_enough_34 : decode cX7_enough 34 = .ok (.iload_n 2, 1) := by decide +kernel
theorem dX7_enough_35 : decode cX7_enough 35 = .ok (.invokevirtual 187, 3) := by decide +kernel
theorem dX7_enough_38 : decode cX7_enough 38 = .ok (.iadd, 1) := by decide +kernel
theorem dX7_enough_39 : decode cX7_enough 39 = .ok (.iload_n 1, 1) := by decide +kernel
theorem dX7_enough_40 : decode cX7_enough 40 = .ok (.if_icmp .gt 5, 3) := by decide +kernel
theorem dX7_enough_43 : decode cX7_enough 43 = .ok (.iload_n 2, 1) := by decide +kernel
theorem dX7_enough_44 : decode cX7_enough 44 = .ok (.ireturn, 1) := by decide +kernel
theorem dX7_enough_45 : decode cX7_enough 45 = .ok (.iinc 2 1, 3) := by decide +kernel
theorem dX7_enough_48 : decode cX7_enough 48 = .ok (.goto (-40), 3) := by decide +kernel
theorem dX7_enough_51 : decode cX7_enough 51 = .ok (.iconst (-1), 1) := by decide +kernel
theorem dX7_enough_52 : decode cX7_enough 52 = .ok (.ireturn, 1) := by decide +kernel
theorem dX7_shelf_0 : decode cX7_shelf 0 = .ok (.aload_n 0, 1) := by decide +kernel
theorem dX7_shelf_1 : decode cX7_shelf 1 = .ok (.iconst 0, 1) := by decide +kernel
theorem dX7_shelf_2 : decode cX7_shelf 2 = .ok (.putfield 68, 3) := by decide +kernel
theorem dX7_shelf_5 : decode cX7_shelf 5 = .ok (.aload_n 0, 1) := by decide +kernel
theorem dX7_shelf_6 : decode cX7_shelf 6 = .ok (.getfield 71, 3) := by decide +kernel
theorem dX7_shelf_9 : decode cX7_shelf 9 = .ok (.bipush 12, 2) := by decide +kernel
theorem dX7_shelf_11 : decode cX7_shelf 11 = .ok (.if_icmp .eq 24, 3) := by decide +kernel
theorem dX7_shelf_14 : decode cX7_shelf 14 = .ok (.iload_n 1, 1) := by decide +kernel
theorem dX7_shelf_15 : decode cX7_shelf 15 = .ok (.bipush 10, 2) := by decide +kernel
theorem dX7_shelf_17 : decode cX7_shelf 17 = .ok (.sipush 200, 3) := by decide +kernel
theorem dX7_shelf_20 : decode cX7_shelf 20 = .ok (.invokestatic 74, 3) := by decide +kernel
theorem dX7_shelf_23 : decode cX7_shelf 23 = .ok (.ifCond .eq 12, 3) := by decide +kernel
theorem dX7_shelf_26 : decode cX7_shelf 26 = .ok (.iload_n 2, 1) := by decide +kernel
theorem dX7_shelf_27 : decode cX7_shelf 27 = .ok (.iconst 0, 1) := by decide +kernel
theorem dX7_shelf_28 : decode cX7_shelf 28 = .ok (.iconst 2, 1) := by decide +kernel
theorem dX7_shelf_29 : decode cX7_shelf 29 = .ok (.invokestatic 74, 3) := by decide +kernel
theorem dX7_shelf_32 : decode cX7_shelf 32 = .ok (.ifCond .ne 5, 3) := by decide +kernel
theorem dX7_shelf_35 : decode cX7_shelf 35 = .ok (.iconst (-1), 1) := by decide +kernel
theorem dX7_shelf_36 : decode cX7_shelf 36 = .ok (.ireturn, 1) := by decide +kernel
theorem dX7_shelf_37 : decode cX7_shelf 37 = .ok (.aload_n 0, 1) := by decide +kernel
theorem dX7_shelf_38 : decode cX7_shelf 38 = .ok (.getfield 7, 3) := by decide +kernel
theorem dX7_shelf_41 : decode cX7_shelf 41 = .ok (.aload_n 0, 1) := by decide +kernel
theorem dX7_shelf_42 : decode cX7_shelf 42 = .ok (.getfield 71, 3) := by decide +kernel
theorem dX7_shelf_45 : decode cX7_shelf 45 = .ok (.iload_n 1, 1) := by decide +kernel
theorem dX7_shelf_46 : decode cX7_shelf 46 = .ok (.iastore, 1) := by decide +kernel
theorem dX7_shelf_47 : decode cX7_shelf 47 = .ok (.aload_n 0, 1) := by decide +kernel
theorem dX7_shelf_48 : decode cX7_shelf 48 = .ok (.getfield 13, 3) := by decide +kernel
theorem dX7_shelf_51 : decode cX7_shelf 51 = .ok (.aload_n 0, 1) := by decide +kernel
theorem dX7_shelf_52 : decode cX7_shelf 52 = .ok (.getfield 71, 3) := by decide +kernel
theorem dX7_shelf_55 : decode cX7_shelf 55 = .ok (.iload_n 2, 1) := by decide +kernel
theorem dX7_shelf_56 : decode cX7_shelf 56 = .ok (.iastore, 1) := by decide +kernel
theorem dX7_shelf_57 : decode cX7_shelf 57 = .ok (.aload_n 0, 1) := by decide +kernel
theorem dX7_shelf_58 : decode cX7_shelf 58 = .ok (.dup, 1) := by decide +kernel
theorem dX7_shelf_59 : decode cX7_shelf 59 = .ok (.getfield 71, 3) := by decide +kernel
theorem dX7_shelf_62 : decode cX7_shelf 62 = .ok (.iconst 1, 1) := by decide +kernel
theorem dX7_shelf_63 : decode cX7_shelf 63 = .ok (.iadd, 1) := by decide +kernel
theorem dX7_shelf_64 : decode cX7_shelf 64 = .ok (.putfield 71, 3) := by decide +kernel
theorem dX7_shelf_67 : decode cX7_shelf 67 = .ok (.aload_n 0, 1) := by decide +kernel
theorem dX7_shelf_68 : decode cX7_shelf 68 = .ok (.invokevirtual 151, 3) := by decide +kernel
theorem dX7_shelf_71 : decode cX7_shelf 71 = .ok (.aload_n 0, 1) := by decide +kernel
theorem dX7_shelf_72 : decode cX7_shelf 72 = .ok (.getfield 71, 3) := by decide +kernel
theorem dX7_shelf_75 : decode cX7_shelf 75 = .ok (.iconst 1, 1) := by decide +kernel
theorem dX7_shelf_76 : decode cX7_shelf 76 = .ok (.isub, 1) := by decide +kernel
theorem dX7_shelf_77 : decode cX7_shelf 77 = .ok (.ireturn, 1) := by decide +kernel
theorem dX7_turn_0 : decode cX7_turn 0 = .ok (.aload_n 0, 1) := by decide +kernel
theorem dX7_turn_1 : decode cX7_turn 1 = .ok (.iconst 0, 1) := by decide +kernel
theorem dX7_turn_2 : decode cX7_turn 2 = .ok (.putfield 68, 3) := by decide +kernel
theorem dX7_turn_5 : decode cX7_turn 5 = .ok (.aload_n 0, 1) := by decide +kernel
theorem dX7_turn_6 : decode cX7_turn 6 = .ok (.iload_n 1, 1) := by decide +kernel
theorem dX7_turn_7 : decode cX7_turn 7 = .ok (.invokevirtual 117, 3) := by decide +kernel
theorem dX7_turn_10 : decode cX7_turn 10 = .ok (.ifCond .eq 22, 3) := by decide +kernel
theorem dX7_turn_13 : decode cX7_turn 13 = .ok (.iload_n 2, 1) := by decide +kernel
theorem dX7_turn_14 : decode cX7_turn 14 = .ok (.iconst 0, 1) := by decide +kernel
theorem dX7_turn_15 : decode cX7_turn 15 = .ok (.iconst 2, 1) := by decide +kernel
theorem dX7_turn_16 : decode cX7_turn 16 = .ok (.invokestatic 74, 3) := by decide +kernel
theorem dX7_turn_19 : decode cX7_turn 19 = .ok (.ifCond .eq 13, 3) := by decide +kernel
theorem dX7_turn_22 : decode cX7_turn 22 = .ok (.aload_n 0, 1) := by decide +kernel
theorem dX7_turn_23 : decode cX7_turn 23 = .ok (.getfield 13, 3) := by decide +kernel
theorem dX7_turn_26 : decode cX7_turn 26 = .ok (.iload_n 1, 1) := by decide +kernel
theorem dX7_turn_27 : decode cX7_turn 27 = .ok (.iaload, 1) := by decide +kernel
theorem dX7_turn_28 : decode cX7_turn 28 = .ok (.iload_n 2, 1) := by decide +kernel
theorem dX7_turn_29 : decode cX7_turn 29 = .ok (.if_icmp .ne 5, 3) := by decide +kernel
theorem dX7_turn_32 : decode cX7_turn 32 = .ok (.iconst 0, 1) := by decide +kernel
theorem dX7_turn_33 : decode cX7_turn 33 = .ok (.ireturn, 1) := by decide +kernel
theorem dX7_turn_34 : decode cX7_turn 34 = .ok (.aload_n 0, 1) := by decide +kernel
theorem dX7_turn_35 : decode cX7_turn 35 = .ok (.getfield 13, 3) := by decide +kernel
theorem dX7_turn_38 : decode cX7_turn 38 = .ok (.iload_n 1, 1) := by decide +kernel
theorem dX7_turn_39 : decode cX7_turn 39 = .ok (.iload_n 2, 1) := by decide +kernel
theorem dX7_turn_40 : decode cX7_turn 40 = .ok (.iastore, 1) := by decide +kernel
theorem dX7_turn_41 : decode cX7_turn 41 = .ok (.aload_n 0, 1) := by decide +kernel
theorem dX7_turn_42 : decode cX7_turn 42 = .ok (.invokevirtual 151, 3) := by decide +kernel
theorem dX7_turn_45 : decode cX7_turn 45 = .ok (.iconst 1, 1) := by decide +kernel
theorem dX7_turn_46 : decode cX7_turn 46 = .ok (.ireturn, 1) := by decide +kernel
theorem dX7_group_0 : decode cX7_group 0 = .ok (.aload_n 0, 1) := by decide +kernel
theorem dX7_group_1 : decode cX7_group 1 = .ok (.iconst 0, 1) := by decide +kernel
theorem dX7_group_2 : decode cX7_group 2 = .ok (.putfield 68, 3) := by decide +kernel
theorem dX7_group_5 : decode cX7_group 5 = .ok (.aload_n 0, 1) := by decide +kernel
theorem dX7_group_6 : decode cX7_group 6 = .ok (.getfield 78, 3) := by decide +kernel
theorem dX7_group_9 : decode cX7_group 9 = .ok (.bipush 8, 2) := by decide +kernel
theorem dX7_group_11 : decode cX7_group 11 = .ok (.if_icmp .eq 13, 3) := by decide +kernel
theorem dX7_group_14 : decode cX7_group 14 = .ok (.iload_n 1, 1) := by decide +kernel
theorem dX7_group_15 : decode cX7_group 15 = .ok (.iconst 0, 1) := by decide +kernel
theorem dX7_group_16 : decode cX7_group 16 = .ok (.bipush 99, 2) := by decide +kernel
theorem dX7_group_18 : decode cX7_group 18 = .ok (.invokestatic 74, 3) := by decide +kernel
theorem dX7_group_21 : decode cX7_group 21 = .ok (.ifCond .ne 5, 3) := by decide +kernel
theorem dX7_group_24 : decode cX7_group 24 = .ok (.iconst (-1), 1) := by decide +kernel
theorem dX7_group_25 : decode cX7_group 25 = .ok (.ireturn, 1) := by decide +kernel
theorem dX7_group_26 : decode cX7_group 26 = .ok (.aload_n 0, 1) := by decide +kernel
theorem dX7_group_27 : decode cX7_group 27 = .ok (.getfield 16, 3) := by decide +kernel
theorem dX7_group_30 : decode cX7_group 30 = .ok (.aload_n 0, 1) := by decide +kernel
theorem dX7_group_31 : decode cX7_group 31 = .ok (.getfield 78, 3) := by decide +kernel
theorem dX7_group_34 : decode cX7_group 34 = .ok (.iload_n 1, 1) := by decide +kernel
theorem dX7_group_35 : decode cX7_group 35 = .ok (.iastore, 1) := by decide +kernel
theorem dX7_group_36 : decode cX7_group 36 = .ok (.aload_n 0, 1) := by decide +kernel
theorem dX7_group_37 : decode cX7_group 37 = .ok (.dup, 1) := by decide +kernel
theorem dX7_group_38 : decode cX7_group 38 = .ok (.getfield 78, 3) := by decide +kernel
theorem dX7_group_41 : decode cX7_group 41 = .ok (.iconst 1, 1) := by decide +kernel
theorem dX7_group_42 : decode cX7_group 42 = .ok (.iadd, 1) := by decide +kernel
theorem dX7_group_43 : decode cX7_group 43 = .ok (.putfield 78, 3) := by decide +kernel
theorem dX7_group_46 : decode cX7_group 46 = .ok (.aload_n 0, 1) := by decide +kernel
theorem dX7_group_47 : decode cX7_group 47 = .ok (.invokevirtual 151, 3) := by decide +kernel
theorem dX7_group_50 : decode cX7_group 50 = .ok (.aload_n 0, 1) := by decide +kernel
theorem dX7_group_51 : decode cX7_group 51 = .ok (.getfield 78, 3) := by decide +kernel
theorem dX7_group_54 : decode cX7_group 54 = .ok (.iconst 1, 1) := by decide +kernel
theorem dX7_group_55 : decode cX7_group 55 = .ok (.isub, 1) := by decide +kernel
theorem dX7_group_56 : decode cX7_group 56 = .ok (.ireturn, 1) := by decide +kernel
theorem dX7_grow_0 : decode cX7_grow 0 = .ok (.aload_n 0, 1) := by decide +kernel
theorem dX7_grow_1 : decode cX7_grow 1 = .ok (.iconst 0, 1) := by decide +kernel
theorem dX7_grow_2 : decode cX7_grow 2 = .ok (.putfield 68, 3) := by decide +kernel
theorem dX7_grow_5 : decode cX7_grow 5 = .ok (.aload_n 0, 1) := by decide +kernel
theorem dX7_grow_6 : decode cX7_grow 6 = .ok (.iload_n 1, 1) := by decide +kernel
theorem dX7_grow_7 : decode cX7_grow 7 = .ok (.invokevirtual 135, 3) := by decide +kernel
theorem dX7_grow_10 : decode cX7_grow 10 = .ok (.ifCond .eq 23, 3) := by decide +kernel
theorem dX7_grow_13 : decode cX7_grow 13 = .ok (.iload_n 2, 1) := by decide +kernel
theorem dX7_grow_14 : decode cX7_grow 14 = .ok (.iconst 0, 1) := by decide +kernel
theorem dX7_grow_15 : decode cX7_grow 15 = .ok (.bipush 99, 2) := by decide +kernel
theorem dX7_grow_17 : decode cX7_grow 17 = .ok (.invokestatic 74, 3) := by decide +kernel
theorem dX7_grow_20 : decode cX7_grow 20 = .ok (.ifCond .eq 13, 3) := by decide +kernel
theorem dX7_grow_23 : decode cX7_grow 23 = .ok (.aload_n 0, 1) := by decide +kernel
theorem dX7_grow_24 : decode cX7_grow 24 = .ok (.getfield 16, 3) := by decide +kernel
theorem dX7_grow_27 : decode cX7_grow 27 = .ok (.iload_n 1, 1) := by decide +kernel
theorem dX7_grow_28 : decode cX7_grow 28 = .ok (.iaload, 1) := by decide +kernel
theorem dX7_grow_29 : decode cX7_grow 29 = .ok (.iload_n 2, 1) := by decide +kernel
theorem dX7_grow_30 : decode cX7_grow 30 = .ok (.if_icmp .ne 5, 3) := by decide +kernel
theorem dX7_grow_33 : decode cX7_grow 33 = .ok (.iconst 0, 1) := by decide +kernel
theorem dX7_grow_34 : decode cX7_grow 34 = .ok (.ireturn, 1) := by decide +kernel
theorem dX7_grow_35 : decode cX7_grow 35 = .ok (.aload_n 0, 1) := by decide +kernel
theorem dX7_grow_36 : decode cX7_grow 36 = .ok (.getfield 16, 3) := by decide +kernel
theorem dX7_grow_39 : decode cX7_grow 39 = .ok (.iload_n 1, 1) := by decide +kernel
theorem dX7_grow_40 : decode cX7_grow 40 = .ok (.iload_n 2, 1) := by decide +kernel
theorem dX7_grow_41 : decode cX7_grow 41 = .ok (.iastore, 1) := by decide +kernel
theorem dX7_grow_42 : decode cX7_grow 42 = .ok (.aload_n 0, 1) := by decide +kernel
theorem dX7_grow_43 : decode cX7_grow 43 = .ok (.invokevirtual 151, 3) := by decide +kernel
theorem dX7_grow_46 : decode cX7_grow 46 = .ok (.iconst 1, 1) := by decide +kernel
theorem dX7_grow_47 : decode cX7_grow 47 = .ok (.ireturn, 1) := by decide +kernel
theorem dX7_limit_0 : decode cX7_limit 0 = .ok (.aload_n 0, 1) := by decide +kernel
theorem dX7_limit_1 : decode cX7_limit 1 = .ok (.iconst 0, 1) := by decide +kernel
theorem dX7_limit_2 : decode cX7_limit 2 = .ok (.putfield 68, 3) := by decide +kernel
theorem dX7_limit_5 : decode cX7_limit 5 = .ok (.iload_n 1, 1) := by decide +kernel
theorem dX7_limit_6 : decode cX7_limit 6 = .ok (.bipush 40, 2) := by decide +kernel
theorem dX7_limit_8 : decode cX7_limit 8 = .ok (.sipush 400, 3) := by decide +kernel
theorem dX7_limit_11 : decode cX7_limit 11 = .ok (.invokestatic 74, 3) := by decide +kernel
theorem dX7_limit_14 : decode cX7_limit 14 = .ok (.ifCond .eq 11, 3) := by decide +kernel
theorem dX7_limit_17 : decode cX7_limit 17 = .ok (.aload_n 0, 1) := by decide +kernel
theorem dX7_limit_18 : decode cX7_limit 18 = .ok (.getfield 31, 3) := by decide +kernel
theorem dX7_limit_21 : decode cX7_limit 21 = .ok (.iload_n 1, 1) := by decide +kernel
theorem dX7_limit_22 : decode cX7_limit 22 = .ok (.if_icmp .ne 5, 3) := by decide +kernel
theorem dX7_limit_25 : decode cX7_limit 25 = .ok (.iconst 0, 1) := by decide +kernel
theorem dX7_limit_26 : decode cX7_limit 26 = .ok (.ireturn, 1) := by decide +kernel
theorem dX7_limit_27 : decode cX7_limit 27 = .ok (.aload_n 0, 1) := by decide +kernel
theorem dX7_limit_28 : decode cX7_limit 28 = .ok (.iload_n 1, 1) := by decide +kernel
theorem dX7_limit_29 : decode cX7_limit 29 = .ok (.putfield 31, 3) := by decide +kernel
theorem dX7_limit_32 : decode cX7_limit 32 = .ok (.iconst 1, 1) := by decide +kernel
theorem dX7_limit_33 : decode cX7_limit 33 = .ok (.ireturn, 1) := by decide +kernel
theorem dX7_allWidths_0 : decode cX7_allWidths 0 = .ok (.iconst 0, 1) := by decide +kernel
theorem dX7_allWidths_1 : decode cX7_allWidths 1 = .ok (.istore_n 1, 1) := by decide +kernel
theorem dX7_allWidths_2 : decode cX7_allWidths 2 = .ok (.iconst 0, 1) := by decide +kernel
theorem dX7_allWidths_3 : decode cX7_allWidths 3 = .ok (.istore_n 2, 1) := by decide +kernel
theorem dX7_allWidths_4 : decode cX7_allWidths 4 = .ok (.iload_n 2, 1) := by decide +kernel
theorem dX7_allWidths_5 : decode cX7_allWidths 5 = .ok (.aload_n 0, 1) := by decide +kernel
theorem dX7_allWidths_6 : decode cX7_allWidths 6 = .ok (.getfield 81, 3) := by decide +kernel
theorem dX7_allWidths_9 : decode cX7_allWidths 9 = .ok (.if_icmp .ge 18, 3) := by decide +kernel
theorem dX7_allWidths_12 : decode cX7_allWidths 12 = .ok (.iload_n 1, 1) := by decide +kernel
theorem dX7_allWidths_13 : decode cX7_allWidths 13 = .ok (.aload_n 0, 1) := by decide +kernel
theorem dX7_allWidths_14 : decode cX7_allWidths 14 = .ok (.getfield 22, 3) := by decide +kernel
theorem dX7_allWidths_17 : decode cX7_allWidths 17 = .ok (.iload_n 2, 1) := by decide +kernel
theorem dX7_allWidths_18 : decode cX7_allWidths 18 = .ok (.iaload, 1) := by decide +kernel
theorem dX7_allWidths_19 : decode cX7_allWidths 19 = .ok (.iadd, 1) := by decide +kernel
theorem dX7_allWidths_20 : decode cX7_allWidths 20 = .ok (.istore_n 1, 1) := by decide +kernel
theorem dX7_allWidths_21 : decode cX7_allWidths 21 = .ok (.iinc 2 1, 3) := by decide +kernel
theorem dX7_allWidths_24 : decode cX7_allWidths 24 = .ok (.goto (-20), 3) := by decide +kernel
theorem dX7_allWidths_27 : decode cX7_allWidths 27 = .ok (.iload_n 1, 1) := by decide +kernel
theorem dX7_allWidths_28 : decode cX7_allWidths 28 = .ok (.ireturn, 1) := by decide +kernel
theorem dX7_openLengths_0 : decode cX7_openLengths 0 = .ok (.iconst 0, 1) := by decide +kernel
theorem dX7_openLengths_1 : decode cX7_openLengths 1 = .ok (.istore_n 1, 1) := by decide +kernel
theorem dX7_openLengths_2 : decode cX7_openLengths 2 = .ok (.iconst 0, 1) := by decide +kernel
theorem dX7_openLengths_3 : decode cX7_openLengths 3 = .ok (.istore_n 2, 1) := by decide +kernel
theorem dX7_openLengths_4 : decode cX7_openLengths 4 = .ok (.iload_n 2, 1) := by decide +kernel
theorem dX7_openLengths_5 : decode cX7_openLengths 5 = .ok (.aload_n 0, 1) := by decide +kernel
theorem dX7_openLengths_6 : decode cX7_openLengths 6 = .ok (.getfield 71, 3) := by decide +kernel
theorem dX7_openLengths_9 : decode cX7_openLengths 9 = .ok (.if_icmp .ge 31, 3) := by decide +kernel
theorem dX7_openLengths_12 : decode cX7_openLengths 12 = .ok (.iload_n 1, 1) := by decide +kernel
theorem dX7_openLengths_13 : decode cX7_openLengths 13 = .ok (.aload_n 0, 1) := by decide +kernel
theorem dX7_openLengths_14 : decode cX7_openLengths 14 = .ok (.getfield 13, 3) := by decide +kernel
theorem dX7_openLengths_17 : decode cX7_openLengths 17 = .ok (.iload_n 2, 1) := by decide +kernel
theorem dX7_openLengths_18 : decode cX7_openLengths 18 = .ok (.iaload, 1) := by decide +kernel
theorem dX7_openLengths_19 : decode cX7_openLengths 19 = .ok (.ifCond .ne 12, 3) := by decide +kernel
theorem dX7_openLengths_22 : decode cX7_openLengths 22 = .ok (.aload_n 0, 1) := by decide +kernel
theorem dX7_openLengths_23 : decode cX7_openLengths 23 = .ok (.getfield 7, 3) := by decide +kernel
theorem dX7_openLengths_26 : decode cX7_openLengths 26 = .ok (.iload_n 2, 1) := by decide +kernel
theorem dX7_openLengths_27 : decode cX7_openLengths 27 = .ok (.iaload, 1) := by decide +kernel
theorem dX7_openLengths_28 : decode cX7_openLengths 28 = .ok (.goto 4, 3) := by decide +kernel
theorem dX7_openLengths_31 : decode cX7_openLengths 31 = .ok (.iconst 0, 1) := by decide +kernel
theorem dX7_openLengths_32 : decode cX7_openLengths 32 = .ok (.iadd, 1) := by decide +kernel
theorem dX7_openLengths_33 : decode cX7_openLengths 33 = .ok (.istore_n 1, 1) := by decide +kernel
theorem dX7_openLengths_34 : decode cX7_openLengths 34 = .ok (.iinc 2 1, 3) := by decide +kernel
theorem dX7_openLengths_37 : decode cX7_openLengths 37 = .ok (.goto (-33), 3) := by decide +kernel
theorem dX7_openLengths_40 : decode cX7_openLengths 40 = .ok (.iload_n 1, 1) := by decide +kernel
theorem dX7_openLengths_41 : decode cX7_openLengths 41 = .ok (.ireturn, 1) := by decide +kernel
theorem dX7_count_0 : decode cX7_count 0 = .ok (.aload_n 0, 1) := by decide +kernel
theorem dX7_count_1 : decode cX7_count 1 = .ok (.iconst 0, 1) := by decide +kernel
theorem dX7_count_2 : decode cX7_count 2 = .ok (.putfield 68, 3) := by decide +kernel
theorem dX7_count_5 : decode cX7_count 5 = .ok (.iload_n 1, 1) := by decide +kernel
theorem dX7_count_6 : decode cX7_count 6 = .ok (.tableswitch 146 0 10 #[58, 63, 68, 73, 78, 83, 88, 104, 120, 136, 141], 58) := by decide +kernel
theorem dX7_count_64 : decode cX7_count 64 = .ok (.aload_n 0, 1) := by decide +kernel
theorem dX7_count_65 : decode cX7_count 65 = .ok (.getfield 71, 3) := by decide +kernel
theorem dX7_count_68 : decode cX7_count 68 = .ok (.ireturn, 1) := by decide +kernel
theorem dX7_count_69 : decode cX7_count 69 = .ok (.aload_n 0, 1) := by decide +kernel
theorem dX7_count_70 : decode cX7_count 70 = .ok (.getfield 78, 3) := by decide +kernel
theorem dX7_count_73 : decode cX7_count 73 = .ok (.ireturn, 1) := by decide +kernel
theorem dX7_count_74 : decode cX7_count 74 = .ok (.aload_n 0, 1) := by decide +kernel
theorem dX7_count_75 : decode cX7_count 75 = .ok (.getfield 81, 3) := by decide +kernel
theorem dX7_count_78 : decode cX7_count 78 = .ok (.ireturn, 1) := by decide +kernel
theorem dX7_count_79 : decode cX7_count 79 = .ok (.aload_n 0, 1) := by decide +kernel
theorem dX7_count_80 : decode cX7_count 80 = .ok (.invokevirtual 202, 3) := by decide +kernel
theorem dX7_count_83 : decode cX7_count 83 = .ok (.ireturn, 1) := by decide +kernel
theorem dX7_count_84 : decode cX7_count 84 = .ok (.aload_n 0, 1) := by decide +kernel
theorem dX7_count_85 : decode cX7_count 85 = .ok (.invokevirtual 205, 3) := by decide +kernel
theorem dX7_count_88 : decode cX7_count 88 = .ok (.ireturn, 1) := by decide +kernel
theorem dX7_count_89 : decode cX7_count 89 = .ok (.aload_n 0, 1) := by decide +kernel
theorem dX7_count_90 : decode cX7_count 90 = .ok (.getfield 31, 3) := by decide +kernel
theorem dX7_count_93 : decode cX7_count 93 = .ok (.ireturn, 1) := by decide +kernel
theorem dX7_count_94 : decode cX7_count 94 = .ok (.aload_n 0, 1) := by decide +kernel
theorem dX7_count_95 : decode cX7_count 95 = .ok (.getfield 164, 3) := by decide +kernel
theorem dX7_count_98 : decode cX7_count 98 = .ok (.ifCond .eq 10, 3) := by decide +kernel
theorem dX7_count_101 : decode cX7_count 101 = .ok (.aload_n 0, 1) := by decide +kernel
theorem dX7_count_102 : decode cX7_count 102 = .ok (.getfield 171, 3) := by decide +kernel
theorem dX7_count_105 : decode cX7_count 105 = .ok (.goto 4, 3) := by decide +kernel
theorem dX7_count_108 : decode cX7_count 108 = .ok (.iconst 0, 1) := by decide +kernel
theorem dX7_count_109 : decode cX7_count 109 = .ok (.ireturn, 1) := by decide +kernel
theorem dX7_count_110 : decode cX7_count 110 = .ok (.aload_n 0, 1) := by decide +kernel
theorem dX7_count_111 : decode cX7_count 111 = .ok (.getfield 164, 3) := by decide +kernel
theorem dX7_count_114 : decode cX7_count 114 = .ok (.ifCond .eq 10, 3) := by decide +kernel
theorem dX7_count_117 : decode cX7_count 117 = .ok (.aload_n 0, 1) := by decide +kernel
theorem dX7_count_118 : decode cX7_count 118 = .ok (.getfield 174, 3) := by decide +kernel
theorem dX7_count_121 : decode cX7_count 121 = .ok (.goto 4, 3) := by decide +kernel
theorem dX7_count_124 : decode cX7_count 124 = .ok (.iconst 0, 1) := by decide +kernel
theorem dX7_count_125 : decode cX7_count 125 = .ok (.ireturn, 1) := by decide +kernel
theorem dX7_count_126 : decode cX7_count 126 = .ok (.aload_n 0, 1) := by decide +kernel
theorem dX7_count_127 : decode cX7_count 127 = .ok (.getfield 164, 3) := by decide +kernel
theorem dX7_count_130 : decode cX7_count 130 = .ok (.ifCond .eq 10, 3) := by decide +kernel
theorem dX7_count_133 : decode cX7_count 133 = .ok (.aload_n 0, 1) := by decide +kernel
theorem dX7_count_134 : decode cX7_count 134 = .ok (.getfield 177, 3) := by decide +kernel
theorem dX7_count_137 : decode cX7_count 137 = .ok (.goto 4, 3) := by decide +kernel
theorem dX7_count_140 : decode cX7_count 140 = .ok (.iconst (-1), 1) := by decide +kernel
theorem dX7_count_141 : decode cX7_count 141 = .ok (.ireturn, 1) := by decide +kernel
theorem dX7_count_142 : decode cX7_count 142 = .ok (.aload_n 0, 1) := by decide +kernel
theorem dX7_count_143 : decode cX7_count 143 = .ok (.getfield 84, 3) := by decide +kernel
theorem dX7_count_146 : decode cX7_count 146 = .ok (.ireturn, 1) := by decide +kernel
theorem dX7_count_147 : decode cX7_count 147 = .ok (.aload_n 0, 1) := by decide +kernel
theorem dX7_count_148 : decode cX7_count 148 = .ok (.getfield 168, 3) := by decide +kernel
theorem dX7_count_151 : decode cX7_count 151 = .ok (.ireturn, 1) := by decide +kernel
theorem dX7_count_152 : decode cX7_count 152 = .ok (.iconst (-1), 1) := by decide +kernel
theorem dX7_count_153 : decode cX7_count 153 = .ok (.ireturn, 1) := by decide +kernel
theorem dX7_on_0 : decode cX7_on 0 = .ok (.aload_n 0, 1) := by decide +kernel
theorem dX7_on_1 : decode cX7_on 1 = .ok (.aload_n 0, 1) := by decide +kernel
theorem dX7_on_2 : decode cX7_on 2 = .ok (.iload_n 1, 1) := by decide +kernel
theorem dX7_on_3 : decode cX7_on 3 = .ok (.invokevirtual 117, 3) := by decide +kernel
theorem dX7_on_6 : decode cX7_on 6 = .ok (.ifCond .eq 17, 3) := by decide +kernel
theorem dX7_on_9 : decode cX7_on 9 = .ok (.iload_n 2, 1) := by decide +kernel
theorem dX7_on_10 : decode cX7_on 10 = .ok (.iconst 0, 1) := by decide +kernel
theorem dX7_on_11 : decode cX7_on 11 = .ok (.bipush 7, 2) := by decide +kernel
theorem dX7_on_13 : decode cX7_on 13 = .ok (.invokestatic 74, 3) := by decide +kernel
theorem dX7_on_16 : decode cX7_on 16 = .ok (.ifCond .eq 7, 3) := by decide +kernel
theorem dX7_on_19 : decode cX7_on 19 = .ok (.iconst 0, 1) := by decide +kernel
theorem dX7_on_20 : decode cX7_on 20 = .ok (.goto 4, 3) := by decide +kernel
theorem dX7_on_23 : decode cX7_on 23 = .ok (.iconst 1, 1) := by decide +kernel
theorem dX7_on_24 : decode cX7_on 24 = .ok (.putfield 68, 3) := by decide +kernel
theorem dX7_on_27 : decode cX7_on 27 = .ok (.aload_n 0, 1) := by decide +kernel
theorem dX7_on_28 : decode cX7_on 28 = .ok (.getfield 68, 3) := by decide +kernel
theorem dX7_on_31 : decode cX7_on 31 = .ok (.ifCond .le 5, 3) := by decide +kernel
theorem dX7_on_34 : decode cX7_on 34 = .ok (.iconst 0, 1) := by decide +kernel
theorem dX7_on_35 : decode cX7_on 35 = .ok (.ireturn, 1) := by decide +kernel
theorem dX7_on_36 : decode cX7_on 36 = .ok (.iload_n 2, 1) := by decide +kernel
theorem dX7_on_37 : decode cX7_on 37 = .ok (.tableswitch 94 0 6 #[43, 50, 57, 63, 76, 82, 88], 43) := by decide +kernel
theorem dX7_on_80 : decode cX7_on 80 = .ok (.aload_n 0, 1) := by decide +kernel
theorem dX7_on_81 : decode cX7_on 81 = .ok (.getfield 7, 3) := by decide +kernel
theorem dX7_on_84 : decode cX7_on 84 = .ok (.iload_n 1, 1) := by decide +kernel
theorem dX7_on_85 : decode cX7_on 85 = .ok (.iaload, 1) := by decide +kernel
theorem dX7_on_86 : decode cX7_on 86 = .ok (.ireturn, 1) := by decide +kernel
theorem dX7_on_87 : decode cX7_on 87 = .ok (.aload_n 0, 1) := by decide +kernel
theorem dX7_on_88 : decode cX7_on 88 = .ok (.getfield 13, 3) := by decide +kernel
theorem dX7_on_91 : decode cX7_on 91 = .ok (.iload_n 1, 1) := by decide +kernel
theorem dX7_on_92 : decode cX7_on 92 = .ok (.iaload, 1) := by decide +kernel
theorem dX7_on_93 : decode cX7_on 93 = .ok (.ireturn, 1) := by decide +kernel
theorem dX7_on_94 : decode cX7_on 94 = .ok (.aload_n 0, 1) := by decide +kernel
theorem dX7_on_95 : decode cX7_on 95 = .ok (.iload_n 1, 1) := by decide +kernel
theorem dX7_on_96 : decode cX7_on 96 = .ok (.invokevirtual 97, 3) := by decide +kernel
theorem dX7_on_99 : decode cX7_on 99 = .ok (.ireturn, 1) := by decide +kernel
theorem dX7_on_100 : decode cX7_on 100 = .ok (.aload_n 0, 1) := by decide +kernel
theorem dX7_on_101 : decode cX7_on 101 = .ok (.getfield 7, 3) := by decide +kernel
theorem dX7_on_104 : decode cX7_on 104 = .ok (.iload_n 1, 1) := by decide +kernel
theorem dX7_on_105 : decode cX7_on 105 = .ok (.iaload, 1) := by decide +kernel
theorem dX7_on_106 : decode cX7_on 106 = .ok (.aload_n 0, 1) := by decide +kernel
theorem dX7_on_107 : decode cX7_on 107 = .ok (.iload_n 1, 1) := by decide +kernel
theorem dX7_on_108 : decode cX7_on 108 = .ok (.invokevirtual 97, 3) := by decide +kernel
theorem dX7_on_111 : decode cX7_on 111 = .ok (.isub, 1) := by decide +kernel
theorem dX7_on_112 : decode cX7_on 112 = .ok (.ireturn, 1) := by decide +kernel
theorem dX7_on_113 : decode cX7_on 113 = .ok (.aload_n 0, 1) := by decide +kernel
theorem dX7_on_114 : decode cX7_on 114 = .ok (.iload_n 1, 1) := by decide +kernel
theorem dX7_on_115 : decode cX7_on 115 = .ok (.invokevirtual 94, 3) := by decide +kernel
theorem dX7_on_118 : decode cX7_on 118 = .ok (.ireturn, 1) := by decide +kernel
theorem dX7_on_119 : decode cX7_on 119 = .ok (.aload_n 0, 1) := by decide +kernel
theorem dX7_on_120 : decode cX7_on 120 = .ok (.iload_n 1, 1) := by decide +kernel
theorem dX7_on_121 : decode cX7_on 121 = .ok (.invokevirtual 208, 3) := by decide +kernel
theorem dX7_on_124 : decode cX7_on 124 = .ok (.ireturn, 1) := by decide +kernel
theorem dX7_on_125 : decode cX7_on 125 = .ok (.aload_n 0, 1) := by decide +kernel
theorem dX7_on_126 : decode cX7_on 126 = .ok (.iload_n 1, 1) := by decide +kernel
theorem dX7_on_127 : decode cX7_on 127 = .ok (.invokevirtual 211, 3) := by decide +kernel
theorem dX7_on_130 : decode cX7_on 130 = .ok (.ireturn, 1) := by decide +kernel
theorem dX7_on_131 : decode cX7_on 131 = .ok (.aload_n 0, 1) := by decide +kernel
theorem dX7_on_132 : decode cX7_on 132 = .ok (.iload_n 1, 1) := by decide +kernel
theorem dX7_on_133 : decode cX7_on 133 = .ok (.invokevirtual 214, 3) := by decide +kernel
theorem dX7_on_136 : decode cX7_on 136 = .ok (.ireturn, 1) := by decide +kernel
theorem dX7_booksOf_0 : decode cX7_booksOf 0 = .ok (.iconst 0, 1) := by decide +kernel
theorem dX7_booksOf_1 : decode cX7_booksOf 1 = .ok (.istore_n 2, 1) := by decide +kernel
theorem dX7_booksOf_2 : decode cX7_booksOf 2 = .ok (.iconst 0, 1) := by decide +kernel
theorem dX7_booksOf_3 : decode cX7_booksOf 3 = .ok (.istore_n 3, 1) := by decide +kernel
theorem dX7_booksOf_4 : decode cX7_booksOf 4 = .ok (.iload_n 3, 1) := by decide +kernel
theorem dX7_booksOf_5 : decode cX7_booksOf 5 = .ok (.aload_n 0, 1) := by decide +kernel
theorem dX7_booksOf_6 : decode cX7_booksOf 6 = .ok (.getfield 81, 3) := by decide +kernel
theorem dX7_booksOf_9 : decode cX7_booksOf 9 = .ok (.if_icmp .ge 27, 3) := by decide +kernel
theorem dX7_booksOf_12 : decode cX7_booksOf 12 = .ok (.iload_n 2, 1) := by decide +kernel
theorem dX7_booksOf_13 : decode cX7_booksOf 13 = .ok (.aload_n 0, 1) := by decide +kernel
theorem dX7_booksOf_14 : decode cX7_booksOf 14 = .ok (.getfield 19, 3) := by decide +kernel
theorem dX7_booksOf_17 : decode cX7_booksOf 17 = .ok (.iload_n 3, 1) := by decide +kernel
theorem dX7_booksOf_18 : decode cX7_booksOf 18 = .ok (.iaload, 1) := by decide +kernel
theorem dX7_booksOf_19 : decode cX7_booksOf 19 = .ok (.iload_n 1, 1) := by decide +kernel
theorem dX7_booksOf_20 : decode cX7_booksOf 20 = .ok (.if_icmp .ne 7, 3) := by decide +kernel
theorem dX7_booksOf_23 : decode cX7_booksOf 23 = .ok (.iconst 1, 1) := by decide +kernel
theorem dX7_booksOf_24 : decode cX7_booksOf 24 = .ok (.goto 4, 3) := by decide +kernel
theorem dX7_booksOf_27 : decode cX7_booksOf 27 = .ok (.iconst 0, 1) := by decide +kernel
theorem dX7_booksOf_28 : decode cX7_booksOf 28 = .ok (.iadd, 1) := by decide +kernel
theorem dX7_booksOf_29 : decode cX7_booksOf 29 = .ok (.istore_n 2, 1) := by decide +kernel
theorem dX7_booksOf_30 : decode cX7_booksOf 30 = .ok (.iinc 3 1, 3) := by decide +kernel
theorem dX7_booksOf_33 : decode cX7_booksOf 33 = .ok (.goto (-29), 3) := by decide +kernel
theorem dX7_booksOf_36 : decode cX7_booksOf 36 = .ok (.iload_n 2, 1) := by decide +kernel
theorem dX7_booksOf_37 : decode cX7_booksOf 37 = .ok (.ireturn, 1) := by decide +kernel
theorem dX7_firstOf_0 : decode cX7_firstOf 0 = .ok (.iconst 0, 1) := by decide +kernel
theorem dX7_firstOf_1 : decode cX7_firstOf 1 = .ok (.istore_n 2, 1) := by decide +kernel
theorem dX7_firstOf_2 : decode cX7_firstOf 2 = .ok (.iload_n 2, 1) := by decide +kernel
theorem dX7_firstOf_3 : decode cX7_firstOf 3 = .ok (.aload_n 0, 1) := by decide +kernel
theorem dX7_firstOf_4 : decode cX7_firstOf 4 = .ok (.getfield 81, 3) := by decide +kernel
theorem dX7_firstOf_7 : decode cX7_firstOf 7 = .ok (.if_icmp .ge 19, 3) := by decide +kernel
theorem dX7_firstOf_10 : decode cX7_firstOf 10 = .ok (.aload_n 0, 1) := by decide +kernel
theorem dX7_firstOf_11 : decode cX7_firstOf 11 = .ok (.getfield 19, 3) := by decide +kernel
theorem dX7_firstOf_14 : decode cX7_firstOf 14 = .ok (.iload_n 2, 1) := by decide +kernel
theorem dX7_firstOf_15 : decode cX7_firstOf 15 = .ok (.iaload, 1) := by decide +kernel
theorem dX7_firstOf_16 : decode cX7_firstOf 16 = .ok (.iload_n 1, 1) := by decide +kernel
theorem dX7_firstOf_17 : decode cX7_firstOf 17 = .ok (.if_icmp .eq 9, 3) := by decide +kernel
theorem dX7_firstOf_20 : decode cX7_firstOf 20 = .ok (.iinc 2 1, 3) := by decide +kernel
theorem dX7_firstOf_23 : decode cX7_firstOf 23 = .ok (.goto (-21), 3) := by decide +kernel
theorem dX7_firstOf_26 : decode cX7_firstOf 26 = .ok (.iload_n 2, 1) := by decide +kernel
theorem dX7_firstOf_27 : decode cX7_firstOf 27 = .ok (.aload_n 0, 1) := by decide +kernel
theorem dX7_firstOf_28 : decode cX7_firstOf 28 = .ok (.getfield 81, 3) := by decide +kernel
theorem dX7_firstOf_31 : decode cX7_firstOf 31 = .ok (.if_icmp .ne 7, 3) := by decide +kernel
theorem dX7_firstOf_34 : decode cX7_firstOf 34 = .ok (.iconst (-1), 1) := by decide +kernel
theorem dX7_firstOf_35 : decode cX7_firstOf 35 = .ok (.goto 4, 3) := by decide +kernel
theorem dX7_firstOf_38 : decode cX7_firstOf 38 = .ok (.iload_n 2, 1) := by decide +kernel
theorem dX7_firstOf_39 : decode cX7_firstOf 39 = .ok (.ireturn, 1) := by decide +kernel
theorem dX7_shelvesOf_0 : decode cX7_shelvesOf 0 = .ok (.iconst 0, 1) := by decide +kernel
theorem dX7_shelvesOf_1 : decode cX7_shelvesOf 1 = .ok (.istore_n 2, 1) := by decide +kernel
theorem dX7_shelvesOf_2 : decode cX7_shelvesOf 2 = .ok (.iconst (-1), 1) := by decide +kernel
theorem dX7_shelvesOf_3 : decode cX7_shelvesOf 3 = .ok (.istore_n 3, 1) := by decide +kernel
theorem dX7_shelvesOf_4 : decode cX7_shelvesOf 4 = .ok (.iconst 0, 1) := by decide +kernel
theorem dX7_shelvesOf_5 : decode cX7_shelvesOf 5 = .ok (.istore 4, 2) := by decide +kernel
theorem dX7_shelvesOf_7 : decode cX7_shelvesOf 7 = .ok (.iload 4, 2) := by decide +kernel
theorem dX7_shelvesOf_9 : decode cX7_shelvesOf 9 = .ok (.aload_n 0, 1) := by decide +kernel
theorem dX7_shelvesOf_10 : decode cX7_shelvesOf 10 = .ok (.getfield 81, 3) := by decide +kernel
theorem dX7_shelvesOf_13 : decode cX7_shelvesOf 13 = .ok (.if_icmp .ge 42, 3) := by decide +kernel
theorem dX7_shelvesOf_16 : decode cX7_shelvesOf 16 = .ok (.aload_n 0, 1) := by decide +kernel
theorem dX7_shelvesOf_17 : decode cX7_shelvesOf 17 = .ok (.getfield 19, 3) := by decide +kernel
theorem dX7_shelvesOf_20 : decode cX7_shelvesOf 20 = .ok (.iload 4, 2) := by decide +kernel
theorem dX7_shelvesOf_22 : decode cX7_shelvesOf 22 = .ok (.iaload, 1) := by decide +kernel
theorem dX7_shelvesOf_23 : decode cX7_shelvesOf 23 = .ok (.iload_n 1, 1) := by decide +kernel
theorem dX7_shelvesOf_24 : decode cX7_shelvesOf 24 = .ok (.if_icmp .ne 25, 3) := by decide +kernel
theorem dX7_shelvesOf_27 : decode cX7_shelvesOf 27 = .ok (.aload_n 0, 1) := by decide +kernel
theorem dX7_shelvesOf_28 : decode cX7_shelvesOf 28 = .ok (.getfield 25, 3) := by decide +kernel
theorem dX7_shelvesOf_31 : decode cX7_shelvesOf 31 = .ok (.iload 4, 2) := by decide +kernel
theorem dX7_shelvesOf_33 : decode cX7_shelvesOf 33 = .ok (.iaload, 1) := by decide +kernel
theorem dX7_shelvesOf_34 : decode cX7_shelvesOf 34 = .ok (.iload_n 3, 1) := by decide +kernel
theorem dX7_shelvesOf_35 : decode cX7_shelvesOf 35 = .ok (.if_icmp .eq 14, 3) := by decide +kernel
theorem dX7_shelvesOf_38 : decode cX7_shelvesOf 38 = .ok (.aload_n 0, 1) := by decide +kernel
theorem dX7_shelvesOf_39 : decode cX7_shelvesOf 39 = .ok (.getfield 25, 3) := by decide +kernel
theorem dX7_shelvesOf_42 : decode cX7_shelvesOf 42 = .ok (.iload 4, 2) := by decide +kernel
theorem dX7_shelvesOf_44 : decode cX7_shelvesOf 44 = .ok (.iaload, 1) := by decide +kernel
theorem dX7_shelvesOf_45 : decode cX7_shelvesOf 45 = .ok (.istore_n 3, 1) := by decide +kernel
theorem dX7_shelvesOf_46 : decode cX7_shelvesOf 46 = .ok (.iinc 2 1, 3) := by decide +kernel
theorem dX7_shelvesOf_49 : decode cX7_shelvesOf 49 = .ok (.iinc 4 1, 3) := by decide +kernel
theorem dX7_shelvesOf_52 : decode cX7_shelvesOf 52 = .ok (.goto (-45), 3) := by decide +kernel
theorem dX7_shelvesOf_55 : decode cX7_shelvesOf 55 = .ok (.iload_n 2, 1) := by decide +kernel
theorem dX7_shelvesOf_56 : decode cX7_shelvesOf 56 = .ok (.ireturn, 1) := by decide +kernel
theorem dX7_in_0 : decode cX7_in 0 = .ok (.aload_n 0, 1) := by decide +kernel
theorem dX7_in_1 : decode cX7_in 1 = .ok (.aload_n 0, 1) := by decide +kernel
theorem dX7_in_2 : decode cX7_in 2 = .ok (.iload_n 1, 1) := by decide +kernel
theorem dX7_in_3 : decode cX7_in 3 = .ok (.invokevirtual 135, 3) := by decide +kernel
theorem dX7_in_6 : decode cX7_in 6 = .ok (.ifCond .eq 16, 3) := by decide +kernel
theorem dX7_in_9 : decode cX7_in 9 = .ok (.iload_n 2, 1) := by decide +kernel
theorem dX7_in_10 : decode cX7_in 10 = .ok (.iconst 0, 1) := by decide +kernel
theorem dX7_in_11 : decode cX7_in 11 = .ok (.iconst 4, 1) := by decide +kernel
theorem dX7_in_12 : decode cX7_in 12 = .ok (.invokestatic 74, 3) := by decide +kernel
theorem dX7_in_15 : decode cX7_in 15 = .ok (.ifCond .eq 7, 3) := by decide +kernel
theorem dX7_in_18 : decode cX7_in 18 = .ok (.iconst 0, 1) := by decide +kernel
theorem dX7_in_19 : decode cX7_in 19 = .ok (.goto 4, 3) := by decide +kernel
theorem dX7_in_22 : decode cX7_in 22 = .ok (.iconst 1, 1) := by decide +kernel
theorem dX7_in_23 : decode cX7_in 23 = .ok (.putfield 68, 3) := by decide +kernel
theorem dX7_in_26 : decode cX7_in 26 = .ok (.aload_n 0, 1) := by decide +kernel
theorem dX7_in_27 : decode cX7_in 27 = .ok (.getfield 68, 3) := by decide +kernel
theorem dX7_in_30 : decode cX7_in 30 = .ok (.ifCond .le 5, 3) := by decide +kernel
theorem dX7_in_33 : decode cX7_in 33 = .ok (.iconst 0, 1) := by decide +kernel
theorem dX7_in_34 : decode cX7_in 34 = .ok (.ireturn, 1) := by decide +kernel
theorem dX7_in_35 : decode cX7_in 35 = .ok (.iload_n 2, 1) := by decide +kernel
theorem dX7_in_36 : decode cX7_in 36 = .ok (.tableswitch 57 0 3 #[32, 39, 45, 51], 32) := by decide +kernel
theorem dX7_in_68 : decode cX7_in 68 = .ok (.aload_n 0, 1) := by decide +kernel
theorem dX7_in_69 : decode cX7_in 69 = .ok (.getfield 16, 3) := by decide +kernel
theorem dX7_in_72 : decode cX7_in 72 = .ok (.iload_n 1, 1) := by decide +kernel
theorem dX7_in_73 : decode cX7_in 73 = .ok (.iaload, 1) := by decide +kernel
theorem dX7_in_74 : decode cX7_in 74 = .ok (.ireturn, 1) := by decide +kernel
theorem dX7_in_75 : decode cX7_in 75 = .ok (.aload_n 0, 1) := by decide +kernel
theorem dX7_in_76 : decode cX7_in 76 = .ok (.iload_n 1, 1) := by decide +kernel
theorem dX7_in_77 : decode cX7_in 77 = .ok (.invokevirtual 217, 3) := by decide +kernel
theorem dX7_in_80 : decode cX7_in 80 = .ok (.ireturn, 1) := by decide +kernel
theorem dX7_in_81 : decode cX7_in 81 = .ok (.aload_n 0, 1) := by decide +kernel
theorem dX7_in_82 : decode cX7_in 82 = .ok (.iload_n 1, 1) := by decide +kernel
theorem dX7_in_83 : decode cX7_in 83 = .ok (.invokevirtual 87, 3) := by decide +kernel
theorem dX7_in_86 : decode cX7_in 86 = .ok (.ireturn, 1) := by decide +kernel
theorem dX7_in_87 : decode cX7_in 87 = .ok (.aload_n 0, 1) := by decide +kernel
theorem dX7_in_88 : decode cX7_in 88 = .ok (.iload_n 1, 1) := by decide +kernel
theorem dX7_in_89 : decode cX7_in 89 = .ok (.invokevirtual 220, 3) := by decide +kernel
theorem dX7_in_92 : decode cX7_in 92 = .ok (.ireturn, 1) := by decide +kernel
theorem dX7_in_93 : decode cX7_in 93 = .ok (.aload_n 0, 1) := by decide +kernel
theorem dX7_in_94 : decode cX7_in 94 = .ok (.iload_n 1, 1) := by decide +kernel
theorem dX7_in_95 : decode cX7_in 95 = .ok (.invokevirtual 223, 3) := by decide +kernel
theorem dX7_in_98 : decode cX7_in 98 = .ok (.ireturn, 1) := by decide +kernel
theorem dX7_needOf_0 : decode cX7_needOf 0 = .ok (.aload_n 0, 1) := by decide +kernel
theorem dX7_needOf_1 : decode cX7_needOf 1 = .ok (.invokevirtual 91, 3) := by decide +kernel
theorem dX7_needOf_4 : decode cX7_needOf 4 = .ok (.aload_n 0, 1) := by decide +kernel
theorem dX7_needOf_5 : decode cX7_needOf 5 = .ok (.getfield 38, 3) := by decide +kernel
theorem dX7_needOf_8 : decode cX7_needOf 8 = .ok (.iload_n 1, 1) := by decide +kernel
theorem dX7_needOf_9 : decode cX7_needOf 9 = .ok (.iaload, 1) := by decide +kernel
theorem dX7_needOf_10 : decode cX7_needOf 10 = .ok (.ireturn, 1) := by decide +kernel
theorem dX7_ahead_0 : decode cX7_ahead 0 = .ok (.iconst 0, 1) := by decide +kernel
theorem dX7_ahead_1 : decode cX7_ahead 1 = .ok (.istore_n 2, 1) := by decide +kernel
theorem dX7_ahead_2 : decode cX7_ahead 2 = .ok (.iconst 0, 1) := by decide +kernel
theorem dX7_ahead_3 : decode cX7_ahead 3 = .ok (.istore_n 3, 1) := by decide +kernel
theorem dX7_ahead_4 : decode cX7_ahead 4 = .ok (.iload_n 3, 1) := by decide +kernel
theorem dX7_ahead_5 : decode cX7_ahead 5 = .ok (.iload_n 1, 1) := by decide +kernel
theorem dX7_ahead_6 : decode cX7_ahead 6 = .ok (.if_icmp .ge 37, 3) := by decide +kernel
theorem dX7_ahead_9 : decode cX7_ahead 9 = .ok (.iload_n 2, 1) := by decide +kernel
theorem dX7_ahead_10 : decode cX7_ahead 10 = .ok (.aload_n 0, 1) := by decide +kernel
theorem dX7_ahead_11 : decode cX7_ahead 11 = .ok (.getfield 25, 3) := by decide +kernel
theorem dX7_ahead_14 : decode cX7_ahead 14 = .ok (.iload_n 3, 1) := by decide +kernel
theorem dX7_ahead_15 : decode cX7_ahead 15 = .ok (.iaload, 1) := by decide +kernel
theorem dX7_ahead_16 : decode cX7_ahead 16 = .ok (.aload_n 0, 1) := by decide +kernel
theorem dX7_ahead_17 : decode cX7_ahead 17 = .ok (.getfield 25, 3) := by decide +kernel
theorem dX7_ahead_20 : decode cX7_ahead 20 = .ok (.iload_n 1, 1) := by decide +kernel
theorem dX7_ahead_21 : decode cX7_ahead 21 = .ok (.iaload, 1) := by decide +kernel
theorem dX7_ahead_22 : decode cX7_ahead 22 = .ok (.if_icmp .ne 12, 3) := by decide +kernel
theorem dX7_ahead_25 : decode cX7_ahead 25 = .ok (.aload_n 0, 1) := by decide +kernel
theorem dX7_ahead_26 : decode cX7_ahead 26 = .ok (.getfield 22, 3) := by decide +kernel
theorem dX7_ahead_29 : decode cX7_ahead 29 = .ok (.iload_n 3, 1) := by decide +kernel
theorem dX7_ahead_30 : decode cX7_ahead 30 = .ok (.iaload, 1) := by decide +kernel
theorem dX7_ahead_31 : decode cX7_ahead 31 = .ok (.goto 4, 3) := by decide +kernel
theorem dX7_ahead_34 : decode cX7_ahead 34 = .ok (.iconst 0, 1) := by decide +kernel
theorem dX7_ahead_35 : decode cX7_ahead 35 = .ok (.iadd, 1) := by decide +kernel
theorem dX7_ahead_36 : decode cX7_ahead 36 = .ok (.istore_n 2, 1) := by decide +kernel
theorem dX7_ahead_37 : decode cX7_ahead 37 = .ok (.iinc 3 1, 3) := by decide +kernel
theorem dX7_ahead_40 : decode cX7_ahead 40 = .ok (.goto (-36), 3) := by decide +kernel
theorem dX7_ahead_43 : decode cX7_ahead 43 = .ok (.iload_n 2, 1) := by decide +kernel
theorem dX7_ahead_44 : decode cX7_ahead 44 = .ok (.ireturn, 1) := by decide +kernel
theorem dX7_of_0 : decode cX7_of 0 = .ok (.aload_n 0, 1) := by decide +kernel
theorem dX7_of_1 : decode cX7_of 1 = .ok (.aload_n 0, 1) := by decide +kernel
theorem dX7_of_2 : decode cX7_of 2 = .ok (.iload_n 1, 1) := by decide +kernel
theorem dX7_of_3 : decode cX7_of 3 = .ok (.invokevirtual 161, 3) := by decide +kernel
theorem dX7_of_6 : decode cX7_of 6 = .ok (.ifCond .eq 17, 3) := by decide +kernel
theorem dX7_of_9 : decode cX7_of 9 = .ok (.iload_n 2, 1) := by decide +kernel
theorem dX7_of_10 : decode cX7_of 10 = .ok (.iconst 0, 1) := by decide +kernel
theorem dX7_of_11 : decode cX7_of 11 = .ok (.bipush 6, 2) := by decide +kernel
theorem dX7_of_13 : decode cX7_of 13 = .ok (.invokestatic 74, 3) := by decide +kernel
theorem dX7_of_16 : decode cX7_of 16 = .ok (.ifCond .eq 7, 3) := by decide +kernel
theorem dX7_of_19 : decode cX7_of 19 = .ok (.iconst 0, 1) := by decide +kernel
theorem dX7_of_20 : decode cX7_of 20 = .ok (.goto 4, 3) := by decide +kernel
theorem dX7_of_23 : decode cX7_of 23 = .ok (.iconst 1, 1) := by decide +kernel
theorem dX7_of_24 : decode cX7_of 24 = .ok (.putfield 68, 3) := by decide +kernel
theorem dX7_of_27 : decode cX7_of 27 = .ok (.aload_n 0, 1) := by decide +kernel
theorem dX7_of_28 : decode cX7_of 28 = .ok (.getfield 68, 3) := by decide +kernel
theorem dX7_of_31 : decode cX7_of 31 = .ok (.ifCond .le 5, 3) := by decide +kernel
theorem dX7_of_34 : decode cX7_of 34 = .ok (.iconst 0, 1) := by decide +kernel
theorem dX7_of_35 : decode cX7_of 35 = .ok (.ireturn, 1) := by decide +kernel
theorem dX7_of_36 : decode cX7_of 36 = .ok (.iload_n 2, 1) := by decide +kernel
theorem dX7_of_37 : decode cX7_of 37 = .ok (.tableswitch 79 0 5 #[39, 46, 53, 59, 66, 72], 39) := by decide +kernel
theorem dX7_of_76 : decode cX7_of 76 = .ok (.aload_n 0, 1) := by decide +kernel
theorem dX7_of_77 : decode cX7_of 77 = .ok (.getfield 19, 3) := by decide +kernel
theorem dX7_of_80 : decode cX7_of 80 = .ok (.iload_n 1, 1) := by decide +kernel
theorem dX7_of_81 : decode cX7_of 81 = .ok (.iaload, 1) := by decide +kernel
theorem dX7_of_82 : decode cX7_of 82 = .ok (.ireturn, 1) := by decide +kernel
theorem dX7_of_83 : decode cX7_of 83 = .ok (.aload_n 0, 1) := by decide +kernel
theorem dX7_of_84 : decode cX7_of 84 = .ok (.getfield 22, 3) := by decide +kernel
theorem dX7_of_87 : decode cX7_of 87 = .ok (.iload_n 1, 1) := by decide +kernel
theorem dX7_of_88 : decode cX7_of 88 = .ok (.iaload, 1) := by decide +kernel
theorem dX7_of_89 : decode cX7_of 89 = .ok (.ireturn, 1) := by decide +kernel
theorem dX7_of_90 : decode cX7_of 90 = .ok (.aload_n 0, 1) := by decide +kernel
theorem dX7_of_91 : decode cX7_of 91 = .ok (.iload_n 1, 1) := by decide +kernel
theorem dX7_of_92 : decode cX7_of 92 = .ok (.invokevirtual 226, 3) := by decide +kernel
theorem dX7_of_95 : decode cX7_of 95 = .ok (.ireturn, 1) := by decide +kernel
theorem dX7_of_96 : decode cX7_of 96 = .ok (.aload_n 0, 1) := by decide +kernel
theorem dX7_of_97 : decode cX7_of 97 = .ok (.getfield 25, 3) := by decide +kernel
theorem dX7_of_100 : decode cX7_of 100 = .ok (.iload_n 1, 1) := by decide +kernel
theorem dX7_of_101 : decode cX7_of 101 = .ok (.iaload, 1) := by decide +kernel
theorem dX7_of_102 : decode cX7_of 102 = .ok (.ireturn, 1) := by decide +kernel
theorem dX7_of_103 : decode cX7_of 103 = .ok (.aload_n 0, 1) := by decide +kernel
theorem dX7_of_104 : decode cX7_of 104 = .ok (.iload_n 1, 1) := by decide +kernel
theorem dX7_of_105 : decode cX7_of 105 = .ok (.invokevirtual 229, 3) := by decide +kernel
theorem dX7_of_108 : decode cX7_of 108 = .ok (.ireturn, 1) := by decide +kernel
theorem dX7_of_109 : decode cX7_of 109 = .ok (.aload_n 0, 1) := by decide +kernel
theorem dX7_of_110 : decode cX7_of 110 = .ok (.getfield 28, 3) := by decide +kernel
theorem dX7_of_113 : decode cX7_of 113 = .ok (.iload_n 1, 1) := by decide +kernel
theorem dX7_of_114 : decode cX7_of 114 = .ok (.iaload, 1) := by decide +kernel
theorem dX7_of_115 : decode cX7_of 115 = .ok (.ireturn, 1) := by decide +kernel
theorem dX7_of_116 : decode cX7_of 116 = .ok (.aload_n 0, 1) := by decide +kernel
theorem dX7_of_117 : decode cX7_of 117 = .ok (.getfield 164, 3) := by decide +kernel
theorem dX7_of_120 : decode cX7_of 120 = .ok (.ifCond .eq 12, 3) := by decide +kernel
theorem dX7_of_123 : decode cX7_of 123 = .ok (.aload_n 0, 1) := by decide +kernel
theorem dX7_of_124 : decode cX7_of 124 = .ok (.getfield 65, 3) := by decide +kernel
theorem dX7_of_127 : decode cX7_of 127 = .ok (.iload_n 1, 1) := by decide +kernel
theorem dX7_of_128 : decode cX7_of 128 = .ok (.iaload, 1) := by decide +kernel
theorem dX7_of_129 : decode cX7_of 129 = .ok (.goto 4, 3) := by decide +kernel
theorem dX7_of_132 : decode cX7_of 132 = .ok (.iconst (-1), 1) := by decide +kernel
theorem dX7_of_133 : decode cX7_of 133 = .ok (.ireturn, 1) := by decide +kernel
theorem dX7_lasts_0 : decode cX7_lasts 0 = .ok (.aload_n 0, 1) := by decide +kernel
theorem dX7_lasts_1 : decode cX7_lasts 1 = .ok (.iconst 0, 1) := by decide +kernel
theorem dX7_lasts_2 : decode cX7_lasts 2 = .ok (.putfield 68, 3) := by decide +kernel
theorem dX7_lasts_5 : decode cX7_lasts 5 = .ok (.sipush 999, 3) := by decide +kernel
theorem dX7_lasts_8 : decode cX7_lasts 8 = .ok (.istore_n 1, 1) := by decide +kernel
theorem dX7_lasts_9 : decode cX7_lasts 9 = .ok (.iconst 0, 1) := by decide +kernel
theorem dX7_lasts_10 : decode cX7_lasts 10 = .ok (.istore_n 2, 1) := by decide +kernel
theorem dX7_lasts_11 : decode cX7_lasts 11 = .ok (.iload_n 2, 1) := by decide +kernel
theorem dX7_lasts_12 : decode cX7_lasts 12 = .ok (.aload_n 0, 1) := by decide +kernel
theorem dX7_lasts_13 : decode cX7_lasts 13 = .ok (.getfield 71, 3) := by decide +kernel
theorem dX7_lasts_16 : decode cX7_lasts 16 = .ok (.if_icmp .ge 33, 3) := by decide +kernel
theorem dX7_lasts_19 : decode cX7_lasts 19 = .ok (.aload_n 0, 1) := by decide +kernel
theorem dX7_lasts_20 : decode cX7_lasts 20 = .ok (.iload_n 2, 1) := by decide +kernel
theorem dX7_lasts_21 : decode cX7_lasts 21 = .ok (.invokevirtual 211, 3) := by decide +kernel
theorem dX7_lasts_24 : decode cX7_lasts 24 = .ok (.iconst (-1), 1) := by decide +kernel
theorem dX7_lasts_25 : decode cX7_lasts 25 = .ok (.if_icmp .eq 18, 3) := by decide +kernel
theorem dX7_lasts_28 : decode cX7_lasts 28 = .ok (.aload_n 0, 1) := by decide +kernel
theorem dX7_lasts_29 : decode cX7_lasts 29 = .ok (.iload_n 2, 1) := by decide +kernel
theorem dX7_lasts_30 : decode cX7_lasts 30 = .ok (.invokevirtual 208, 3) := by decide +kernel
theorem dX7_lasts_33 : decode cX7_lasts 33 = .ok (.iload_n 1, 1) := by decide +kernel
theorem dX7_lasts_34 : decode cX7_lasts 34 = .ok (.if_icmp .ge 9, 3) := by decide +kernel
theorem dX7_lasts_37 : decode cX7_lasts 37 = .ok (.aload_n 0, 1) := by decide +kernel
theorem dX7_lasts_38 : decode cX7_lasts 38 = .ok (.iload_n 2, 1) := by decide +kernel
theorem dX7_lasts_39 : decode cX7_lasts 39 = .ok (.invokevirtual 208, 3) := by decide +kernel
theorem dX7_lasts_42 : decode cX7_lasts 42 = .ok (.istore_n 1, 1) := by decide +kernel
theorem dX7_lasts_43 : decode cX7_lasts 43 = .ok (.iinc 2 1, 3) := by decide +kernel
theorem dX7_lasts_46 : decode cX7_lasts 46 = .ok (.goto (-35), 3) := by decide +kernel
theorem dX7_lasts_49 : decode cX7_lasts 49 = .ok (.iload_n 1, 1) := by decide +kernel
theorem dX7_lasts_50 : decode cX7_lasts 50 = .ok (.ireturn, 1) := by decide +kernel
end
section
/-! ===== the pure machine: numbers are Int, references are numbers of cells ===== -/
abbrev PV : Type := Int ⊕ Nat
abbrev St : Type := Nat → Int → Int
abbrev MI : Type := MethodName × ByteArray × Nat × Option FieldType
abbrev Shp : Type := List (Option Nat) ⊕ (Nat ⊕ (Nat × Nat))
abbrev InR (z : Int) : Prop := -2147483648 ≤ z ∧ z ≤ 2147483647
def rv (ad : Nat → Nat) : PV → Value
  | .inl z => .int (Int32.ofInt z)
  | .inr k => .ref (ad k)
theorem rv_cat (ad : Nat → Nat) (v : PV) : (rv ad v).category = 1 := by cases v <;> rfl
def put (σ : St) (k : Nat) (j z : Int) : St := fun a b => if a = k then (if b = j then z else σ a b) else σ a b
def putA (σ : St) (k : Nat) (f : Int → Int) : St := fun a b => if a = k then f b else σ a b
theorem put_ne {σ : St} {k a : Nat} {j z : Int} (h : a ≠ k) : put σ k j z a = σ a := by funext b; simp [put, h]
theorem putA_ne {σ : St} {k a : Nat} {f : Int → Int} (h : a ≠ k) : putA σ k f a = σ a := by funext b; simp [putA, h]
theorem put_eq (σ : St) (k : Nat) (j z : Int) (a : Nat) (b : Int) : put σ k j z a b = if a = k then (if b = j then z else σ a b) else σ a b := rfl
theorem putA_eq (σ : St) (k : Nat) (f : Int → Int) (a : Nat) (b : Int) : putA σ k f a b = if a = k then f b else σ a b := rfl
def shT : List Shp := [.inl [some 8, some 9, some 10, some 11, some 12, some 13, none, none], .inl [some 14, some 15, some 16, some 17, some 18, some 19, some 20, some 21, some 35, none, none, none], .inl [some 48, none], .inl [some 49, none, none], .inl [some 50, some 51, some 52, some 53, some 54, none, none, none], .inl [some 55, some 56, none], .inl [some 5, some 2, some 0, some 1, some 4, some 3, none], .inl [none, none, some 57, some 58, none, some 59, none, some 60, some 61, some 62, some 63, none, none, some 64, none, some 65, some 66, some 67, some 68, some 69, some 70, none, none, none, none, some 71, some 72, some 73, some 74], .inr (.inl 60), .inr (.inl 60), .inr (.inl 60), .inr (.inl 60), .inr (.inl 60), .inr (.inl 60), .inr (.inl 60), .inr (.inl 12), .inr (.inl 12), .inr (.inl 12), .inr (.inl 60), .inr (.inl 60), .inr (.inl 60), .inr (.inr (22, 13)), .inr (.inl 61), .inr (.inl 61), .inr (.inl 61), .inr (.inl 61), .inr (.inl 61), .inr (.inl 61), .inr (.inl 61), .inr (.inl 61), .inr (.inl 61), .inr (.inl 61), .inr (.inl 61), .inr (.inl 61), .inr (.inl 61), .inr (.inr (36, 12)), .inr (.inl 61), .inr (.inl 61), .inr (.inl 61), .inr (.inl 61), .inr (.inl 61), .inr (.inl 61), .inr (.inl 61), .inr (.inl 61), .inr (.inl 61), .inr (.inl 61), .inr (.inl 61), .inr (.inl 61), .inr (.inl 8), .inr (.inl 200), .inr (.inl 60), .inr (.inl 60), .inr (.inl 60), .inr (.inl 60), .inr (.inl 60), .inr (.inl 12), .inr (.inl 12), .inr (.inl 12), .inr (.inl 12), .inr (.inl 8), .inr (.inl 61), .inr (.inl 61), .inr (.inl 61), .inr (.inl 61), .inr (.inl 200), .inr (.inl 61), .inr (.inl 61), .inr (.inl 793), .inr (.inl 12), .inr (.inl 61), .inr (.inl 61), .inr (.inl 60), .inr (.inl 60), .inr (.inl 60), .inr (.inl 60)]
def fvs (ad : Nat → Nat) (σ : St) (k : Nat) : Nat → List (Option Nat) → List Value
  | _, [] => []
  | j, some i :: r => .ref (ad i) :: fvs ad σ k (j + 1) r
  | j, none :: r => .int (Int32.ofInt (σ k j)) :: fvs ad σ k (j + 1) r
def En (cI cA : ClassId) (ad : Nat → Nat) (σ : St) (k : Nat) : Shp → va_E
  | .inl fs => .inr (k, fvs ad σ k 0 fs)
  | .inr (.inl n) => .inl (cI, n, .inl (fun j => Int32.ofInt (σ k j)))
  | .inr (.inr (b, n)) => .inl (cA, n, .inr (.inr (.inr (.inr (fun i => some (ad (b + i)))))))
def Wd (cI cA : ClassId) (ad : Nat → Nat) (σ : St) : va_W := shT.mapIdx (fun k sh => (ad k, En cI cA ad σ k sh))
theorem Wd_at {cI cA : ClassId} {ad : Nat → Nat} {σ : St} {k : Nat} {sh : Shp} (h : shT[k]? = some sh) : (Wd cI cA ad σ)[k]? = some (ad k, En cI cA ad σ k sh) := by
  simp [Wd, List.getElem?_mapIdx, h]
theorem Wd_of {cI cA : ClassId} {ad : Nat → Nat} {σ : St} {k : Nat} {q : Nat × va_E} (h : (Wd cI cA ad σ)[k]? = some q) : ∃ sh, shT[k]? = some sh ∧ q = (ad k, En cI cA ad σ k sh) := by
  simp only [Wd, List.getElem?_mapIdx] at h
  cases hs : shT[k]? with
  | none => rw [hs] at h; cases h
  | some sh => rw [hs] at h; exact ⟨sh, rfl, (Option.some.inj h).symm⟩
theorem fvs_congr {ad : Nat → Nat} {σ τ : St} {k : Nat} (h : σ k = τ k) : ∀ (l : List (Option Nat)) (j : Nat), fvs ad σ k j l = fvs ad τ k j l
  | [], _ => rfl
  | some i :: r, j => by show _ :: _ = _ :: _; rw [fvs_congr h r (j + 1)]
  | none :: r, j => by show _ :: _ = _ :: _; rw [fvs_congr h r (j + 1), h]
theorem En_congr {cI cA : ClassId} {ad : Nat → Nat} {σ τ : St} {k : Nat} (h : σ k = τ k) (sh : Shp) : En cI cA ad σ k sh = En cI cA ad τ k sh := by
  rcases sh with fs | n | ⟨b, n⟩
  · show Sum.inr _ = Sum.inr _
    rw [fvs_congr h]
  · show Sum.inl _ = Sum.inl _
    rw [h]
  · rfl
theorem Wd_set {cI cA : ClassId} {ad : Nat → Nat} {σ τ : St} {k : Nat} {sh : Shp} (hk : shT[k]? = some sh) (h : ∀ a, a ≠ k → τ a = σ a) : (Wd cI cA ad σ).set k (ad k, En cI cA ad τ k sh) = Wd cI cA ad τ := by
  apply List.ext_getElem?
  intro i
  by_cases hi : i = k
  · subst hi
    have hl : i < (Wd cI cA ad σ).length := (List.getElem?_eq_some_iff.mp (Wd_at (cI := cI) (cA := cA) (ad := ad) (σ := σ) hk)).1
    rw [List.getElem?_set_self hl, Wd_at hk]
  · rw [List.getElem?_set_ne (Ne.symm hi)]
    simp only [Wd, List.getElem?_mapIdx]
    cases hs : shT[i]? with
    | none => rfl
    | some s2 => simp only [Option.map_some]; rw [En_congr (h i hi).symm]
theorem fvs_len {ad : Nat → Nat} {σ : St} {k : Nat} : ∀ (l : List (Option Nat)) (j : Nat), (fvs ad σ k j l).length = l.length
  | [], _ => rfl
  | some _ :: r, j => by show (fvs ad σ k (j + 1) r).length + 1 = r.length + 1; rw [fvs_len r]
  | none :: r, j => by show (fvs ad σ k (j + 1) r).length + 1 = r.length + 1; rw [fvs_len r]
theorem fvs_none {ad : Nat → Nat} {σ : St} {k : Nat} : ∀ (l : List (Option Nat)) (i j : Nat), l[j]? = some none → (fvs ad σ k i l)[j]? = some (.int (Int32.ofInt (σ k ((i + j : Nat) : Int))))
  | [], _, _, h => by simp at h
  | some _ :: r, i, 0, h => by simp at h
  | none :: r, i, 0, h => rfl
  | some _ :: r, i, j + 1, h => by
    have h1 : r[j]? = some none := by simpa using h
    have := fvs_none (ad := ad) (σ := σ) (k := k) r (i + 1) j h1
    show (fvs ad σ k (i + 1) r)[j]? = _
    rw [this, show i + 1 + j = i + (j + 1) by omega]
  | none :: r, i, j + 1, h => by
    have h1 : r[j]? = some none := by simpa using h
    have := fvs_none (ad := ad) (σ := σ) (k := k) r (i + 1) j h1
    show (fvs ad σ k (i + 1) r)[j]? = _
    rw [this, show i + 1 + j = i + (j + 1) by omega]
theorem fvs_some {ad : Nat → Nat} {σ : St} {k : Nat} : ∀ (l : List (Option Nat)) (i j q : Nat), l[j]? = some (some q) → (fvs ad σ k i l)[j]? = some (.ref (ad q))
  | [], _, _, _, h => by simp at h
  | some _ :: r, i, 0, q, h => by simp at h; subst h; rfl
  | none :: r, i, 0, q, h => by simp at h
  | some _ :: r, i, j + 1, q, h => by
    have h1 : r[j]? = some (some q) := by simpa using h
    exact fvs_some (ad := ad) (σ := σ) (k := k) r (i + 1) j q h1
  | none :: r, i, j + 1, q, h => by
    have h1 : r[j]? = some (some q) := by simpa using h
    exact fvs_some (ad := ad) (σ := σ) (k := k) r (i + 1) j q h1
theorem fvs_put {ad : Nat → Nat} {σ : St} {k : Nat} {z : Int} : ∀ (l : List (Option Nat)) (i j : Nat), l[j]? = some none → (fvs ad σ k i l).set j (.int (Int32.ofInt z)) = fvs ad (put σ k ((i + j : Nat) : Int) z) k i l := by
  intro l i j h
  apply List.ext_getElem?
  intro q
  have hjl : j < l.length := (List.getElem?_eq_some_iff.mp h).1
  by_cases hq : q = j
  · subst hq
    rw [List.getElem?_set_self (by rw [fvs_len]; exact hjl), fvs_none l i q h]
    simp [put]
  · rw [List.getElem?_set_ne (Ne.symm hq)]
    cases hx : l[q]? with
    | none =>
      have h1 : l.length ≤ q := by simpa using hx
      rw [List.getElem?_eq_none (by rw [fvs_len]; exact h1), List.getElem?_eq_none (by rw [fvs_len]; exact h1)]
    | some w =>
      cases w with
      | some y => rw [fvs_some l i q y hx, fvs_some l i q y hx]
      | none =>
        rw [fvs_none l i q hx, fvs_none l i q hx]
        have : ((i + q : Nat) : Int) ≠ ((i + j : Nat) : Int) := by omega
        simp only [put_eq, if_true, if_neg this]
/-- the cells are apart, and of a kind -/
def Ap (ad : Nat → Nat) (A : Nat → Prop) : Prop := (∀ i j : Nat, i < 75 → j < 75 → ad i = ad j → i = j) ∧ ∀ k : Nat, k < 75 → A (ad k)
theorem shT_len : shT.length = 75 := by decide +kernel
theorem shT_lt {k : Nat} {sh : Shp} (h : shT[k]? = some sh) : k < 75 := by
  have := (List.getElem?_eq_some_iff.mp h).1
  rwa [shT_len] at this
theorem Ap.D {ad : Nat → Nat} {A : Nat → Prop} (h : Ap ad A) (cI cA : ClassId) (σ : St) : va_D A (Wd cI cA ad σ) := by
  refine ⟨fun i j p q hi hj e => ?_, fun k q hk => ?_⟩
  · obtain ⟨s1, h1, rfl⟩ := Wd_of hi
    obtain ⟨s2, h2, rfl⟩ := Wd_of hj
    exact h.1 i j (shT_lt h1) (shT_lt h2) e
  · obtain ⟨s1, h1, rfl⟩ := Wd_of hk
    exact h.2 k (shT_lt h1)
theorem Ap.self {ad : Nat → Nat} {A : Nat → Prop} (h : Ap ad A) (cI cA : ClassId) (σ : St) (sz : Nat) : Ap ad (va_A (Wd cI cA ad σ) sz) := by
  refine ⟨h.1, fun k hk => ?_⟩
  have hl : k < shT.length := by rw [shT_len]; exact hk
  exact va_A.in (q := (ad k, En cI cA ad σ k shT[k])) (Wd_at (List.getElem?_eq_getElem hl))
def TB : List Cond := lw_tbl.filter goodWord
theorem tb_of {w : Cond} (i : Nat) (h : lw_tbl[i]? = some w) (hg : goodWord w = true) : w ∈ TB := List.mem_filter.mpr ⟨List.mem_of_getElem? h, hg⟩
theorem tb_good {w : Cond} (h : w ∈ TB) : (w.onTables && w.keeps) = true ∨ ∃ ty, w = .arrayClass ty := good_of_word (List.mem_filter.mp h).2
def tyL (cI cA : ClassId) : List (ClassId × FieldType) := [(cI, .int), (cA, .array .int)]
abbrev rmD (d : Nat) : Room := { frames := d, cells := 0, slots := 0, locals := 36 * d }
def LV (ad : Nat → Nat) (lsA : Array Slot) (nL : Nat) (ls : List (Option PV)) : Prop := lsA.size = nL ∧ lv_wf lsA ∧ ∀ (k : Nat) (v : PV), ls[k]? = some (some v) → lsA[k]? = some (.val (rv ad v))
def RgS (σ : St) : Prop := ∀ (k : Nat) (j : Int), InR (σ k j)
def Qg (cI cA : ClassId) (D : va_G) (ad : Nat → Nat) (A : Nat → Prop) (rt : Option FieldType) (Q : Int → St → Prop) : Array Value → State → Outcome → State → Prop := fun _ st oc t =>
  (∃ (z : Int) (τ : St), oc = .returned (rt.map (fun _ => Value.int (Int32.ofInt z))) ∧ RgS τ ∧ Q z τ ∧ va_P D vwCl (Wd cI cA ad τ) t.heap ∧ va_K D vwCl (tyL cI cA) t) ∧ va_F A st t
def Cx (M : MI) (p : Program) (s : State) (m : MethodId) (args : Array Value) (meth : Method) (c : Code) (cI cA : ClassId) (D : va_G) (ad : Nat → Nat) (A : Nat → Prop) : Prop :=
  p.tables.exec = Jvm.exec ∧ c.code = M.2.1 ∧ c.maxLocals = M.2.2.1 ∧ meth.sig.returnType = M.2.2.2 ∧ meth.locks = false ∧ s.vm.findClass M.1.cls = some m.cls ∧ (∀ w ∈ TB, w.before args s = true) ∧ va_K D vwCl (tyL cI cA) s ∧ (∀ q : Nat, s.heap.size ≤ q → A q) ∧ Ap ad A
def Wp (M : MI) (d : Nat) (Q : Int → St → Prop) (pc : Nat) (ls : List (Option PV)) (st : List PV) (σ : St) : Prop :=
  ∀ (p : Program) (l : Launch) (e : Env) (s : State) (m : MethodId) (args : Array Value) (below : List Frame) (meth : Method) (c : Code) (cI cA : ClassId) (D : va_G) (ad : Nat → Nat) (A : Nat → Prop), Cx M p s m args meth c cI cA D ad A →
  ∀ (H : Heap) (locs : List Loc) (lsA : Array Slot), RgS σ → va_P D vwCl (Wd cI cA ad σ) H → va_S A s.heap H locs → LV ad lsA M.2.2.1 ls →
    W p l e (rmD d) s m args below meth c H locs 0 0 (MQ below (Qg cI cA D ad A M.2.2.2 Q) args s 0 0 A) (F0 m pc lsA (st.map (rv ad)))
theorem Wp.mono {M : MI} {d pc : Nat} {Q Q' : Int → St → Prop} {ls : List (Option PV)} {st : List PV} {σ : St} (h : Wp M d Q pc ls st σ) (hq : ∀ z τ, Q z τ → Q' z τ) : Wp M d Q' pc ls st σ := by
  intro p l e s m args below meth c cI cA D ad A hc H locs lsA hr hP hS hl T hT X
  obtain ⟨t, a, o, b1, b2, ⟨⟨z, τ, e1, e2, e3, e4⟩, hF⟩, b4⟩ := h p l e s m args below meth c cI cA D ad A hc H locs lsA hr hP hS hl T hT X
  exact ⟨t, a, o, b1, b2, ⟨⟨z, τ, e1, e2, hq _ _ e3, e4⟩, hF⟩, b4⟩
/-- what the heap holds is within the ints -/
theorem Wp.rg {M : MI} {d pc : Nat} {Q : Int → St → Prop} {ls : List (Option PV)} {st : List PV} {σ : St} (h : RgS σ → Wp M d Q pc ls st σ) : Wp M d Q pc ls st σ := by
  intro p l e s m args below meth c cI cA D ad A hc H locs lsA hr
  exact h hr p l e s m args below meth c cI cA D ad A hc H locs lsA hr
def entl (n : Nat) (vs : List PV) : List (Option PV) := vs.map some ++ List.replicate (n - vs.length) none
theorem args_mem (ad : Nat → Nat) : ∀ (vs : List PV) (i k : Nat) (v : PV), vs[k]? = some v → (i + k, rv ad v) ∈ lv_args i (vs.map (rv ad))
  | [], _, _, _, h => by simp at h
  | x :: r, i, 0, v, h => by
    simp at h
    subst h
    show _ ∈ (i, rv ad x) :: _
    exact List.mem_cons_self
  | x :: r, i, k + 1, v, h => by
    have h1 : r[k]? = some v := by simpa using h
    show _ ∈ (i, rv ad x) :: lv_args (if (rv ad x).category = 2 then i + 2 else i + 1) (r.map (rv ad))
    rw [if_neg (by rw [rv_cat]; decide)]
    have := args_mem ad r (i + 1) k v h1
    rw [show i + 1 + k = i + (k + 1) by omega] at this
    exact List.mem_cons_of_mem _ this
theorem sl_len (ad : Nat → Nat) : ∀ vs : List PV, (lg_sl (vs.map (rv ad))).length = vs.length
  | [] => rfl
  | x :: r => by
    have := sl_len ad r
    simp only [lg_sl, List.map_cons, List.flatMap_cons, rv_cat] at this ⊢
    rw [List.length_append, this]
    simp
    omega
theorem LV_entry (ad : Nat → Nat) (vs : List PV) {n : Nat} (h : vs.length ≤ n) : LV ad ((lg_sl (vs.map (rv ad)) ++ List.replicate (n - (lg_sl (vs.map (rv ad))).length) Slot.unset).toArray) n (entl n vs) := by
  obtain ⟨h1, h2, h3⟩ := lv_entry (vs.map (rv ad)) (n := n) (by rw [sl_len]; exact h)
  refine ⟨h1, h2, fun k v hk => ?_⟩
  have hv : vs[k]? = some v := by
    unfold entl at hk
    by_cases hl : k < vs.length
    · rw [List.getElem?_append_left (by simpa using hl), List.getElem?_map] at hk
      cases hx : vs[k]? with
      | none => rw [hx] at hk; cases hk
      | some w => rw [hx] at hk; simp at hk; rw [hk]
    · rw [List.getElem?_append_right (by simpa using hl)] at hk
      simp only [List.getElem?_replicate] at hk
      split at hk
      · cases hk
      · cases hk
  have := h3 _ (args_mem ad vs 0 k v hv)
  simpa using this
theorem Met_of_Wp {M : MI} {d : Nat} {Q : Int → St → Prop} {σ : St} {vs : List PV} (l : Launch) (hp : plainName M.1.cls = true) (hlen : vs.length ≤ M.2.2.1) (hrg : RgS σ) (h : Wp M d Q 0 (entl M.2.2.1 vs) [] σ) (cI cA : ClassId) (D : va_G) {ad : Nat → Nat} {A : Nat → Prop} (hap : Ap ad A) (sz : Nat) :
    Met l M.1 (Cond.code M.1 M.2.1 M.2.2.1 M.2.2.2 :: TB) (rmD d) (va_Pc (vs.map (rv ad)) (fun U => U.heap.size = sz ∧ va_P D vwCl (Wd cI cA ad σ) U.heap ∧ va_K D vwCl (tyL cI cA) U)) (Qg cI cA D ad (va_A (Wd cI cA ad σ) sz) M.2.2.2 Q) 0 0 (va_A (Wd cI cA ad σ) sz) := by
  refine Met.ofW (cc := M.2.1) (maxL := M.2.2.1) (ret := M.2.2.2) hp rfl ?_
  intro p e s m args below meth c s₁ B hml hv
  obtain ⟨rfl, hsz, hP, hK⟩ := hv
  subst hsz
  have hts := atoms_spec (ws := Cond.code M.1 M.2.1 M.2.2.1 M.2.2.2 :: TB) B.pre
  rw [lg_entry_eq]
  exact h p l e s m _ below meth c cI cA D ad _ ⟨B.exec, B.bytes, hml, B.returns, B.notSynchronized, findClass_of_methodNamed B.named, fun w hw => hts w (List.mem_cons_of_mem _ hw), hK, fun q hq => Or.inr hq, hap.self cI cA σ _⟩ s.heap [] _ hrg hP va_S.rf (LV_entry ad vs hlen)
end
section
theorem oi {z : Int} (h : InR z) : (Int32.ofInt z).toInt = z := Int32.toInt_ofInt_of_le (by omega) (by omega)
theorem oi_lt {a b : Int} (ha : InR a) (hb : InR b) : Int32.ofInt a < Int32.ofInt b ↔ a < b := by rw [Int32.lt_iff_toInt_lt, oi ha, oi hb]
theorem oi_le {a b : Int} (ha : InR a) (hb : InR b) : Int32.ofInt a ≤ Int32.ofInt b ↔ a ≤ b := by rw [Int32.le_iff_toInt_le, oi ha, oi hb]
theorem oi_eq {a b : Int} (ha : InR a) (hb : InR b) : Int32.ofInt a = Int32.ofInt b ↔ a = b := by rw [← Int32.toInt_inj, oi ha, oi hb]
theorem oi_0 : (0 : Int32) = Int32.ofInt 0 := by decide
theorem oi_cl {i : Int} (h0 : 0 ≤ i) (h : InR i) : ((Int32.ofInt i).toNatClampNeg : Int) = i := by
  rw [← Int32.toNat_toInt, oi h]
  omega
theorem oi_in {i : Int} {n : Nat} (h0 : 0 ≤ i) (h1 : i < n) (h : InR i) : vp_in (Int32.ofInt i) n := by
  rw [vp_in_iff, oi h]
  exact ⟨h0, h1⟩
theorem oi_div {a b : Int} (ha : InR a) (hb : InR b) (h : 0 < b) : Int32.ofInt a / Int32.ofInt b = Int32.ofInt (a.tdiv b) := by
  apply Int32.toInt_inj.mp
  have hr : InR (a.tdiv b) := by
    rcases Int.le_total 0 a with h0 | h0
    · rw [Int.tdiv_eq_ediv_of_nonneg h0]
      have h1 := Int.ediv_nonneg h0 (Int.le_of_lt h)
      have h2 := Int.ediv_le_self b h0
      omega
    · have e : a.tdiv b = -((-a).tdiv b) := by rw [Int.neg_tdiv, Int.neg_neg]
      rw [e, Int.tdiv_eq_ediv_of_nonneg (by omega)]
      have h1 := Int.ediv_nonneg (a := -a) (by omega) (Int.le_of_lt h)
      have h2 := Int.ediv_le_self (a := -a) b (by omega)
      omega
  rw [Int32.toInt_div_of_ne_right _ _ (fun q => by
    have := congrArg Int32.toInt q
    rw [oi hb] at this
    have e : (-1 : Int32).toInt = -1 := by decide
    omega), oi ha, oi hb, oi hr]
theorem oi_rem {a b : Int} (ha : InR a) (hb : InR b) (h : 0 < b) : Int32.ofInt a - Int32.ofInt a / Int32.ofInt b * Int32.ofInt b = Int32.ofInt (a.tmod b) := by
  rw [oi_div ha hb h, ← Int32.ofInt_mul, ← Int32.ofInt_sub]
  congr 1
  have := Int.mul_tdiv_add_tmod a b
  rw [Int.mul_comm] at this
  omega
def lvl (ad : Nat → Nat) : Nat → List (Option PV) → List (Nat × Value)
  | _, [] => []
  | i, some v :: r => (i, rv ad v) :: lvl ad (i + 1) r
  | i, none :: r => lvl ad (i + 1) r
theorem lvl_mem (ad : Nat → Nat) : ∀ (ls : List (Option PV)) (i : Nat) (q : Nat × Value), q ∈ lvl ad i ls → ∃ (k : Nat) (v : PV), ls[k]? = some (some v) ∧ q = (i + k, rv ad v)
  | [], _, _, h => by cases h
  | some v :: r, i, q, h => by
    rcases List.mem_cons.mp h with h | h
    · exact ⟨0, v, rfl, by simpa using h⟩
    · obtain ⟨k, w, h1, h2⟩ := lvl_mem ad r (i + 1) q h
      exact ⟨k + 1, w, by simpa using h1, by rw [h2, show i + 1 + k = i + (k + 1) by omega]⟩
  | none :: r, i, q, h => by
    obtain ⟨k, w, h1, h2⟩ := lvl_mem ad r (i + 1) q h
    exact ⟨k + 1, w, by simpa using h1, by rw [h2, show i + 1 + k = i + (k + 1) by omega]⟩
theorem mem_lvl (ad : Nat → Nat) : ∀ (ls : List (Option PV)) (i k : Nat) (v : PV), ls[k]? = some (some v) → (i + k, rv ad v) ∈ lvl ad i ls
  | [], _, _, _, h => by simp at h
  | some w :: r, i, 0, v, h => by
    have : w = v := by simpa using h
    subst this
    exact List.mem_cons_self
  | none :: r, i, 0, v, h => by simp at h
  | some w :: r, i, k + 1, v, h => by
    have := mem_lvl ad r (i + 1) k v (by simpa using h)
    rw [show i + 1 + k = i + (k + 1) by omega] at this
    exact List.mem_cons_of_mem _ this
  | none :: r, i, k + 1, v, h => by
    have := mem_lvl ad r (i + 1) k v (by simpa using h)
    rw [show i + 1 + k = i + (k + 1) by omega] at this
    exact this
theorem LV.has {ad : Nat → Nat} {lsA : Array Slot} {nL : Nat} {ls : List (Option PV)} (h : LV ad lsA nL ls) : lv_has lsA nL (lvl ad 0 ls) := by
  refine ⟨h.1, h.2.1, fun q hq => ?_⟩
  obtain ⟨k, v, h1, h2⟩ := lvl_mem ad ls 0 q hq
  rw [h2]
  simpa using h.2.2 k v h1
theorem LV.set {ad : Nat → Nat} {lsA : Array Slot} {nL i : Nat} {ls : List (Option PV)} {v : PV} (h : lv_has lsA nL ((i, rv ad v) :: (lvl ad 0 ls).filter (fun q => !(q.1 == i) && !(q.1 + 1 == i && q.2.category == 2)))) : LV ad lsA nL (ls.set i (some v)) := by
  refine ⟨h.1, h.2.1, fun k w hk => ?_⟩
  by_cases hki : k = i
  · subst hki
    have : w = v := by
      have hl : k < ls.length := by
        have := (List.getElem?_eq_some_iff.mp hk).1
        simpa using this
      rw [List.getElem?_set_self hl] at hk
      simpa using hk.symm
    subst this
    exact h.2.2 _ List.mem_cons_self
  · rw [List.getElem?_set_ne (Ne.symm hki)] at hk
    have h1 := mem_lvl ad ls 0 k w hk
    rw [Nat.zero_add] at h1
    refine h.2.2 (k, rv ad w) (List.mem_cons_of_mem _ (List.mem_filter.mpr ⟨h1, ?_⟩))
    simp [hki, rv_cat]
theorem LV.get {ad : Nat → Nat} {lsA : Array Slot} {nL k : Nat} {ls : List (Option PV)} {v : PV} (h : LV ad lsA nL ls) (hk : ls[k]? = some (some v)) : lsA[k]? = some (.val (rv ad v)) := h.2.2 k v hk
theorem shT_n {k n : Nat} (h : shT[k]? = some (.inr (.inl n))) : n ≤ 1000 := by
  have h1 : shT.all (fun sh => match sh with | .inr (.inl n) => decide (n ≤ 1000) | _ => true) = true := by decide +kernel
  have h2 := List.all_eq_true.mp h1 _ (List.mem_of_getElem? h)
  simpa using h2
theorem shT_r {k b n : Nat} (h : shT[k]? = some (.inr (.inr (b, n)))) : n ≤ 1000 := by
  have h1 : shT.all (fun sh => match sh with | .inr (.inr (b, n)) => decide (n ≤ 1000) | _ => true) = true := by decide +kernel
  have h2 := List.all_eq_true.mp h1 _ (List.mem_of_getElem? h)
  simpa using h2
theorem catsum (ad : Nat → Nat) : ∀ st : List PV, ((st.map (rv ad)).map fun v => v.category).sum = st.length
  | [] => rfl
  | x :: r => by
    simp only [List.map_cons, List.sum_cons, rv_cat, List.length_cons]
    rw [catsum ad r]
    omega
section RULES
variable {M : MI} {d pc : Nat} {Q : Int → St → Prop} {ls : List (Option PV)} {st : List PV} {σ : St}
theorem w_iconst {n : Int} (hd : decode M.2.1 pc = .ok (.iconst n, 1)) (h : Wp M d Q (pc + 1) ls (.inl n :: st) σ) : Wp M d Q pc ls st σ := by
  intro p l e s m args below meth c cI cA D ad A hc H locs lsA hr hP hS hl
  exact lv_iconst hc.1 hc.2.1 hd rfl (h p l e s m args below meth c cI cA D ad A hc H locs lsA hr hP hS hl)
theorem w_bipush {n : Int} (hd : decode M.2.1 pc = .ok (.bipush n, 2)) (hv : (Int8.ofInt n).toInt32 = Int32.ofInt n) (h : Wp M d Q (pc + 2) ls (.inl n :: st) σ) : Wp M d Q pc ls st σ := by
  intro p l e s m args below meth c cI cA D ad A hc H locs lsA hr hP hS hl
  exact lv_bipush hc.1 hc.2.1 hd hv (h p l e s m args below meth c cI cA D ad A hc H locs lsA hr hP hS hl)
theorem w_sipush {n : Int} (hd : decode M.2.1 pc = .ok (.sipush n, 3)) (hv : (Int16.ofInt n).toInt32 = Int32.ofInt n) (h : Wp M d Q (pc + 3) ls (.inl n :: st) σ) : Wp M d Q pc ls st σ := by
  intro p l e s m args below meth c cI cA D ad A hc H locs lsA hr hP hS hl
  exact lv_sipush hc.1 hc.2.1 hd hv (h p l e s m args below meth c cI cA D ad A hc H locs lsA hr hP hS hl)
theorem w_ldc {idx : Nat} {n : Int} (hd : decode M.2.1 pc = .ok (.ldc idx, 2)) (hw : Cond.constant M.1.cls idx (Int32.ofInt n) ∈ TB) (h : Wp M d Q (pc + 2) ls (.inl n :: st) σ) : Wp M d Q pc ls st σ := by
  intro p l e s m args below meth c cI cA D ad A hc H locs lsA hr hP hS hl
  exact lv_ldc hc.1 hc.2.1 hc.2.2.2.2.2.1 (hc.2.2.2.2.2.2.1 _ hw) hd (h p l e s m args below meth c cI cA D ad A hc H locs lsA hr hP hS hl)
theorem w_iload_n {k : Fin 4} {z : Int} (hd : decode M.2.1 pc = .ok (.iload_n k, 1)) (hv : ls[(k : Nat)]? = some (some (.inl z))) (h : Wp M d Q (pc + 1) ls (.inl z :: st) σ) : Wp M d Q pc ls st σ := by
  intro p l e s m args below meth c cI cA D ad A hc H locs lsA hr hP hS hl
  exact lv_iload_n hc.1 hc.2.1 hd rfl (hl.get hv) (h p l e s m args below meth c cI cA D ad A hc H locs lsA hr hP hS hl)
theorem w_iload {k : Nat} {z : Int} (hd : decode M.2.1 pc = .ok (.iload k, 2)) (hv : ls[k]? = some (some (.inl z))) (h : Wp M d Q (pc + 2) ls (.inl z :: st) σ) : Wp M d Q pc ls st σ := by
  intro p l e s m args below meth c cI cA D ad A hc H locs lsA hr hP hS hl
  exact lv_iload hc.1 hc.2.1 hd (hl.get hv) (h p l e s m args below meth c cI cA D ad A hc H locs lsA hr hP hS hl)
theorem w_aload_n {k : Fin 4} {z : Nat} (hd : decode M.2.1 pc = .ok (.aload_n k, 1)) (hv : ls[(k : Nat)]? = some (some (.inr z))) (h : Wp M d Q (pc + 1) ls (.inr z :: st) σ) : Wp M d Q pc ls st σ := by
  intro p l e s m args below meth c cI cA D ad A hc H locs lsA hr hP hS hl
  exact lv_aload_n hc.1 hc.2.1 hd rfl (hl.get hv) (h p l e s m args below meth c cI cA D ad A hc H locs lsA hr hP hS hl)
theorem w_aload {k : Nat} {z : Nat} (hd : decode M.2.1 pc = .ok (.aload k, 2)) (hv : ls[k]? = some (some (.inr z))) (h : Wp M d Q (pc + 2) ls (.inr z :: st) σ) : Wp M d Q pc ls st σ := by
  intro p l e s m args below meth c cI cA D ad A hc H locs lsA hr hP hS hl
  exact lv_aload hc.1 hc.2.1 hd (hl.get hv) (h p l e s m args below meth c cI cA D ad A hc H locs lsA hr hP hS hl)
theorem w_istore_n {k : Fin 4} {z : Int} (hd : decode M.2.1 pc = .ok (.istore_n k, 1)) (hn : (k : Nat) < M.2.2.1) (h : Wp M d Q (pc + 1) (ls.set (k : Nat) (some (.inl z))) st σ) : Wp M d Q pc ls (.inl z :: st) σ := by
  intro p l e s m args below meth c cI cA D ad A hc H locs lsA hr hP hS hl
  exact lv_istore_n hc.1 hc.2.1 hd rfl hl.has hn rfl (fun ls2 h2 => h p l e s m args below meth c cI cA D ad A hc H locs ls2 hr hP hS (LV.set (v := .inl z) h2))
theorem w_istore {k : Nat} {z : Int} (hd : decode M.2.1 pc = .ok (.istore k, 2)) (hn : (k : Nat) < M.2.2.1) (h : Wp M d Q (pc + 2) (ls.set (k : Nat) (some (.inl z))) st σ) : Wp M d Q pc ls (.inl z :: st) σ := by
  intro p l e s m args below meth c cI cA D ad A hc H locs lsA hr hP hS hl
  exact lv_istore hc.1 hc.2.1 hd hl.has hn rfl (fun ls2 h2 => h p l e s m args below meth c cI cA D ad A hc H locs ls2 hr hP hS (LV.set (v := .inl z) h2))
theorem w_astore_n {k : Fin 4} {z : Nat} (hd : decode M.2.1 pc = .ok (.astore_n k, 1)) (hn : (k : Nat) < M.2.2.1) (h : Wp M d Q (pc + 1) (ls.set (k : Nat) (some (.inr z))) st σ) : Wp M d Q pc ls (.inr z :: st) σ := by
  intro p l e s m args below meth c cI cA D ad A hc H locs lsA hr hP hS hl
  exact lv_astore_n hc.1 hc.2.1 hd rfl hl.has hn rfl (fun ls2 h2 => h p l e s m args below meth c cI cA D ad A hc H locs ls2 hr hP hS (LV.set (v := .inr z) h2))
theorem w_astore {k : Nat} {z : Nat} (hd : decode M.2.1 pc = .ok (.astore k, 2)) (hn : (k : Nat) < M.2.2.1) (h : Wp M d Q (pc + 2) (ls.set (k : Nat) (some (.inr z))) st σ) : Wp M d Q pc ls (.inr z :: st) σ := by
  intro p l e s m args below meth c cI cA D ad A hc H locs lsA hr hP hS hl
  exact lv_astore hc.1 hc.2.1 hd hl.has hn rfl (fun ls2 h2 => h p l e s m args below meth c cI cA D ad A hc H locs ls2 hr hP hS (LV.set (v := .inr z) h2))
theorem w_iinc {k : Nat} {n z : Int} (hd : decode M.2.1 pc = .ok (.iinc k n, 3)) (hn : k < M.2.2.1) (hv : ls[k]? = some (some (.inl z))) (h : Wp M d Q (pc + 3) (ls.set k (some (.inl (z + n)))) st σ) : Wp M d Q pc ls st σ := by
  intro p l e s m args below meth c cI cA D ad A hc H locs lsA hr hP hS hl
  obtain ⟨q, hq⟩ := List.getElem?_of_mem (mem_lvl ad ls 0 k (.inl z) hv)
  rw [Nat.zero_add] at hq
  exact lv_iinc hc.1 hc.2.1 hd hl.has hq (Int32.ofInt_add z n).symm hn rfl (fun ls2 h2 => h p l e s m args below meth c cI cA D ad A hc H locs ls2 hr hP hS (LV.set (v := .inl (z + n)) h2))
theorem w_iadd {a b : Int} (hd : decode M.2.1 pc = .ok (.iadd, 1)) (h : Wp M d Q (pc + 1) ls (.inl (a + b) :: st) σ) : Wp M d Q pc ls (.inl b :: .inl a :: st) σ := by
  intro p l e s m args below meth c cI cA D ad A hc H locs lsA hr hP hS hl
  have h1 := h p l e s m args below meth c cI cA D ad A hc H locs lsA hr hP hS hl
  simp only [List.map_cons, rv, Int32.ofInt_add] at h1
  exact lv_iadd hc.1 hc.2.1 hd h1
theorem w_isub {a b : Int} (hd : decode M.2.1 pc = .ok (.isub, 1)) (h : Wp M d Q (pc + 1) ls (.inl (a - b) :: st) σ) : Wp M d Q pc ls (.inl b :: .inl a :: st) σ := by
  intro p l e s m args below meth c cI cA D ad A hc H locs lsA hr hP hS hl
  have h1 := h p l e s m args below meth c cI cA D ad A hc H locs lsA hr hP hS hl
  simp only [List.map_cons, rv, Int32.ofInt_sub] at h1
  exact lv_isub hc.1 hc.2.1 hd h1
theorem w_imul {a b : Int} (hd : decode M.2.1 pc = .ok (.imul, 1)) (h : Wp M d Q (pc + 1) ls (.inl (a * b) :: st) σ) : Wp M d Q pc ls (.inl b :: .inl a :: st) σ := by
  intro p l e s m args below meth c cI cA D ad A hc H locs lsA hr hP hS hl
  have h1 := h p l e s m args below meth c cI cA D ad A hc H locs lsA hr hP hS hl
  simp only [List.map_cons, rv, Int32.ofInt_mul] at h1
  exact lv_imul hc.1 hc.2.1 hd h1
theorem w_idiv {a b : Int} (hd : decode M.2.1 pc = .ok (.idiv, 1)) (ha : InR a) (hb : InR b) (hp : 0 < b) (h : Wp M d Q (pc + 1) ls (.inl (a.tdiv b) :: st) σ) : Wp M d Q pc ls (.inl b :: .inl a :: st) σ := by
  intro p l e s m args below meth c cI cA D ad A hc H locs lsA hr hP hS hl
  have h1 := h p l e s m args below meth c cI cA D ad A hc H locs lsA hr hP hS hl
  simp only [List.map_cons, rv] at h1
  rw [← oi_div ha hb hp] at h1
  refine lv_idiv hc.1 hc.2.1 hd ?_ h1
  rw [oi_0, oi_eq hb (by omega)]
  omega
theorem w_idivN {a b : Int} (hd : decode M.2.1 pc = .ok (.idiv, 1)) (h0 : 0 ≤ a) (ha : InR a) (hb : InR b) (hp : 0 < b) (h : Wp M d Q (pc + 1) ls (.inl (a / b) :: st) σ) : Wp M d Q pc ls (.inl b :: .inl a :: st) σ := by
  intro p l e s m args below meth c cI cA D ad A hc H locs lsA hr hP hS hl
  have h1 := h p l e s m args below meth c cI cA D ad A hc H locs lsA hr hP hS hl
  rw [← Int.tdiv_eq_ediv_of_nonneg h0] at h1
  simp only [List.map_cons, rv] at h1
  rw [← oi_div ha hb hp] at h1
  refine lv_idiv hc.1 hc.2.1 hd ?_ h1
  rw [oi_0, oi_eq hb (by omega)]
  omega
theorem w_irem {a b : Int} (hd : decode M.2.1 pc = .ok (.irem, 1)) (ha : InR a) (hb : InR b) (hp : 0 < b) (h : Wp M d Q (pc + 1) ls (.inl (a.tmod b) :: st) σ) : Wp M d Q pc ls (.inl b :: .inl a :: st) σ := by
  intro p l e s m args below meth c cI cA D ad A hc H locs lsA hr hP hS hl
  have h1 := h p l e s m args below meth c cI cA D ad A hc H locs lsA hr hP hS hl
  simp only [List.map_cons, rv] at h1
  rw [← oi_rem ha hb hp] at h1
  refine lv_irem hc.1 hc.2.1 hd ?_ h1
  rw [oi_0, oi_eq hb (by omega)]
  omega
theorem w_iremN {a b : Int} (hd : decode M.2.1 pc = .ok (.irem, 1)) (h0 : 0 ≤ a) (ha : InR a) (hb : InR b) (hp : 0 < b) (h : Wp M d Q (pc + 1) ls (.inl (a % b) :: st) σ) : Wp M d Q pc ls (.inl b :: .inl a :: st) σ := by
  intro p l e s m args below meth c cI cA D ad A hc H locs lsA hr hP hS hl
  have h1 := h p l e s m args below meth c cI cA D ad A hc H locs lsA hr hP hS hl
  rw [← Int.tmod_eq_emod_of_nonneg h0] at h1
  simp only [List.map_cons, rv] at h1
  rw [← oi_rem ha hb hp] at h1
  refine lv_irem hc.1 hc.2.1 hd ?_ h1
  rw [oi_0, oi_eq hb (by omega)]
  omega
theorem w_dup {v : PV} (hd : decode M.2.1 pc = .ok (.dup, 1)) (h : Wp M d Q (pc + 1) ls (v :: v :: st) σ) : Wp M d Q pc ls (v :: st) σ := by
  intro p l e s m args below meth c cI cA D ad A hc H locs lsA hr hP hS hl
  exact lv_dup hc.1 hc.2.1 hd (rv_cat ad v) (h p l e s m args below meth c cI cA D ad A hc H locs lsA hr hP hS hl)
theorem w_pop {v : PV} (hd : decode M.2.1 pc = .ok (.pop, 1)) (h : Wp M d Q (pc + 1) ls st σ) : Wp M d Q pc ls (v :: st) σ := by
  intro p l e s m args below meth c cI cA D ad A hc H locs lsA hr hP hS hl
  exact lv_pop hc.1 hc.2.1 hd (rv_cat ad v) (h p l e s m args below meth c cI cA D ad A hc H locs lsA hr hP hS hl)
theorem w_dup2 {v w : PV} (hd : decode M.2.1 pc = .ok (.dup2, 1)) (h : Wp M d Q (pc + 1) ls (v :: w :: v :: w :: st) σ) : Wp M d Q pc ls (v :: w :: st) σ := by
  intro p l e s m args below meth c cI cA D ad A hc H locs lsA hr hP hS hl
  exact lv_dup2_11 hc.1 hc.2.1 hd (rv_cat ad v) (rv_cat ad w) (h p l e s m args below meth c cI cA D ad A hc H locs lsA hr hP hS hl)
theorem w_icmp_eq {a b off : Int} {tgt : Nat} (hd : decode M.2.1 pc = .ok (.if_icmp .eq off, 3)) (ht : (pc : Int) + off = (tgt : Int)) (ha : InR a) (hb : InR b) (kt : a = b → Wp M d Q tgt ls st σ) (kf : a ≠ b → Wp M d Q (pc + 3) ls st σ) : Wp M d Q pc ls (.inl b :: .inl a :: st) σ := by
  intro p l e s m args below meth c cI cA D ad A hc H locs lsA hr hP hS hl
  exact lv_icmp_eq hc.1 hc.2.1 hd ht (fun q => kt ((oi_eq ha hb).mp q) p l e s m args below meth c cI cA D ad A hc H locs lsA hr hP hS hl) (fun q => kf (id (fun z => q ((oi_eq ha hb).mpr z))) p l e s m args below meth c cI cA D ad A hc H locs lsA hr hP hS hl)
theorem w_if_eq {a off : Int} {tgt : Nat} (hd : decode M.2.1 pc = .ok (.ifCond .eq off, 3)) (ht : (pc : Int) + off = (tgt : Int)) (ha : InR a) (kt : a = 0 → Wp M d Q tgt ls st σ) (kf : a ≠ 0 → Wp M d Q (pc + 3) ls st σ) : Wp M d Q pc ls (.inl a :: st) σ := by
  intro p l e s m args below meth c cI cA D ad A hc H locs lsA hr hP hS hl
  have h0 : InR 0 := by omega
  exact lv_if_eq hc.1 hc.2.1 hd ht (fun q => kt ((oi_eq ha h0).mp q) p l e s m args below meth c cI cA D ad A hc H locs lsA hr hP hS hl) (fun q => kf (id (fun z => q ((oi_eq ha h0).mpr z))) p l e s m args below meth c cI cA D ad A hc H locs lsA hr hP hS hl)
theorem w_icmp_ne {a b off : Int} {tgt : Nat} (hd : decode M.2.1 pc = .ok (.if_icmp .ne off, 3)) (ht : (pc : Int) + off = (tgt : Int)) (ha : InR a) (hb : InR b) (kt : a ≠ b → Wp M d Q tgt ls st σ) (kf : a = b → Wp M d Q (pc + 3) ls st σ) : Wp M d Q pc ls (.inl b :: .inl a :: st) σ := by
  intro p l e s m args below meth c cI cA D ad A hc H locs lsA hr hP hS hl
  exact lv_icmp_ne hc.1 hc.2.1 hd ht (fun q => kt (fun z => q ((oi_eq ha hb).mpr z)) p l e s m args below meth c cI cA D ad A hc H locs lsA hr hP hS hl) (fun q => kf ((oi_eq ha hb).mp q) p l e s m args below meth c cI cA D ad A hc H locs lsA hr hP hS hl)
theorem w_if_ne {a off : Int} {tgt : Nat} (hd : decode M.2.1 pc = .ok (.ifCond .ne off, 3)) (ht : (pc : Int) + off = (tgt : Int)) (ha : InR a) (kt : a ≠ 0 → Wp M d Q tgt ls st σ) (kf : a = 0 → Wp M d Q (pc + 3) ls st σ) : Wp M d Q pc ls (.inl a :: st) σ := by
  intro p l e s m args below meth c cI cA D ad A hc H locs lsA hr hP hS hl
  have h0 : InR 0 := by omega
  exact lv_if_ne hc.1 hc.2.1 hd ht (fun q => kt (fun z => q ((oi_eq ha h0).mpr z)) p l e s m args below meth c cI cA D ad A hc H locs lsA hr hP hS hl) (fun q => kf ((oi_eq ha h0).mp q) p l e s m args below meth c cI cA D ad A hc H locs lsA hr hP hS hl)
theorem w_icmp_lt {a b off : Int} {tgt : Nat} (hd : decode M.2.1 pc = .ok (.if_icmp .lt off, 3)) (ht : (pc : Int) + off = (tgt : Int)) (ha : InR a) (hb : InR b) (kt : a < b → Wp M d Q tgt ls st σ) (kf : b ≤ a → Wp M d Q (pc + 3) ls st σ) : Wp M d Q pc ls (.inl b :: .inl a :: st) σ := by
  intro p l e s m args below meth c cI cA D ad A hc H locs lsA hr hP hS hl
  exact lv_icmp_lt hc.1 hc.2.1 hd ht (fun q => kt ((oi_lt ha hb).mp q) p l e s m args below meth c cI cA D ad A hc H locs lsA hr hP hS hl) (fun q => kf (Int.not_lt.mp (fun z => q ((oi_lt ha hb).mpr z))) p l e s m args below meth c cI cA D ad A hc H locs lsA hr hP hS hl)
theorem w_if_lt {a off : Int} {tgt : Nat} (hd : decode M.2.1 pc = .ok (.ifCond .lt off, 3)) (ht : (pc : Int) + off = (tgt : Int)) (ha : InR a) (kt : a < 0 → Wp M d Q tgt ls st σ) (kf : 0 ≤ a → Wp M d Q (pc + 3) ls st σ) : Wp M d Q pc ls (.inl a :: st) σ := by
  intro p l e s m args below meth c cI cA D ad A hc H locs lsA hr hP hS hl
  have h0 : InR 0 := by omega
  exact lv_if_lt hc.1 hc.2.1 hd ht (fun q => kt ((oi_lt ha h0).mp q) p l e s m args below meth c cI cA D ad A hc H locs lsA hr hP hS hl) (fun q => kf (Int.not_lt.mp (fun z => q ((oi_lt ha h0).mpr z))) p l e s m args below meth c cI cA D ad A hc H locs lsA hr hP hS hl)
theorem w_icmp_ge {a b off : Int} {tgt : Nat} (hd : decode M.2.1 pc = .ok (.if_icmp .ge off, 3)) (ht : (pc : Int) + off = (tgt : Int)) (ha : InR a) (hb : InR b) (kt : b ≤ a → Wp M d Q tgt ls st σ) (kf : a < b → Wp M d Q (pc + 3) ls st σ) : Wp M d Q pc ls (.inl b :: .inl a :: st) σ := by
  intro p l e s m args below meth c cI cA D ad A hc H locs lsA hr hP hS hl
  exact lv_icmp_ge hc.1 hc.2.1 hd ht (fun q => kt ((oi_le hb ha).mp q) p l e s m args below meth c cI cA D ad A hc H locs lsA hr hP hS hl) (fun q => kf (Int.not_le.mp (fun z => q ((oi_le hb ha).mpr z))) p l e s m args below meth c cI cA D ad A hc H locs lsA hr hP hS hl)
theorem w_if_ge {a off : Int} {tgt : Nat} (hd : decode M.2.1 pc = .ok (.ifCond .ge off, 3)) (ht : (pc : Int) + off = (tgt : Int)) (ha : InR a) (kt : 0 ≤ a → Wp M d Q tgt ls st σ) (kf : a < 0 → Wp M d Q (pc + 3) ls st σ) : Wp M d Q pc ls (.inl a :: st) σ := by
  intro p l e s m args below meth c cI cA D ad A hc H locs lsA hr hP hS hl
  have h0 : InR 0 := by omega
  exact lv_if_ge hc.1 hc.2.1 hd ht (fun q => kt ((oi_le h0 ha).mp q) p l e s m args below meth c cI cA D ad A hc H locs lsA hr hP hS hl) (fun q => kf (Int.not_le.mp (fun z => q ((oi_le h0 ha).mpr z))) p l e s m args below meth c cI cA D ad A hc H locs lsA hr hP hS hl)
theorem w_icmp_gt {a b off : Int} {tgt : Nat} (hd : decode M.2.1 pc = .ok (.if_icmp .gt off, 3)) (ht : (pc : Int) + off = (tgt : Int)) (ha : InR a) (hb : InR b) (kt : b < a → Wp M d Q tgt ls st σ) (kf : a ≤ b → Wp M d Q (pc + 3) ls st σ) : Wp M d Q pc ls (.inl b :: .inl a :: st) σ := by
  intro p l e s m args below meth c cI cA D ad A hc H locs lsA hr hP hS hl
  exact lv_icmp_gt hc.1 hc.2.1 hd ht (fun q => kt ((oi_lt hb ha).mp q) p l e s m args below meth c cI cA D ad A hc H locs lsA hr hP hS hl) (fun q => kf (Int.not_lt.mp (fun z => q ((oi_lt hb ha).mpr z))) p l e s m args below meth c cI cA D ad A hc H locs lsA hr hP hS hl)
theorem w_if_gt {a off : Int} {tgt : Nat} (hd : decode M.2.1 pc = .ok (.ifCond .gt off, 3)) (ht : (pc : Int) + off = (tgt : Int)) (ha : InR a) (kt : 0 < a → Wp M d Q tgt ls st σ) (kf : a ≤ 0 → Wp M d Q (pc + 3) ls st σ) : Wp M d Q pc ls (.inl a :: st) σ := by
  intro p l e s m args below meth c cI cA D ad A hc H locs lsA hr hP hS hl
  have h0 : InR 0 := by omega
  exact lv_if_gt hc.1 hc.2.1 hd ht (fun q => kt ((oi_lt h0 ha).mp q) p l e s m args below meth c cI cA D ad A hc H locs lsA hr hP hS hl) (fun q => kf (Int.not_lt.mp (fun z => q ((oi_lt h0 ha).mpr z))) p l e s m args below meth c cI cA D ad A hc H locs lsA hr hP hS hl)
theorem w_icmp_le {a b off : Int} {tgt : Nat} (hd : decode M.2.1 pc = .ok (.if_icmp .le off, 3)) (ht : (pc : Int) + off = (tgt : Int)) (ha : InR a) (hb : InR b) (kt : a ≤ b → Wp M d Q tgt ls st σ) (kf : b < a → Wp M d Q (pc + 3) ls st σ) : Wp M d Q pc ls (.inl b :: .inl a :: st) σ := by
  intro p l e s m args below meth c cI cA D ad A hc H locs lsA hr hP hS hl
  exact lv_icmp_le hc.1 hc.2.1 hd ht (fun q => kt ((oi_le ha hb).mp q) p l e s m args below meth c cI cA D ad A hc H locs lsA hr hP hS hl) (fun q => kf (Int.not_le.mp (fun z => q ((oi_le ha hb).mpr z))) p l e s m args below meth c cI cA D ad A hc H locs lsA hr hP hS hl)
theorem w_if_le {a off : Int} {tgt : Nat} (hd : decode M.2.1 pc = .ok (.ifCond .le off, 3)) (ht : (pc : Int) + off = (tgt : Int)) (ha : InR a) (kt : a ≤ 0 → Wp M d Q tgt ls st σ) (kf : 0 < a → Wp M d Q (pc + 3) ls st σ) : Wp M d Q pc ls (.inl a :: st) σ := by
  intro p l e s m args below meth c cI cA D ad A hc H locs lsA hr hP hS hl
  have h0 : InR 0 := by omega
  exact lv_if_le hc.1 hc.2.1 hd ht (fun q => kt ((oi_le ha h0).mp q) p l e s m args below meth c cI cA D ad A hc H locs lsA hr hP hS hl) (fun q => kf (Int.not_le.mp (fun z => q ((oi_le ha h0).mpr z))) p l e s m args below meth c cI cA D ad A hc H locs lsA hr hP hS hl)
theorem w_goto {off : Int} {tgt : Nat} (hd : decode M.2.1 pc = .ok (.goto off, 3)) (ht : (pc : Int) + off = (tgt : Int)) (h : Wp M d Q tgt ls st σ) : Wp M d Q pc ls st σ := by
  intro p l e s m args below meth c cI cA D ad A hc H locs lsA hr hP hS hl
  exact lv_goto hc.1 hc.2.1 hd ht (h p l e s m args below meth c cI cA D ad A hc H locs lsA hr hP hS hl)
theorem w_tswO {dflt lo hi : Int} {offs : Array Int} {len : Nat} {z : Int} {tgt : Nat} (hd : decode M.2.1 pc = .ok (.tableswitch dflt lo hi offs, len)) (hz : InR z) (ho : z < lo ∨ hi < z) (ht : (pc : Int) + dflt = (tgt : Int)) (h : Wp M d Q tgt ls st σ) : Wp M d Q pc ls (.inl z :: st) σ := by
  intro p l e s m args below meth c cI cA D ad A hc H locs lsA hr hP hS hl
  exact lv_tableOut hc.1 hc.2.1 hd (by rw [oi hz]; exact ho) ht (h p l e s m args below meth c cI cA D ad A hc H locs lsA hr hP hS hl)
theorem w_tswI {dflt lo hi : Int} {offs : Array Int} {len : Nat} {z off : Int} {tgt : Nat} (hd : decode M.2.1 pc = .ok (.tableswitch dflt lo hi offs, len)) (hz : InR z) (h1 : lo ≤ z) (h2 : z ≤ hi) (ho : offs[(z - lo).toNat]? = some off) (ht : (pc : Int) + off = (tgt : Int)) (h : Wp M d Q tgt ls st σ) : Wp M d Q pc ls (.inl z :: st) σ := by
  intro p l e s m args below meth c cI cA D ad A hc H locs lsA hr hP hS hl
  exact lv_tableIn hc.1 hc.2.1 hd (by rw [oi hz]; omega) (by rw [oi hz]; omega) (by rw [oi hz]; exact ho) ht (h p l e s m args below meth c cI cA D ad A hc H locs lsA hr hP hS hl)
theorem w_lsw {dflt : Int} {ps : Array (Int × Int)} {len : Nat} {z off : Int} {tgt : Nat} (hd : decode M.2.1 pc = .ok (.lookupswitch dflt ps, len)) (hp : (ps.toList.zip (ps.toList.drop 1)).all (fun (a, next) => a.1 < next.1) = true) (hz : InR z) (ho : Op.lookupswitch.offset ps.toList dflt z = off) (ht : (pc : Int) + off = (tgt : Int)) (h : Wp M d Q tgt ls st σ) : Wp M d Q pc ls (.inl z :: st) σ := by
  intro p l e s m args below meth c cI cA D ad A hc H locs lsA hr hP hS hl
  exact lv_lookup hc.1 hc.2.1 hd hp (by rw [oi hz]; exact ho) ht (h p l e s m args below meth c cI cA D ad A hc H locs lsA hr hP hS hl)
theorem w_iret {z : Int} (hd : decode M.2.1 pc = .ok (.ireturn, 1)) (hrt : M.2.2.2 = some .int) (hq : Q z σ) : Wp M d Q pc ls [.inl z] σ := by
  intro p l e s m args below meth c cI cA D ad A hc H locs lsA hr hP hS hl
  exact W.iret (v := Int32.ofInt z) hc.1 hc.2.1 (hc.2.2.2.1.trans hrt) (fun t ht hW => ⟨⟨z, σ, by rw [hrt]; rfl, hr, hq, by rw [ht]; exact hP, va_K.moved hW.alike hc.2.2.2.2.2.2.2.1⟩, hS.F ht⟩) hS.2.2 hd hc.2.2.2.2.1
theorem w_zret {z : Int} (hd : decode M.2.1 pc = .ok (.ireturn, 1)) (hrt : M.2.2.2 = some .boolean) (hz : z = 0 ∨ z = 1) (hq : Q z σ) : Wp M d Q pc ls [.inl z] σ := by
  intro p l e s m args below meth c cI cA D ad A hc H locs lsA hr hP hS hl
  exact W.zret (v := Int32.ofInt z) (ty := .boolean) hc.1 hc.2.1 (hc.2.2.2.1.trans hrt) (by rcases hz with rfl | rfl <;> decide) (fun t ht hW => ⟨⟨z, σ, by rw [hrt]; rfl, hr, hq, by rw [ht]; exact hP, va_K.moved hW.alike hc.2.2.2.2.2.2.2.1⟩, hS.F ht⟩) hS.2.2 hd hc.2.2.2.2.1
theorem w_ret (hd : decode M.2.1 pc = .ok (.return_, 1)) (hrt : M.2.2.2 = none) (hq : Q 0 σ) : Wp M d Q pc ls [] σ := by
  intro p l e s m args below meth c cI cA D ad A hc H locs lsA hr hP hS hl
  exact W.vret hc.1 hc.2.1 (hc.2.2.2.1.trans hrt) (fun t ht hW => ⟨⟨0, σ, by rw [hrt]; rfl, hr, hq, by rw [ht]; exact hP, va_K.moved hW.alike hc.2.2.2.2.2.2.2.1⟩, hS.F ht⟩) hS.2.2 hd hc.2.2.2.2.1
theorem w_get {k j idx N : Nat} {C : String} {T : u_T} {fs : List (Option Nat)} {v : PV} (hcl : vwCl[k]? = some (C, T, N)) (hin : ∀ w ∈ u_ws C T N, w ∈ TB) (hsh : shT[k]? = some (.inl fs)) (hj : j < N) (hlk : Cond.fieldLink M.1.cls idx (T j).1 (T j).2.1 (T j).2.2.1 ∈ TB) (hv : ∀ ad, (fvs ad σ k 0 fs)[j]? = some (rv ad v)) (hd : decode M.2.1 pc = .ok (.getfield idx, 3)) (h : Wp M d Q (pc + 3) ls (v :: st) σ) : Wp M d Q pc ls (.inr k :: st) σ := by
  intro p l e s m args below meth c cI cA D ad A hc H locs lsA hr hP hS hl
  exact va_get (D := D) hc.1 hc.2.1 hc.2.2.2.2.2.2.1 hin hc.2.2.2.2.2.1 hc.2.2.2.2.2.2.2.1 hP k (Wd_at hsh) hcl j hj (hc.2.2.2.2.2.2.1 _ hlk) (fun _ q => q) (hv ad) hd (h p l e s m args below meth c cI cA D ad A hc H locs lsA hr hP hS hl)
theorem w_put {k j idx N : Nat} {C : String} {T : u_T} {fs : List (Option Nat)} {z : Int} {ty : FieldType} (hcl : vwCl[k]? = some (C, T, N)) (hin : ∀ w ∈ u_ws C T N, w ∈ TB) (ty0 : Nat → FieldType) (hty : ∀ k, k < N → parseFieldDescriptor (T k).2.2.1 = some (ty0 k)) (hnm : ∀ a, a < N → ∀ b, b < N → a ≠ b → (T a).2.1 ≠ (T b).2.1) (hsh : shT[k]? = some (.inl fs)) (hj : j < N) (hnf : fs[j]? = some none) (hfin : (T j).2.2.2 = false) (hlk : Cond.fieldLink M.1.cls idx (T j).1 (T j).2.1 (T j).2.2.1 ∈ TB) (hds : parseFieldDescriptor (T j).2.2.1 = some ty) (hna : narrow ty (.int (Int32.ofInt z)) = .int (Int32.ofInt z)) (hft : fits ty (.int (Int32.ofInt z)) = true) (hz : InR z) (hd : decode M.2.1 pc = .ok (.putfield idx, 3)) (h : Wp M d Q (pc + 3) ls st (put σ k (j : Int) z)) : Wp M d Q pc ls (.inl z :: .inr k :: st) σ := by
  intro p l e s m args below meth c cI cA D ad A hc H locs lsA hr hP hS hl
  refine va_put (D := D) hc.1 hc.2.1 hc.2.2.2.2.2.2.1 hin ty0 hty hnm hc.2.2.2.2.2.1 hc.2.2.2.2.2.2.2.1 hP (hc.2.2.2.2.2.2.2.2.2.D cI cA σ) hS k (Wd_at hsh) hcl j hj (hc.2.2.2.2.2.2.1 _ hlk) (fun _ q => q) hfin hds hna hft (by rw [fvs_len]; exact (List.getElem?_eq_some_iff.mp hnf).1) hd (fun H1 locs1 hP1 _ hS1 => ?_)
  have hP1 : va_P D vwCl ((Wd cI cA ad σ).set k (ad k, .inr (k, (fvs ad σ k 0 fs).set j (.int (Int32.ofInt z))))) H1 := hP1
  rw [fvs_put fs 0 j hnf, Nat.zero_add] at hP1
  have ee := Wd_set (cI := cI) (cA := cA) (ad := ad) (σ := σ) (τ := put σ k (j : Int) z) hsh (fun a ha => put_ne ha)
  have hP2 : va_P D vwCl (Wd cI cA ad (put σ k (j : Int) z)) H1 := by rw [← ee]; exact hP1
  exact h p l e s m args below meth c cI cA D ad A hc H1 locs1 lsA (fun a b => by rw [put_eq]; split; split; exact hz; exact hr a b; exact hr a b) hP2 hS1 hl
theorem w_iald {k n : Nat} {i : Int} (hsh : shT[k]? = some (.inr (.inl n))) (hi : 0 ≤ i ∧ i < n) (hd : decode M.2.1 pc = .ok (.iaload, 1)) (h : Wp M d Q (pc + 1) ls (.inl (σ k i) :: st) σ) : Wp M d Q pc ls (.inl i :: .inr k :: st) σ := by
  intro p l e s m args below meth c cI cA D ad A hc H locs lsA hr hP hS hl
  have hn := shT_n hsh
  have hir : InR i := by omega
  have h1 := h p l e s m args below meth c cI cA D ad A hc H locs lsA hr hP hS hl
  refine va_iald hc.1 hc.2.1 hc.2.2.2.2.2.2.2.1 hP k 0 (Wd_at hsh) rfl (oi_in hi.1 hi.2 hir) hd ?_
  rw [oi_cl hi.1 hir]
  exact h1
theorem w_iast {k n : Nat} {i z : Int} (hsh : shT[k]? = some (.inr (.inl n))) (hi : 0 ≤ i ∧ i < n) (hz : InR z) (hd : decode M.2.1 pc = .ok (.iastore, 1)) (h : Wp M d Q (pc + 1) ls st (put σ k i z)) : Wp M d Q pc ls (.inl z :: .inl i :: .inr k :: st) σ := by
  intro p l e s m args below meth c cI cA D ad A hc H locs lsA hr hP hS hl
  have hn := shT_n hsh
  have hir : InR i := by omega
  refine va_iast (D := D) hc.1 hc.2.1 hc.2.2.2.2.2.2.2.1 hP (hc.2.2.2.2.2.2.2.2.2.D cI cA σ) hS k 0 (Wd_at hsh) rfl (oi_in hi.1 hi.2 hir) hd (fun H1 locs1 hP1 _ hS1 => ?_)
  have ee := Wd_set (cI := cI) (cA := cA) (ad := ad) (σ := σ) (τ := put σ k i z) hsh (fun a ha => put_ne ha)
  have ef : upd (fun j : Nat => Int32.ofInt (σ k j)) (Int32.ofInt i).toNatClampNeg (Int32.ofInt z) = (fun j : Nat => Int32.ofInt (put σ k i z k j)) := by
    funext j
    have hcl := oi_cl hi.1 hir
    by_cases hj : j = (Int32.ofInt i).toNatClampNeg
    · subst hj
      rw [hcl]
      simp [upd, put]
    · have : (j : Int) ≠ i := by omega
      simp [upd, put, hj, this]
  rw [ef] at hP1
  have hP2 : va_P D vwCl (Wd cI cA ad (put σ k i z)) H1 := by rw [← ee]; exact hP1
  exact h p l e s m args below meth c cI cA D ad A hc H1 locs1 lsA (fun a b => by rw [put_eq]; split; split; exact hz; exact hr a b; exact hr a b) hP2 hS1 hl
theorem w_aald {k b n : Nat} {i : Int} (hsh : shT[k]? = some (.inr (.inr (b, n)))) (hi : 0 ≤ i ∧ i < n) (hd : decode M.2.1 pc = .ok (.aaload, 1)) (h : Wp M d Q (pc + 1) ls (.inr (b + i.toNat) :: st) σ) : Wp M d Q pc ls (.inl i :: .inr k :: st) σ := by
  intro p l e s m args below meth c cI cA D ad A hc H locs lsA hr hP hS hl
  have hn := shT_r hsh
  have hir : InR i := by omega
  have h1 := h p l e s m args below meth c cI cA D ad A hc H locs lsA hr hP hS hl
  have hin := oi_in hi.1 hi.2 hir
  have hcl : (Int32.ofInt i).toNatClampNeg = i.toNat := by have := oi_cl hi.1 hir; omega
  have hlt : (Int32.ofInt i).toNatClampNeg < n := by omega
  refine W.aald (v := .ref (ad (b + i.toNat))) (ty := .array .int) hc.1 hc.2.1 (hP k _ (Wd_at hsh)) ((hc.2.2.2.2.2.2.2.1.2 1 _ rfl).1 n (fun j => va_rf (some (ad (b + j))))) rfl (fun q => by cases q) (by show ¬ (_ ∨ (arrV _ _ _).slots.size ≤ _); rw [arrV_size]; exact hin) (by show (arrV _ _ _).slots[_]? = _; rw [arrV_read _ _ hlt, hcl]; rfl) rfl rfl hd h1
def cpI (f g : Int → Int) (sp dp n : Int) : Int → Int := fun b => if dp ≤ b ∧ b < dp + n then f (sp + (b - dp)) else g b
theorem cpy_eq (f g : Int → Int) {sp dp n : Int} {a b c : Nat} (ha : (a : Int) = sp) (hb : (b : Int) = dp) (hc : (c : Int) = n) : va_cpy (fun j : Nat => Int32.ofInt (f j)) (fun j : Nat => Int32.ofInt (g j)) a b c = fun j : Nat => Int32.ofInt (cpI f g sp dp n j) := by
  subst ha hb hc
  funext j
  simp only [va_cpy, cpI]
  by_cases hj : (b : Int) ≤ (j : Int) ∧ (j : Int) < b + c
  · rw [if_pos hj, if_pos (by omega)]
    have e3 : ((a + (j - b) : Nat) : Int) = (a : Int) + ((j : Int) - b) := by omega
    rw [e3]
  · rw [if_neg hj, if_neg (by omega)]
theorem cpy_le {a b : Nat} {x y : Int} {N : Nat} (ha : (a : Int) = x) (hb : (b : Int) = y) (h : x + y ≤ N) : a + b ≤ N := by omega
theorem w_copy {k0 k1 n0 n1 idx : Nat} {sp dp n : Int} (hd : decode M.2.1 pc = .ok (.invokestatic idx, 3)) (hlk : Cond.methodLink M.1.cls idx arraycopyName ∈ TB) (hw1 : Cond.native arraycopyName ∈ TB) (hw2 : Cond.static arraycopyName ∈ TB) (hw3 : Cond.initialized "java/lang/System" ∈ TB) (hd1 : 0 < d) (hs0 : shT[k0]? = some (.inr (.inl n0))) (hs1 : shT[k1]? = some (.inr (.inl n1))) (h1 : 0 ≤ sp) (h2 : 0 ≤ dp) (h3 : 0 ≤ n) (h4 : sp + n ≤ n0) (h5 : dp + n ≤ n1) (h : Wp M d Q (pc + 3) ls [] (putA σ k1 (cpI (σ k0) (σ k1) sp dp n))) : Wp M d Q pc ls [.inl n, .inl dp, .inr k1, .inl sp, .inr k0] σ := by
  intro p l e s m args below meth c cI cA D ad A hc H locs lsA hr hP hS hl
  have b0 := shT_n hs0
  have b1 := shT_n hs1
  have r1 : InR sp := by omega
  have r2 : InR dp := by omega
  have r3 : InR n := by omega
  have c1 := oi_cl h1 r1
  have c2 := oi_cl h2 r2
  have c3 := oi_cl h3 r3
  have z0 : InR 0 := by omega
  have nz : ∀ z : Int, 0 ≤ z → InR z → ¬ Int32.ofInt z < 0 := fun z hz hzr q => by rw [oi_0, oi_lt hzr z0] at q; omega
  refine va_copyi (D := D) (ty := .int) hc.1 hc.2.1 (hc.2.2.1.trans hl.1.symm) hc.2.2.2.2.2.1 (hc.2.2.2.2.2.2.1 _ hlk) (hc.2.2.2.2.2.2.1 _ hw1) (hc.2.2.2.2.2.2.1 _ hw2) (hc.2.2.2.2.2.2.1 _ hw3) hc.2.2.2.2.2.2.2.1 hP (hc.2.2.2.2.2.2.2.2.2.D cI cA σ) hS k0 k1 0 0 (Wd_at hs0) (Wd_at hs1) rfl rfl rfl (nz sp h1 r1) (nz dp h2 r2) (nz n h3 r3) (cpy_le c1 c3 h4) (cpy_le c2 c3 h5) (fun i _ => rfl) hd1 ?_ hd (fun H1 locs1 hP1 _ hS1 => ?_)
  · have hn : nativeFrameWords "java/lang/System" "arraycopy" 5 + 11 ≤ 36 := by decide
    show 0 + _ ≤ 36 * d
    omega
  · have ee := Wd_set (cI := cI) (cA := cA) (ad := ad) (σ := σ) (τ := putA σ k1 (cpI (σ k0) (σ k1) sp dp n)) hs1 (fun a ha => putA_ne ha)
    have ef : va_cpy (fun j : Nat => Int32.ofInt (σ k0 j)) (fun j : Nat => Int32.ofInt (σ k1 j)) (Int32.ofInt sp).toNatClampNeg (Int32.ofInt dp).toNatClampNeg (Int32.ofInt n).toNatClampNeg = (fun j : Nat => Int32.ofInt (putA σ k1 (cpI (σ k0) (σ k1) sp dp n) k1 j)) := by
      rw [cpy_eq (σ k0) (σ k1) c1 c2 c3]
      funext j
      simp only [putA_eq, if_true]
    rw [ef] at hP1
    have hP2 : va_P D vwCl (Wd cI cA ad (putA σ k1 (cpI (σ k0) (σ k1) sp dp n))) H1 := by rw [← ee]; exact hP1
    exact h p l e s m args below meth c cI cA D ad A hc H1 locs1 lsA (fun a b => by rw [putA_eq]; split; (unfold cpI; split; exact hr _ _; exact hr _ _); exact hr a b) hP2 hS1 hl
theorem w_min {idx : Nat} {a b : Int} (hd : decode M.2.1 pc = .ok (.invokestatic idx, 3)) (hlk : Cond.methodLink M.1.cls idx Lib.Math.min.name ∈ TB) (hw1 : Cond.static Lib.Math.min.name ∈ TB) (hw2 : Cond.initialized "java/lang/Math" ∈ TB) (hw3 : Cond.code Lib.Math.min.name Lib.Math.min.code 2 (some .int) ∈ TB) (hd1 : 0 < d) (hst : st.length ≤ 8) (ha : InR a) (hb : InR b) (h : Wp M d Q (pc + 3) ls (.inl (if b < a then b else a) :: st) σ) : Wp M d Q pc ls (.inl b :: .inl a :: st) σ := by
  intro p l e s m args below meth c cI cA D ad A hc H locs lsA hr hP hS hl
  have h1 := h p l e s m args below meth c cI cA D ad A hc H locs lsA hr hP hS hl
  refine va_mmin (R := rmD d) hc.1 hc.2.1 (hc.2.2.1.trans hl.1.symm) hc.2.2.2.2.2.1 (hc.2.2.2.2.2.2.1 _ hlk) (hc.2.2.2.2.2.2.1 _ hw1) (hc.2.2.2.2.2.2.1 _ hw2) (hc.2.2.2.2.2.2.1 _ hw3) hd1 (by rw [catsum]; show _ ≤ 36 * d; omega) (Nat.le_refl 0) (Nat.le_refl 0) hd ?_
  by_cases q : b < a
  · rw [if_pos q] at h1
    rw [if_pos ((oi_lt hb ha).mpr q)]
    exact h1
  · rw [if_neg q] at h1
    rw [if_neg (fun z => q ((oi_lt hb ha).mp z))]
    exact h1
def rst (rt : Option FieldType) (z : Int) (st : List PV) : List PV := match rt with
  | none => st
  | some _ => .inl z :: st
/-- the words of a method that is called -/
def CW (M' : MI) (n : Nat) : Prop := Cond.initialized M'.1.cls ∈ TB ∧ Cond.code M'.1 M'.2.1 M'.2.2.1 M'.2.2.2 ∈ TB ∧ M'.1.cls ≠ "java/lang/invoke/MethodHandle" ∧ M'.1.cls ≠ "java/lang/invoke/VarHandle" ∧ (parseMethodDescriptor M'.1.desc).map (fun d => d.parameters.length) = some n ∧ plainName M'.1.cls = true ∧ M'.2.2.1 ≤ 17
theorem tb_goodIn {ws : List Cond} (h : ∀ w ∈ ws, w ∈ TB) : GoodIn TB ws := fun w hw => ⟨h w hw, tb_good (h w hw)⟩
theorem w_back {M' : MI} {p : Program} {l : Launch} {e : Env} {s : State} {m : MethodId} {args : Array Value} {below : List Frame} {meth : Method} {c : Code} {cI cA : ClassId} {D : va_G} {ad : Nat → Nat} {A : Nat → Prop} (hc : Cx M p s m args meth c cI cA D ad A) {H : Heap} {locs : List Loc} {lsA : Array Slot} {a : Array Value} {stk : List Value}
    (hP : va_P D vwCl (Wd cI cA ad σ) H) (hS : va_S A s.heap H locs) (hl : LV ad lsA M.2.2.1 ls)
    (hrun : va_Run p l e (rmD d) s m args below meth c H locs 0 0 0 0 (F0 m pc lsA stk) (st.map (rv ad)) (Qg cI cA D ad (va_A (Wd cI cA ad σ) H.size) M'.2.2.2 (fun z τ => Wp M d Q (pc + 3) ls (rst M'.2.2.2 z st) τ) a) (va_A (Wd cI cA ad σ) H.size)) :
    W p l e (rmD d) s m args below meth c H locs 0 0 (MQ below (Qg cI cA D ad A M.2.2.2 Q) args s 0 0 A) (F0 m pc lsA stk) := by
  have hAA : ∀ q, va_A (Wd cI cA ad σ) H.size q → A q := by
    intro q hq
    rcases hq with ⟨k, e0, hk⟩ | hq
    · exact (hc.2.2.2.2.2.2.2.2.2.D cI cA σ).2 k (q, e0) hk
    · exact hc.2.2.2.2.2.2.2.2.1 q (Nat.le_trans hS.1 hq)
  intro T hT X
  obtain ⟨v, st₀, t, T', L, h0, X', hL, e1, e2, ⟨⟨z, τ, hv, hrg, hq, hP1, hK1⟩, hz, hk1⟩, stp⟩ := hrun T hT X
  rw [h0] at hz hk1
  have hv2 : v = M'.2.2.2.map (fun _ => Value.int (Int32.ofInt z)) := by injection hv
  have hS2 : va_S A s.heap T'.heap (locs ++ L) := by
    refine ⟨Nat.le_trans hS.1 (by rw [e1]; exact hz), fun q h1 h2 => ?_, fun q hq2 => ?_⟩
    · rw [e1, hk1 q (Nat.lt_of_lt_of_le h1 hS.1) (fun zz => h2 (hAA q zz))]
      exact hS.2.1 q h1 h2
    · rcases List.mem_append.mp hq2 with h | h
      · exact hS.2.2 q h
      · exact hAA _ (hL q h)
  obtain ⟨t2, a1, b1⟩ := hq p l e s m args below meth c cI cA D ad A hc T'.heap (locs ++ L) lsA hrg (by rw [e1]; exact hP1) hS2 hl T' rfl X'
  refine ⟨t2, stp t2 ?_, b1⟩
  have ef : ({ F0 m pc lsA stk with pc := (F0 m pc lsA stk).pc + 3, stack := v.toList ++ st.map (rv ad) } : JFrame) = F0 m (pc + 3) lsA ((rst M'.2.2.2 z st).map (rv ad)) := by
    rw [hv2]
    cases M'.2.2.2 <;> rfl
  rw [ef]
  exact a1
theorem w_pre {p : Program} {s : State} {m : MethodId} {args : Array Value} {meth : Method} {c : Code} {cI cA : ClassId} {D : va_G} {ad : Nat → Nat} {A : Nat → Prop} (hc : Cx M p s m args meth c cI cA D ad A) {H : Heap} (hP : va_P D vwCl (Wd cI cA ad σ) H) (vs : List Value) : PreS s H (va_Pc vs (fun U => U.heap.size = H.size ∧ va_P D vwCl (Wd cI cA ad σ) U.heap ∧ va_K D vwCl (tyL cI cA) U)) vs :=
  ⟨fun a U g mk q => by obtain ⟨q0, q1, q2, q3⟩ := q; exact ⟨q0, q1, q2, va_K.moved (u := U) (U := U.calling g mk a) (Vm.Alike.refl U.vm) q3⟩, fun U hU hW => ⟨rfl, by rw [hU], by rw [hU]; exact hP, va_K.moved hW.alike hc.2.2.2.2.2.2.2.1⟩⟩
theorem w_cv {M' : MI} {d' k idx : Nat} {vs : List PV} {fs : List (Option Nat)} {q : vw_C} (hd : decode M.2.1 pc = .ok (.invokevirtual idx, 3)) (hlk : Cond.methodLink M.1.cls idx M'.1 ∈ TB) (hw1 : Cond.instanceMethod M'.1 ∈ TB) (hw2 : Cond.selects M'.1.cls M'.1 M'.1 ∈ TB) (hcw : CW M' vs.length) (hsh : shT[k]? = some (.inl fs)) (hq : vwCl[k]? = some q) (hqc : q.1 = M'.1.cls) (hln : vs.length + 1 ≤ M'.2.2.1) (hdd : d' < d) (hst : st.length ≤ 8)
    (h : Wp M' d' (fun z τ => Wp M d Q (pc + 3) ls (rst M'.2.2.2 z st) τ) 0 (entl M'.2.2.1 (.inr k :: vs)) [] σ) : Wp M d Q pc ls (vs.reverse ++ .inr k :: st) σ := by
  intro p l e s m args below meth c cI cA D ad A hc H locs lsA hr hP hS hl
  obtain ⟨hi, hcd, hn1, hn2, hpd, hpl, hmx⟩ := hcw
  have hM := Met_of_Wp (vs := .inr k :: vs) l hpl (by simpa using hln) hr h cI cA D hc.2.2.2.2.2.2.2.2.2 H.size
  have hpre := w_pre hc hP ((Sum.inr k :: vs : List PV).map (rv ad))
  refine w_back (M' := M') (st := st) hc hP hS hl (va_runV (As := vs.map (rv ad)) (b := ad k) (rest := st.map (rv ad)) ⟨hc.1, hc.2.1, hc.2.2.1, hc.2.2.2.2.2.1, hc.2.2.2.2.2.2.1⟩ hM (cwV (C := M'.1.cls) vs.length hc.2.2.2.2.2.2.1 (tb_goodIn ?_) rfl rfl rfl ⟨rfl, hn1, hn2, hpd⟩ ⟨hdd, ?_⟩) ⟨hpre.1, ?_, hpre.2⟩ rfl (by simp) hl.1 ?_ (lv_room (by rw [catsum]; exact hst)) hd ⟨Nat.le_refl 0, Nat.le_refl 0⟩)
  · intro w hw
    unfold wsV at hw
    simp only [List.mem_append, List.mem_cons, List.not_mem_nil, or_false] at hw
    rcases hw with (rfl | rfl | rfl | rfl) | rfl | hw
    · exact hlk
    · exact hw1
    · exact hw2
    · exact hi
    · exact hcd
    · exact hw
  · show 8 + (M'.2.2.1 + 11) + 36 * d' ≤ 36 * d
    omega
  · have := va_recv hc.2.2.2.2.2.2.2.1 hP hq (Wd_at hsh)
    rw [hqc] at this
    exact this
  · show (vs.reverse ++ .inr k :: st).map (rv ad) = _
    simp [rv]
theorem w_cs {M' : MI} {d' idx : Nat} {vs : List PV} (hd : decode M.2.1 pc = .ok (.invokestatic idx, 3)) (hlk : Cond.methodLink M.1.cls idx M'.1 ∈ TB) (hw1 : Cond.static M'.1 ∈ TB) (hcw : CW M' vs.length) (hqc : M'.1.cls = M.1.cls) (hln : vs.length ≤ M'.2.2.1) (hdd : d' < d) (hst : st.length ≤ 8)
    (h : Wp M' d' (fun z τ => Wp M d Q (pc + 3) ls (rst M'.2.2.2 z st) τ) 0 (entl M'.2.2.1 vs) [] σ) : Wp M d Q pc ls (vs.reverse ++ st) σ := by
  intro p l e s m args below meth c cI cA D ad A hc H locs lsA hr hP hS hl
  obtain ⟨hi, hcd, hn1, hn2, hpd, hpl, hmx⟩ := hcw
  have hM := Met_of_Wp (vs := vs) l hpl hln hr h cI cA D hc.2.2.2.2.2.2.2.2.2 H.size
  have hpre := w_pre hc hP (vs.map (rv ad))
  refine w_back (M' := M') (st := st) hc hP hS hl (va_runS (As := vs.map (rv ad)) (rest := st.map (rv ad)) ⟨hc.1, hc.2.1, hc.2.2.1, hc.2.2.2.2.2.1, hc.2.2.2.2.2.2.1⟩ hM (cwS vs.length hc.2.2.2.2.2.2.1 (tb_goodIn ?_) rfl rfl rfl ⟨hqc, hn1, hn2, hpd⟩ ⟨hdd, ?_⟩) hpre rfl (by simp) hl.1 ?_ (lv_room (by rw [catsum]; exact hst)) hd ⟨Nat.le_refl 0, Nat.le_refl 0⟩)
  · intro w hw
    unfold wsS at hw
    simp only [List.mem_append, List.mem_cons, List.not_mem_nil, or_false] at hw
    rcases hw with (rfl | rfl | rfl) | rfl | hw
    · exact hlk
    · exact hw1
    · rw [← hqc]; exact hi
    · exact hcd
    · exact hw
  · show 8 + (M'.2.2.1 + 11) + 36 * d' ≤ 36 * d
    omega
  · show (vs.reverse ++ st).map (rv ad) = _
    simp
end RULES
end
section
def mX0_numberBehind : MI := (yX0_numberBehind, cX0_numberBehind, 3, some .int)
def mX0_insert : MI := (yX0_insert, cX0_insert, 5, none)
def mX0_openGap : MI := (yX0_openGap, cX0_openGap, 3, none)
def mX0_remove : MI := (yX0_remove, cX0_remove, 2, none)
def mX0_closeGap : MI := (yX0_closeGap, cX0_closeGap, 3, none)
def mX0_carry : MI := (yX0_carry, cX0_carry, 3, none)
def mX0_shareGrowth : MI := (yX0_shareGrowth, cX0_shareGrowth, 6, none)
def mX0_giveOneMore : MI := (yX0_giveOneMore, cX0_giveOneMore, 4, some .int)
def mX0_allWidths : MI := (yX0_allWidths, cX0_allWidths, 3, some .int)
def mX0_loadOn : MI := (yX0_loadOn, cX0_loadOn, 2, some .int)
def mX0_rateOn : MI := (yX0_rateOn, cX0_rateOn, 2, some .int)
def mX0_firstOn : MI := (yX0_firstOn, cX0_firstOn, 2, some .int)
def mX0_countOn : MI := (yX0_countOn, cX0_countOn, 2, some .int)
def mX0_firstIn : MI := (yX0_firstIn, cX0_firstIn, 2, some .int)
def mX0_countIn : MI := (yX0_countIn, cX0_countIn, 2, some .int)
def mX0_widthsIn : MI := (yX0_widthsIn, cX0_widthsIn, 2, some .int)
def mX0_firstWith : MI := (yX0_firstWith, cX0_firstWith, 4, some .int)
def mX0_sumWith : MI := (yX0_sumWith, cX0_sumWith, 6, some .int)
def mX0_countWith : MI := (yX0_countWith, cX0_countWith, 5, some .int)
def mX0_shelvesOf : MI := (yX0_shelvesOf, cX0_shelvesOf, 5, some .int)
def mX0_widthsAheadOf : MI := (yX0_widthsAheadOf, cX0_widthsAheadOf, 4, some .int)
def mX1_load : MI := (yX1_load, cX1_load, 5, none)
def mX1_insert : MI := (yX1_insert, cX1_insert, 3, none)
def mX1_forget : MI := (yX1_forget, cX1_forget, 2, none)
def mX1_shelvesFilled : MI := (yX1_shelvesFilled, cX1_shelvesFilled, 4, some .int)
def mX1_fill : MI := (yX1_fill, cX1_fill, 5, some .int)
def mX1_findCuts : MI := (yX1_findCuts, cX1_findCuts, 3, some .boolean)
def mX1_chooseMost : MI := (yX1_chooseMost, cX1_chooseMost, 9, none)
def mX1_priceOfMove : MI := (yX1_priceOfMove, cX1_priceOfMove, 4, some .int)
def mX1_follow : MI := (yX1_follow, cX1_follow, 5, none)
def mX1_partOfPrice : MI := (yX1_partOfPrice, cX1_partOfPrice, 2, some .int)
def mX2_add : MI := (yX2_add, cX2_add, 3, some .int)
def mX3_write : MI := (yX3_write, cX3_write, 7, none)
def mX3_read : MI := (yX3_read, cX3_read, 4, some .int)
def mX4_exists : MI := (yX4_exists, cX4_exists, 1, some .boolean)
def mX4_end : MI := (yX4_end, cX4_end, 1, none)
def mX4_make : MI := (yX4_make, cX4_make, 5, none)
def mX4_add : MI := (yX4_add, cX4_add, 3, none)
def mX4_stepOn : MI := (yX4_stepOn, cX4_stepOn, 1, none)
def mX4_direction : MI := (yX4_direction, cX4_direction, 2, some .int)
def mX4_movesOfNextDay : MI := (yX4_movesOfNextDay, cX4_movesOfNextDay, 4, some .int)
def mX4_days : MI := (yX4_days, cX4_days, 7, some .int)
def mX4_trips : MI := (yX4_trips, cX4_trips, 5, some .int)
def mX4_takenAheadOf : MI := (yX4_takenAheadOf, cX4_takenAheadOf, 4, some .int)
def mX4_widthsLeft : MI := (yX4_widthsLeft, cX4_widthsLeft, 3, some .int)
def mX4_rightsLeft : MI := (yX4_rightsLeft, cX4_rightsLeft, 3, some .int)
def mX5_add : MI := (yX5_add, cX5_add, 4, some .int)
def mX5_openLengths : MI := (yX5_openLengths, cX5_openLengths, 3, some .int)
def mX6_shelf : MI := (yX6_shelf, cX6_shelf, 4, some .int)
def mX6_turn : MI := (yX6_turn, cX6_turn, 3, some .boolean)
def mX6_group : MI := (yX6_group, cX6_group, 2, some .int)
def mX6_grow : MI := (yX6_grow, cX6_grow, 3, some .boolean)
def mX6_book : MI := (yX6_book, cX6_book, 5, some .int)
def mX6_gone : MI := (yX6_gone, cX6_gone, 4, some .int)
def mX6_limit : MI := (yX6_limit, cX6_limit, 2, some .boolean)
def mX6_count : MI := (yX6_count, cX6_count, 2, some .int)
def mX6_on : MI := (yX6_on, cX6_on, 3, some .int)
def mX6_in : MI := (yX6_in, cX6_in, 3, some .int)
def mX6_of : MI := (yX6_of, cX6_of, 3, some .int)
def mX6_lasts : MI := (yX6_lasts, cX6_lasts, 3, some .int)
def mX6_cut : MI := (yX6_cut, cX6_cut, 3, some .int)
def mX6_price : MI := (yX6_price, cX6_price, 3, some .int)
def mX6_best : MI := (yX6_best, cX6_best, 5, some .int)
def mX6_tight : MI := (yX6_tight, cX6_tight, 2, some .int)
def mX6_more : MI := (yX6_more, cX6_more, 6, some .int)
def mX6_plan : MI := (yX6_plan, cX6_plan, 2, some .int)
def mX6_drop : MI := (yX6_drop, cX6_drop, 2, some .int)
def mX6_move : MI := (yX6_move, cX6_move, 1, some .int)
def mX6_day : MI := (yX6_day, cX6_day, 3, some .int)
def mX6_planned : MI := (yX6_planned, cX6_planned, 3, some .int)
def mX6_left : MI := (yX6_left, cX6_left, 2, some .int)
def mX6_enough : MI := (yX6_enough, cX6_enough, 5, some .int)
def mX6_log : MI := (yX6_log, cX6_log, 3, some .int)
def mX6_isWithin : MI := (yX6_isWithin, cX6_isWithin, 3, some .boolean)
def mX6_hasShelf : MI := (yX6_hasShelf, cX6_hasShelf, 2, some .boolean)
def mX6_hasGroup : MI := (yX6_hasGroup, cX6_hasGroup, 2, some .boolean)
def mX6_hasBook : MI := (yX6_hasBook, cX6_hasBook, 2, some .boolean)
def mX6_roomOn : MI := (yX6_roomOn, cX6_roomOn, 2, some .int)
def mX6_yearsOn : MI := (yX6_yearsOn, cX6_yearsOn, 3, some .int)
def mX6_hasCuts : MI := (yX6_hasCuts, cX6_hasCuts, 2, some .boolean)
def mX6_isRoomFor : MI := (yX6_isRoomFor, cX6_isRoomFor, 3, some .boolean)
def mX6_moveAtOnce : MI := (yX6_moveAtOnce, cX6_moveAtOnce, 3, none)
def mX6_makeNextMove : MI := (yX6_makeNextMove, cX6_makeNextMove, 3, some .int)
def mX7_thrown : MI := (yX7_thrown, cX7_thrown, 1, some .int)
def mX7_isIn : MI := (yX7_isIn, cX7_isIn, 3, some .boolean)
def mX7_isShelf : MI := (yX7_isShelf, cX7_isShelf, 2, some .boolean)
def mX7_isGroup : MI := (yX7_isGroup, cX7_isGroup, 2, some .boolean)
def mX7_isBook : MI := (yX7_isBook, cX7_isBook, 2, some .boolean)
def mX7_notes : MI := (yX7_notes, cX7_notes, 6, none)
def mX7_log : MI := (yX7_log, cX7_log, 3, some .int)
def mX7_widthOf : MI := (yX7_widthOf, cX7_widthOf, 4, some .int)
def mX7_laysNeeds : MI := (yX7_laysNeeds, cX7_laysNeeds, 6, none)
def mX7_loadOf : MI := (yX7_loadOf, cX7_loadOf, 4, some .int)
def mX7_rateOf : MI := (yX7_rateOf, cX7_rateOf, 4, some .int)
def mX7_lastsOf : MI := (yX7_lastsOf, cX7_lastsOf, 4, some .int)
def mX7_firstOn : MI := (yX7_firstOn, cX7_firstOn, 3, some .int)
def mX7_manyOn : MI := (yX7_manyOn, cX7_manyOn, 4, some .int)
def mX7_cell : MI := (yX7_cell, cX7_cell, 3, some .int)
def mX7_costOf : MI := (yX7_costOf, cX7_costOf, 6, some .int)
def mX7_mostOn : MI := (yX7_mostOn, cX7_mostOn, 5, some .int)
def mX7_cuts : MI := (yX7_cuts, cX7_cuts, 5, some .boolean)
def mX7_laysLeast : MI := (yX7_laysLeast, cX7_laysLeast, 6, none)
def mX7_isYears : MI := (yX7_isYears, cX7_isYears, 1, some .boolean)
def mX7_cut : MI := (yX7_cut, cX7_cut, 3, some .int)
def mX7_price : MI := (yX7_price, cX7_price, 3, some .int)
def mX7_fits : MI := (yX7_fits, cX7_fits, 6, some .boolean)
def mX7_best : MI := (yX7_best, cX7_best, 3, some .int)
def mX7_tight : MI := (yX7_tight, cX7_tight, 5, some .int)
def mX7_opens : MI := (yX7_opens, cX7_opens, 3, none)
def mX7_closes : MI := (yX7_closes, cX7_closes, 3, none)
def mX7_behind : MI := (yX7_behind, cX7_behind, 3, some .int)
def mX7_comes : MI := (yX7_comes, cX7_comes, 4, none)
def mX7_laysGoals : MI := (yX7_laysGoals, cX7_laysGoals, 4, none)
def mX7_book : MI := (yX7_book, cX7_book, 6, some .int)
def mX7_gone : MI := (yX7_gone, cX7_gone, 3, some .int)
def mX7_more : MI := (yX7_more, cX7_more, 7, some .int)
def mX7_ends : MI := (yX7_ends, cX7_ends, 1, none)
def mX7_moves : MI := (yX7_moves, cX7_moves, 3, none)
def mX7_plans : MI := (yX7_plans, cX7_plans, 2, none)
def mX7_plan : MI := (yX7_plan, cX7_plan, 3, some .int)
def mX7_drop : MI := (yX7_drop, cX7_drop, 1, some .int)
def mX7_goesOn : MI := (yX7_goesOn, cX7_goesOn, 2, some .int)
def mX7_move : MI := (yX7_move, cX7_move, 1, some .int)
def mX7_day : MI := (yX7_day, cX7_day, 4, some .int)
def mX7_dayOf : MI := (yX7_dayOf, cX7_dayOf, 8, some .int)
def mX7_tripOf : MI := (yX7_tripOf, cX7_tripOf, 5, some .int)
def mX7_taken : MI := (yX7_taken, cX7_taken, 4, some .int)
def mX7_planned : MI := (yX7_planned, cX7_planned, 3, some .int)
def mX7_leftWidths : MI := (yX7_leftWidths, cX7_leftWidths, 3, some .int)
def mX7_leftRight : MI := (yX7_leftRight, cX7_leftRight, 3, some .int)
def mX7_left : MI := (yX7_left, cX7_left, 2, some .int)
def mX7_enough : MI := (yX7_enough, cX7_enough, 3, some .int)
def mX7_shelf : MI := (yX7_shelf, cX7_shelf, 3, some .int)
def mX7_turn : MI := (yX7_turn, cX7_turn, 3, some .boolean)
def mX7_group : MI := (yX7_group, cX7_group, 2, some .int)
def mX7_grow : MI := (yX7_grow, cX7_grow, 3, some .boolean)
def mX7_limit : MI := (yX7_limit, cX7_limit, 2, some .boolean)
def mX7_allWidths : MI := (yX7_allWidths, cX7_allWidths, 3, some .int)
def mX7_openLengths : MI := (yX7_openLengths, cX7_openLengths, 3, some .int)
def mX7_count : MI := (yX7_count, cX7_count, 2, some .int)
def mX7_on : MI := (yX7_on, cX7_on, 3, some .int)
def mX7_booksOf : MI := (yX7_booksOf, cX7_booksOf, 4, some .int)
def mX7_firstOf : MI := (yX7_firstOf, cX7_firstOf, 3, some .int)
def mX7_shelvesOf : MI := (yX7_shelvesOf, cX7_shelvesOf, 5, some .int)
def mX7_in : MI := (yX7_in, cX7_in, 3, some .int)
def mX7_needOf : MI := (yX7_needOf, cX7_needOf, 2, some .int)
def mX7_ahead : MI := (yX7_ahead, cX7_ahead, 4, some .int)
def mX7_of : MI := (yX7_of, cX7_of, 3, some .int)
def mX7_lasts : MI := (yX7_lasts, cX7_lasts, 3, some .int)
theorem inTB0 : ∀ w ∈ u_ws RX0 TX0 8, w ∈ TB := by
  intro w hw
  have h : ∀ w ∈ u_ws RX0 TX0 8, w ∈ lw_tbl ∧ goodWord w = true := by decide +kernel
  exact List.mem_filter.mpr (h w hw)
theorem inTB1 : ∀ w ∈ u_ws RX1 TX1 12, w ∈ TB := by
  intro w hw
  have h : ∀ w ∈ u_ws RX1 TX1 12, w ∈ lw_tbl ∧ goodWord w = true := by decide +kernel
  exact List.mem_filter.mpr (h w hw)
theorem inTB2 : ∀ w ∈ u_ws RX2 TX2 2, w ∈ TB := by
  intro w hw
  have h : ∀ w ∈ u_ws RX2 TX2 2, w ∈ lw_tbl ∧ goodWord w = true := by decide +kernel
  exact List.mem_filter.mpr (h w hw)
theorem inTB3 : ∀ w ∈ u_ws RX3 TX3 3, w ∈ TB := by
  intro w hw
  have h : ∀ w ∈ u_ws RX3 TX3 3, w ∈ lw_tbl ∧ goodWord w = true := by decide +kernel
  exact List.mem_filter.mpr (h w hw)
theorem inTB4 : ∀ w ∈ u_ws RX4 TX4 8, w ∈ TB := by
  intro w hw
  have h : ∀ w ∈ u_ws RX4 TX4 8, w ∈ lw_tbl ∧ goodWord w = true := by decide +kernel
  exact List.mem_filter.mpr (h w hw)
theorem inTB5 : ∀ w ∈ u_ws RX5 TX5 3, w ∈ TB := by
  intro w hw
  have h : ∀ w ∈ u_ws RX5 TX5 3, w ∈ lw_tbl ∧ goodWord w = true := by decide +kernel
  exact List.mem_filter.mpr (h w hw)
theorem inTB6 : ∀ w ∈ u_ws RX6 TX6 7, w ∈ TB := by
  intro w hw
  have h : ∀ w ∈ u_ws RX6 TX6 7, w ∈ lw_tbl ∧ goodWord w = true := by decide +kernel
  exact List.mem_filter.mpr (h w hw)
theorem inTB7 : ∀ w ∈ u_ws RX7 TX7 29, w ∈ TB := by
  intro w hw
  have h : ∀ w ∈ u_ws RX7 TX7 29, w ∈ lw_tbl ∧ goodWord w = true := by decide +kernel
  exact List.mem_filter.mpr (h w hw)
theorem tw_63 : Cond.initialized RX0 ∈ TB := tb_of 63 (by decide +kernel) (by decide +kernel)
theorem tw_352 : Cond.code yX0_numberBehind cX0_numberBehind 3 (some .int) ∈ TB := tb_of 352 (by decide +kernel) (by decide +kernel)
theorem cw_X0_numberBehind : CW mX0_numberBehind 1 := ⟨tw_63, tw_352, by decide +kernel, by decide +kernel, by decide +kernel, by decide +kernel, by decide⟩
theorem tw_426 : Cond.code yX0_insert cX0_insert 5 (none) ∈ TB := tb_of 426 (by decide +kernel) (by decide +kernel)
theorem cw_X0_insert : CW mX0_insert 4 := ⟨tw_63, tw_426, by decide +kernel, by decide +kernel, by decide +kernel, by decide +kernel, by decide⟩
theorem tw_430 : Cond.code yX0_openGap cX0_openGap 3 (none) ∈ TB := tb_of 430 (by decide +kernel) (by decide +kernel)
theorem cw_X0_openGap : CW mX0_openGap 2 := ⟨tw_63, tw_430, by decide +kernel, by decide +kernel, by decide +kernel, by decide +kernel, by decide⟩
theorem tw_443 : Cond.code yX0_remove cX0_remove 2 (none) ∈ TB := tb_of 443 (by decide +kernel) (by decide +kernel)
theorem cw_X0_remove : CW mX0_remove 1 := ⟨tw_63, tw_443, by decide +kernel, by decide +kernel, by decide +kernel, by decide +kernel, by decide⟩
theorem tw_447 : Cond.code yX0_closeGap cX0_closeGap 3 (none) ∈ TB := tb_of 447 (by decide +kernel) (by decide +kernel)
theorem cw_X0_closeGap : CW mX0_closeGap 2 := ⟨tw_63, tw_447, by decide +kernel, by decide +kernel, by decide +kernel, by decide +kernel, by decide⟩
theorem tw_418 : Cond.code yX0_carry cX0_carry 3 (none) ∈ TB := tb_of 418 (by decide +kernel) (by decide +kernel)
theorem cw_X0_carry : CW mX0_carry 2 := ⟨tw_63, tw_418, by decide +kernel, by decide +kernel, by decide +kernel, by decide +kernel, by decide⟩
theorem tw_332 : Cond.code yX0_shareGrowth cX0_shareGrowth 6 (none) ∈ TB := tb_of 332 (by decide +kernel) (by decide +kernel)
theorem cw_X0_shareGrowth : CW mX0_shareGrowth 2 := ⟨tw_63, tw_332, by decide +kernel, by decide +kernel, by decide +kernel, by decide +kernel, by decide⟩
theorem tw_344 : Cond.code yX0_giveOneMore cX0_giveOneMore 4 (some .int) ∈ TB := tb_of 344 (by decide +kernel) (by decide +kernel)
theorem cw_X0_giveOneMore : CW mX0_giveOneMore 1 := ⟨tw_63, tw_344, by decide +kernel, by decide +kernel, by decide +kernel, by decide +kernel, by decide⟩
theorem tw_459 : Cond.code yX0_allWidths cX0_allWidths 3 (some .int) ∈ TB := tb_of 459 (by decide +kernel) (by decide +kernel)
theorem cw_X0_allWidths : CW mX0_allWidths 0 := ⟨tw_63, tw_459, by decide +kernel, by decide +kernel, by decide +kernel, by decide +kernel, by decide⟩
theorem tw_495 : Cond.code yX0_loadOn cX0_loadOn 2 (some .int) ∈ TB := tb_of 495 (by decide +kernel) (by decide +kernel)
theorem cw_X0_loadOn : CW mX0_loadOn 1 := ⟨tw_63, tw_495, by decide +kernel, by decide +kernel, by decide +kernel, by decide +kernel, by decide⟩
theorem tw_487 : Cond.code yX0_rateOn cX0_rateOn 2 (some .int) ∈ TB := tb_of 487 (by decide +kernel) (by decide +kernel)
theorem cw_X0_rateOn : CW mX0_rateOn 1 := ⟨tw_63, tw_487, by decide +kernel, by decide +kernel, by decide +kernel, by decide +kernel, by decide⟩
theorem tw_675 : Cond.code yX0_firstOn cX0_firstOn 2 (some .int) ∈ TB := tb_of 675 (by decide +kernel) (by decide +kernel)
theorem cw_X0_firstOn : CW mX0_firstOn 1 := ⟨tw_63, tw_675, by decide +kernel, by decide +kernel, by decide +kernel, by decide +kernel, by decide⟩
theorem tw_475 : Cond.code yX0_countOn cX0_countOn 2 (some .int) ∈ TB := tb_of 475 (by decide +kernel) (by decide +kernel)
theorem cw_X0_countOn : CW mX0_countOn 1 := ⟨tw_63, tw_475, by decide +kernel, by decide +kernel, by decide +kernel, by decide +kernel, by decide⟩
theorem tw_697 : Cond.code yX0_firstIn cX0_firstIn 2 (some .int) ∈ TB := tb_of 697 (by decide +kernel) (by decide +kernel)
theorem cw_X0_firstIn : CW mX0_firstIn 1 := ⟨tw_63, tw_697, by decide +kernel, by decide +kernel, by decide +kernel, by decide +kernel, by decide⟩
theorem tw_692 : Cond.code yX0_countIn cX0_countIn 2 (some .int) ∈ TB := tb_of 692 (by decide +kernel) (by decide +kernel)
theorem cw_X0_countIn : CW mX0_countIn 1 := ⟨tw_63, tw_692, by decide +kernel, by decide +kernel, by decide +kernel, by decide +kernel, by decide⟩
theorem tw_336 : Cond.code yX0_widthsIn cX0_widthsIn 2 (some .int) ∈ TB := tb_of 336 (by decide +kernel) (by decide +kernel)
theorem cw_X0_widthsIn : CW mX0_widthsIn 1 := ⟨tw_63, tw_336, by decide +kernel, by decide +kernel, by decide +kernel, by decide +kernel, by decide⟩
theorem tw_679 : Cond.code yX0_firstWith cX0_firstWith 4 (some .int) ∈ TB := tb_of 679 (by decide +kernel) (by decide +kernel)
theorem cw_X0_firstWith : CW mX0_firstWith 2 := ⟨tw_63, tw_679, by decide +kernel, by decide +kernel, by decide +kernel, by decide +kernel, by decide⟩
theorem tw_340 : Cond.code yX0_sumWith cX0_sumWith 6 (some .int) ∈ TB := tb_of 340 (by decide +kernel) (by decide +kernel)
theorem cw_X0_sumWith : CW mX0_sumWith 3 := ⟨tw_63, tw_340, by decide +kernel, by decide +kernel, by decide +kernel, by decide +kernel, by decide⟩
theorem tw_479 : Cond.code yX0_countWith cX0_countWith 5 (some .int) ∈ TB := tb_of 479 (by decide +kernel) (by decide +kernel)
theorem cw_X0_countWith : CW mX0_countWith 2 := ⟨tw_63, tw_479, by decide +kernel, by decide +kernel, by decide +kernel, by decide +kernel, by decide⟩
theorem tw_701 : Cond.code yX0_shelvesOf cX0_shelvesOf 5 (some .int) ∈ TB := tb_of 701 (by decide +kernel) (by decide +kernel)
theorem cw_X0_shelvesOf : CW mX0_shelvesOf 1 := ⟨tw_63, tw_701, by decide +kernel, by decide +kernel, by decide +kernel, by decide +kernel, by decide⟩
theorem tw_713 : Cond.code yX0_widthsAheadOf cX0_widthsAheadOf 4 (some .int) ∈ TB := tb_of 713 (by decide +kernel) (by decide +kernel)
theorem cw_X0_widthsAheadOf : CW mX0_widthsAheadOf 1 := ⟨tw_63, tw_713, by decide +kernel, by decide +kernel, by decide +kernel, by decide +kernel, by decide⟩
theorem tw_64 : Cond.initialized RX1 ∈ TB := tb_of 64 (by decide +kernel) (by decide +kernel)
theorem tw_356 : Cond.code yX1_load cX1_load 5 (none) ∈ TB := tb_of 356 (by decide +kernel) (by decide +kernel)
theorem cw_X1_load : CW mX1_load 3 := ⟨tw_64, tw_356, by decide +kernel, by decide +kernel, by decide +kernel, by decide +kernel, by decide⟩
theorem tw_360 : Cond.code yX1_insert cX1_insert 3 (none) ∈ TB := tb_of 360 (by decide +kernel) (by decide +kernel)
theorem cw_X1_insert : CW mX1_insert 2 := ⟨tw_64, tw_360, by decide +kernel, by decide +kernel, by decide +kernel, by decide +kernel, by decide⟩
theorem tw_385 : Cond.code yX1_forget cX1_forget 2 (none) ∈ TB := tb_of 385 (by decide +kernel) (by decide +kernel)
theorem cw_X1_forget : CW mX1_forget 1 := ⟨tw_64, tw_385, by decide +kernel, by decide +kernel, by decide +kernel, by decide +kernel, by decide⟩
theorem tw_524 : Cond.code yX1_shelvesFilled cX1_shelvesFilled 4 (some .int) ∈ TB := tb_of 524 (by decide +kernel) (by decide +kernel)
theorem cw_X1_shelvesFilled : CW mX1_shelvesFilled 1 := ⟨tw_64, tw_524, by decide +kernel, by decide +kernel, by decide +kernel, by decide +kernel, by decide⟩
theorem tw_528 : Cond.code yX1_fill cX1_fill 5 (some .int) ∈ TB := tb_of 528 (by decide +kernel) (by decide +kernel)
theorem cw_X1_fill : CW mX1_fill 2 := ⟨tw_64, tw_528, by decide +kernel, by decide +kernel, by decide +kernel, by decide +kernel, by decide⟩
theorem tw_367 : Cond.code yX1_findCuts cX1_findCuts 3 (some .boolean) ∈ TB := tb_of 367 (by decide +kernel) (by decide +kernel)
theorem cw_X1_findCuts : CW mX1_findCuts 0 := ⟨tw_64, tw_367, by decide +kernel, by decide +kernel, by decide +kernel, by decide +kernel, by decide⟩
theorem tw_372 : Cond.code yX1_chooseMost cX1_chooseMost 9 (none) ∈ TB := tb_of 372 (by decide +kernel) (by decide +kernel)
theorem cw_X1_chooseMost : CW mX1_chooseMost 2 := ⟨tw_64, tw_372, by decide +kernel, by decide +kernel, by decide +kernel, by decide +kernel, by decide⟩
theorem tw_377 : Cond.code yX1_priceOfMove cX1_priceOfMove 4 (some .int) ∈ TB := tb_of 377 (by decide +kernel) (by decide +kernel)
theorem cw_X1_priceOfMove : CW mX1_priceOfMove 2 := ⟨tw_64, tw_377, by decide +kernel, by decide +kernel, by decide +kernel, by decide +kernel, by decide⟩
theorem tw_381 : Cond.code yX1_follow cX1_follow 5 (none) ∈ TB := tb_of 381 (by decide +kernel) (by decide +kernel)
theorem cw_X1_follow : CW mX1_follow 0 := ⟨tw_64, tw_381, by decide +kernel, by decide +kernel, by decide +kernel, by decide +kernel, by decide⟩
theorem tw_512 : Cond.code yX1_partOfPrice cX1_partOfPrice 2 (some .int) ∈ TB := tb_of 512 (by decide +kernel) (by decide +kernel)
theorem cw_X1_partOfPrice : CW mX1_partOfPrice 1 := ⟨tw_64, tw_512, by decide +kernel, by decide +kernel, by decide +kernel, by decide +kernel, by decide⟩
theorem tw_62 : Cond.initialized RX2 ∈ TB := tb_of 62 (by decide +kernel) (by decide +kernel)
theorem tw_320 : Cond.code yX2_add cX2_add 3 (some .int) ∈ TB := tb_of 320 (by decide +kernel) (by decide +kernel)
theorem cw_X2_add : CW mX2_add 1 := ⟨tw_62, tw_320, by decide +kernel, by decide +kernel, by decide +kernel, by decide +kernel, by decide⟩
theorem tw_66 : Cond.initialized RX3 ∈ TB := tb_of 66 (by decide +kernel) (by decide +kernel)
theorem tw_411 : Cond.code yX3_write cX3_write 7 (none) ∈ TB := tb_of 411 (by decide +kernel) (by decide +kernel)
theorem cw_X3_write : CW mX3_write 5 := ⟨tw_66, tw_411, by decide +kernel, by decide +kernel, by decide +kernel, by decide +kernel, by decide⟩
theorem tw_597 : Cond.code yX3_read cX3_read 4 (some .int) ∈ TB := tb_of 597 (by decide +kernel) (by decide +kernel)
theorem cw_X3_read : CW mX3_read 2 := ⟨tw_66, tw_597, by decide +kernel, by decide +kernel, by decide +kernel, by decide +kernel, by decide⟩
theorem tw_65 : Cond.initialized RX4 ∈ TB := tb_of 65 (by decide +kernel) (by decide +kernel)
theorem tw_467 : Cond.code yX4_exists cX4_exists 1 (some .boolean) ∈ TB := tb_of 467 (by decide +kernel) (by decide +kernel)
theorem cw_X4_exists : CW mX4_exists 0 := ⟨tw_65, tw_467, by decide +kernel, by decide +kernel, by decide +kernel, by decide +kernel, by decide⟩
theorem tw_300 : Cond.code yX4_end cX4_end 1 (none) ∈ TB := tb_of 300 (by decide +kernel) (by decide +kernel)
theorem cw_X4_end : CW mX4_end 0 := ⟨tw_65, tw_300, by decide +kernel, by decide +kernel, by decide +kernel, by decide +kernel, by decide⟩
theorem tw_393 : Cond.code yX4_make cX4_make 5 (none) ∈ TB := tb_of 393 (by decide +kernel) (by decide +kernel)
theorem cw_X4_make : CW mX4_make 3 := ⟨tw_65, tw_393, by decide +kernel, by decide +kernel, by decide +kernel, by decide +kernel, by decide⟩
theorem tw_399 : Cond.code yX4_add cX4_add 3 (none) ∈ TB := tb_of 399 (by decide +kernel) (by decide +kernel)
theorem cw_X4_add : CW mX4_add 2 := ⟨tw_65, tw_399, by decide +kernel, by decide +kernel, by decide +kernel, by decide +kernel, by decide⟩
theorem tw_422 : Cond.code yX4_stepOn cX4_stepOn 1 (none) ∈ TB := tb_of 422 (by decide +kernel) (by decide +kernel)
theorem cw_X4_stepOn : CW mX4_stepOn 0 := ⟨tw_65, tw_422, by decide +kernel, by decide +kernel, by decide +kernel, by decide +kernel, by decide⟩
theorem tw_407 : Cond.code yX4_direction cX4_direction 2 (some .int) ∈ TB := tb_of 407 (by decide +kernel) (by decide +kernel)
theorem cw_X4_direction : CW mX4_direction 1 := ⟨tw_65, tw_407, by decide +kernel, by decide +kernel, by decide +kernel, by decide +kernel, by decide⟩
theorem tw_556 : Cond.code yX4_movesOfNextDay cX4_movesOfNextDay 4 (some .int) ∈ TB := tb_of 556 (by decide +kernel) (by decide +kernel)
theorem cw_X4_movesOfNextDay : CW mX4_movesOfNextDay 1 := ⟨tw_65, tw_556, by decide +kernel, by decide +kernel, by decide +kernel, by decide +kernel, by decide⟩
theorem tw_564 : Cond.code yX4_days cX4_days 7 (some .int) ∈ TB := tb_of 564 (by decide +kernel) (by decide +kernel)
theorem cw_X4_days : CW mX4_days 3 := ⟨tw_65, tw_564, by decide +kernel, by decide +kernel, by decide +kernel, by decide +kernel, by decide⟩
theorem tw_568 : Cond.code yX4_trips cX4_trips 5 (some .int) ∈ TB := tb_of 568 (by decide +kernel) (by decide +kernel)
theorem cw_X4_trips : CW mX4_trips 2 := ⟨tw_65, tw_568, by decide +kernel, by decide +kernel, by decide +kernel, by decide +kernel, by decide⟩
theorem tw_572 : Cond.code yX4_takenAheadOf cX4_takenAheadOf 4 (some .int) ∈ TB := tb_of 572 (by decide +kernel) (by decide +kernel)
theorem cw_X4_takenAheadOf : CW mX4_takenAheadOf 1 := ⟨tw_65, tw_572, by decide +kernel, by decide +kernel, by decide +kernel, by decide +kernel, by decide⟩
theorem tw_580 : Cond.code yX4_widthsLeft cX4_widthsLeft 3 (some .int) ∈ TB := tb_of 580 (by decide +kernel) (by decide +kernel)
theorem cw_X4_widthsLeft : CW mX4_widthsLeft 0 := ⟨tw_65, tw_580, by decide +kernel, by decide +kernel, by decide +kernel, by decide +kernel, by decide⟩
theorem tw_584 : Cond.code yX4_rightsLeft cX4_rightsLeft 3 (some .int) ∈ TB := tb_of 584 (by decide +kernel) (by decide +kernel)
theorem cw_X4_rightsLeft : CW mX4_rightsLeft 0 := ⟨tw_65, tw_584, by decide +kernel, by decide +kernel, by decide +kernel, by decide +kernel, by decide⟩
theorem tw_61 : Cond.initialized RX5 ∈ TB := tb_of 61 (by decide +kernel) (by decide +kernel)
theorem tw_304 : Cond.code yX5_add cX5_add 4 (some .int) ∈ TB := tb_of 304 (by decide +kernel) (by decide +kernel)
theorem cw_X5_add : CW mX5_add 2 := ⟨tw_61, tw_304, by decide +kernel, by decide +kernel, by decide +kernel, by decide +kernel, by decide⟩
theorem tw_463 : Cond.code yX5_openLengths cX5_openLengths 3 (some .int) ∈ TB := tb_of 463 (by decide +kernel) (by decide +kernel)
theorem cw_X5_openLengths : CW mX5_openLengths 0 := ⟨tw_61, tw_463, by decide +kernel, by decide +kernel, by decide +kernel, by decide +kernel, by decide⟩
theorem tw_60 : Cond.initialized RX6 ∈ TB := tb_of 60 (by decide +kernel) (by decide +kernel)
theorem tw_293 : Cond.code yX6_shelf cX6_shelf 4 (some .int) ∈ TB := tb_of 293 (by decide +kernel) (by decide +kernel)
theorem cw_X6_shelf : CW mX6_shelf 2 := ⟨tw_60, tw_293, by decide +kernel, by decide +kernel, by decide +kernel, by decide +kernel, by decide⟩
theorem tw_308 : Cond.code yX6_turn cX6_turn 3 (some .boolean) ∈ TB := tb_of 308 (by decide +kernel) (by decide +kernel)
theorem cw_X6_turn : CW mX6_turn 2 := ⟨tw_60, tw_308, by decide +kernel, by decide +kernel, by decide +kernel, by decide +kernel, by decide⟩
theorem tw_316 : Cond.code yX6_group cX6_group 2 (some .int) ∈ TB := tb_of 316 (by decide +kernel) (by decide +kernel)
theorem cw_X6_group : CW mX6_group 1 := ⟨tw_60, tw_316, by decide +kernel, by decide +kernel, by decide +kernel, by decide +kernel, by decide⟩
theorem tw_324 : Cond.code yX6_grow cX6_grow 3 (some .boolean) ∈ TB := tb_of 324 (by decide +kernel) (by decide +kernel)
theorem cw_X6_grow : CW mX6_grow 2 := ⟨tw_60, tw_324, by decide +kernel, by decide +kernel, by decide +kernel, by decide +kernel, by decide⟩
theorem tw_348 : Cond.code yX6_book cX6_book 5 (some .int) ∈ TB := tb_of 348 (by decide +kernel) (by decide +kernel)
theorem cw_X6_book : CW mX6_book 2 := ⟨tw_60, tw_348, by decide +kernel, by decide +kernel, by decide +kernel, by decide +kernel, by decide⟩
theorem tw_435 : Cond.code yX6_gone cX6_gone 4 (some .int) ∈ TB := tb_of 435 (by decide +kernel) (by decide +kernel)
theorem cw_X6_gone : CW mX6_gone 1 := ⟨tw_60, tw_435, by decide +kernel, by decide +kernel, by decide +kernel, by decide +kernel, by decide⟩
theorem tw_451 : Cond.code yX6_limit cX6_limit 2 (some .boolean) ∈ TB := tb_of 451 (by decide +kernel) (by decide +kernel)
theorem cw_X6_limit : CW mX6_limit 1 := ⟨tw_60, tw_451, by decide +kernel, by decide +kernel, by decide +kernel, by decide +kernel, by decide⟩
theorem tw_455 : Cond.code yX6_count cX6_count 2 (some .int) ∈ TB := tb_of 455 (by decide +kernel) (by decide +kernel)
theorem cw_X6_count : CW mX6_count 1 := ⟨tw_60, tw_455, by decide +kernel, by decide +kernel, by decide +kernel, by decide +kernel, by decide⟩
theorem tw_605 : Cond.code yX6_on cX6_on 3 (some .int) ∈ TB := tb_of 605 (by decide +kernel) (by decide +kernel)
theorem cw_X6_on : CW mX6_on 2 := ⟨tw_60, tw_605, by decide +kernel, by decide +kernel, by decide +kernel, by decide +kernel, by decide⟩
theorem tw_687 : Cond.code yX6_in cX6_in 3 (some .int) ∈ TB := tb_of 687 (by decide +kernel) (by decide +kernel)
theorem cw_X6_in : CW mX6_in 2 := ⟨tw_60, tw_687, by decide +kernel, by decide +kernel, by decide +kernel, by decide +kernel, by decide⟩
theorem tw_708 : Cond.code yX6_of cX6_of 3 (some .int) ∈ TB := tb_of 708 (by decide +kernel) (by decide +kernel)
theorem cw_X6_of : CW mX6_of 2 := ⟨tw_60, tw_708, by decide +kernel, by decide +kernel, by decide +kernel, by decide +kernel, by decide⟩
theorem tw_471 : Cond.code yX6_lasts cX6_lasts 3 (some .int) ∈ TB := tb_of 471 (by decide +kernel) (by decide +kernel)
theorem cw_X6_lasts : CW mX6_lasts 0 := ⟨tw_60, tw_471, by decide +kernel, by decide +kernel, by decide +kernel, by decide +kernel, by decide⟩
theorem tw_500 : Cond.code yX6_cut cX6_cut 3 (some .int) ∈ TB := tb_of 500 (by decide +kernel) (by decide +kernel)
theorem cw_X6_cut : CW mX6_cut 2 := ⟨tw_60, tw_500, by decide +kernel, by decide +kernel, by decide +kernel, by decide +kernel, by decide⟩
theorem tw_508 : Cond.code yX6_price cX6_price 3 (some .int) ∈ TB := tb_of 508 (by decide +kernel) (by decide +kernel)
theorem cw_X6_price : CW mX6_price 2 := ⟨tw_60, tw_508, by decide +kernel, by decide +kernel, by decide +kernel, by decide +kernel, by decide⟩
theorem tw_516 : Cond.code yX6_best cX6_best 5 (some .int) ∈ TB := tb_of 516 (by decide +kernel) (by decide +kernel)
theorem cw_X6_best : CW mX6_best 1 := ⟨tw_60, tw_516, by decide +kernel, by decide +kernel, by decide +kernel, by decide +kernel, by decide⟩
theorem tw_532 : Cond.code yX6_tight cX6_tight 2 (some .int) ∈ TB := tb_of 532 (by decide +kernel) (by decide +kernel)
theorem cw_X6_tight : CW mX6_tight 0 := ⟨tw_60, tw_532, by decide +kernel, by decide +kernel, by decide +kernel, by decide +kernel, by decide⟩
theorem tw_536 : Cond.code yX6_more cX6_more 6 (some .int) ∈ TB := tb_of 536 (by decide +kernel) (by decide +kernel)
theorem cw_X6_more : CW mX6_more 2 := ⟨tw_60, tw_536, by decide +kernel, by decide +kernel, by decide +kernel, by decide +kernel, by decide⟩
theorem tw_540 : Cond.code yX6_plan cX6_plan 2 (some .int) ∈ TB := tb_of 540 (by decide +kernel) (by decide +kernel)
theorem cw_X6_plan : CW mX6_plan 1 := ⟨tw_60, tw_540, by decide +kernel, by decide +kernel, by decide +kernel, by decide +kernel, by decide⟩
theorem tw_544 : Cond.code yX6_drop cX6_drop 2 (some .int) ∈ TB := tb_of 544 (by decide +kernel) (by decide +kernel)
theorem cw_X6_drop : CW mX6_drop 0 := ⟨tw_60, tw_544, by decide +kernel, by decide +kernel, by decide +kernel, by decide +kernel, by decide⟩
theorem tw_548 : Cond.code yX6_move cX6_move 1 (some .int) ∈ TB := tb_of 548 (by decide +kernel) (by decide +kernel)
theorem cw_X6_move : CW mX6_move 0 := ⟨tw_60, tw_548, by decide +kernel, by decide +kernel, by decide +kernel, by decide +kernel, by decide⟩
theorem tw_552 : Cond.code yX6_day cX6_day 3 (some .int) ∈ TB := tb_of 552 (by decide +kernel) (by decide +kernel)
theorem cw_X6_day : CW mX6_day 0 := ⟨tw_60, tw_552, by decide +kernel, by decide +kernel, by decide +kernel, by decide +kernel, by decide⟩
theorem tw_560 : Cond.code yX6_planned cX6_planned 3 (some .int) ∈ TB := tb_of 560 (by decide +kernel) (by decide +kernel)
theorem cw_X6_planned : CW mX6_planned 2 := ⟨tw_60, tw_560, by decide +kernel, by decide +kernel, by decide +kernel, by decide +kernel, by decide⟩
theorem tw_576 : Cond.code yX6_left cX6_left 2 (some .int) ∈ TB := tb_of 576 (by decide +kernel) (by decide +kernel)
theorem cw_X6_left : CW mX6_left 1 := ⟨tw_60, tw_576, by decide +kernel, by decide +kernel, by decide +kernel, by decide +kernel, by decide⟩
theorem tw_589 : Cond.code yX6_enough cX6_enough 5 (some .int) ∈ TB := tb_of 589 (by decide +kernel) (by decide +kernel)
theorem cw_X6_enough : CW mX6_enough 1 := ⟨tw_60, tw_589, by decide +kernel, by decide +kernel, by decide +kernel, by decide +kernel, by decide⟩
theorem tw_593 : Cond.code yX6_log cX6_log 3 (some .int) ∈ TB := tb_of 593 (by decide +kernel) (by decide +kernel)
theorem cw_X6_log : CW mX6_log 2 := ⟨tw_60, tw_593, by decide +kernel, by decide +kernel, by decide +kernel, by decide +kernel, by decide⟩
theorem tw_296 : Cond.code yX6_isWithin cX6_isWithin 3 (some .boolean) ∈ TB := tb_of 296 (by decide +kernel) (by decide +kernel)
theorem cw_X6_isWithin : CW mX6_isWithin 3 := ⟨tw_60, tw_296, by decide +kernel, by decide +kernel, by decide +kernel, by decide +kernel, by decide⟩
theorem tw_312 : Cond.code yX6_hasShelf cX6_hasShelf 2 (some .boolean) ∈ TB := tb_of 312 (by decide +kernel) (by decide +kernel)
theorem cw_X6_hasShelf : CW mX6_hasShelf 1 := ⟨tw_60, tw_312, by decide +kernel, by decide +kernel, by decide +kernel, by decide +kernel, by decide⟩
theorem tw_328 : Cond.code yX6_hasGroup cX6_hasGroup 2 (some .boolean) ∈ TB := tb_of 328 (by decide +kernel) (by decide +kernel)
theorem cw_X6_hasGroup : CW mX6_hasGroup 1 := ⟨tw_60, tw_328, by decide +kernel, by decide +kernel, by decide +kernel, by decide +kernel, by decide⟩
theorem tw_439 : Cond.code yX6_hasBook cX6_hasBook 2 (some .boolean) ∈ TB := tb_of 439 (by decide +kernel) (by decide +kernel)
theorem cw_X6_hasBook : CW mX6_hasBook 1 := ⟨tw_60, tw_439, by decide +kernel, by decide +kernel, by decide +kernel, by decide +kernel, by decide⟩
theorem tw_491 : Cond.code yX6_roomOn cX6_roomOn 2 (some .int) ∈ TB := tb_of 491 (by decide +kernel) (by decide +kernel)
theorem cw_X6_roomOn : CW mX6_roomOn 1 := ⟨tw_60, tw_491, by decide +kernel, by decide +kernel, by decide +kernel, by decide +kernel, by decide⟩
theorem tw_483 : Cond.code yX6_yearsOn cX6_yearsOn 3 (some .int) ∈ TB := tb_of 483 (by decide +kernel) (by decide +kernel)
theorem cw_X6_yearsOn : CW mX6_yearsOn 1 := ⟨tw_60, tw_483, by decide +kernel, by decide +kernel, by decide +kernel, by decide +kernel, by decide⟩
theorem tw_504 : Cond.code yX6_hasCuts cX6_hasCuts 2 (some .boolean) ∈ TB := tb_of 504 (by decide +kernel) (by decide +kernel)
theorem cw_X6_hasCuts : CW mX6_hasCuts 1 := ⟨tw_60, tw_504, by decide +kernel, by decide +kernel, by decide +kernel, by decide +kernel, by decide⟩
theorem tw_520 : Cond.code yX6_isRoomFor cX6_isRoomFor 3 (some .boolean) ∈ TB := tb_of 520 (by decide +kernel) (by decide +kernel)
theorem cw_X6_isRoomFor : CW mX6_isRoomFor 2 := ⟨tw_60, tw_520, by decide +kernel, by decide +kernel, by decide +kernel, by decide +kernel, by decide⟩
theorem tw_389 : Cond.code yX6_moveAtOnce cX6_moveAtOnce 3 (none) ∈ TB := tb_of 389 (by decide +kernel) (by decide +kernel)
theorem cw_X6_moveAtOnce : CW mX6_moveAtOnce 0 := ⟨tw_60, tw_389, by decide +kernel, by decide +kernel, by decide +kernel, by decide +kernel, by decide⟩
theorem tw_403 : Cond.code yX6_makeNextMove cX6_makeNextMove 3 (some .int) ∈ TB := tb_of 403 (by decide +kernel) (by decide +kernel)
theorem cw_X6_makeNextMove : CW mX6_makeNextMove 0 := ⟨tw_60, tw_403, by decide +kernel, by decide +kernel, by decide +kernel, by decide +kernel, by decide⟩
theorem tw_67 : Cond.initialized RX7 ∈ TB := tb_of 67 (by decide +kernel) (by decide +kernel)
theorem tw_811 : Cond.code yX7_thrown cX7_thrown 1 (some .int) ∈ TB := tb_of 811 (by decide +kernel) (by decide +kernel)
theorem cw_X7_thrown : CW mX7_thrown 0 := ⟨tw_67, tw_811, by decide +kernel, by decide +kernel, by decide +kernel, by decide +kernel, by decide⟩
theorem tw_818 : Cond.code yX7_isIn cX7_isIn 3 (some .boolean) ∈ TB := tb_of 818 (by decide +kernel) (by decide +kernel)
theorem cw_X7_isIn : CW mX7_isIn 3 := ⟨tw_67, tw_818, by decide +kernel, by decide +kernel, by decide +kernel, by decide +kernel, by decide⟩
theorem tw_826 : Cond.code yX7_isShelf cX7_isShelf 2 (some .boolean) ∈ TB := tb_of 826 (by decide +kernel) (by decide +kernel)
theorem cw_X7_isShelf : CW mX7_isShelf 1 := ⟨tw_67, tw_826, by decide +kernel, by decide +kernel, by decide +kernel, by decide +kernel, by decide⟩
theorem tw_883 : Cond.code yX7_isGroup cX7_isGroup 2 (some .boolean) ∈ TB := tb_of 883 (by decide +kernel) (by decide +kernel)
theorem cw_X7_isGroup : CW mX7_isGroup 1 := ⟨tw_67, tw_883, by decide +kernel, by decide +kernel, by decide +kernel, by decide +kernel, by decide⟩
theorem tw_923 : Cond.code yX7_isBook cX7_isBook 2 (some .boolean) ∈ TB := tb_of 923 (by decide +kernel) (by decide +kernel)
theorem cw_X7_isBook : CW mX7_isBook 1 := ⟨tw_67, tw_923, by decide +kernel, by decide +kernel, by decide +kernel, by decide +kernel, by decide⟩
theorem tw_915 : Cond.code yX7_notes cX7_notes 6 (none) ∈ TB := tb_of 915 (by decide +kernel) (by decide +kernel)
theorem cw_X7_notes : CW mX7_notes 4 := ⟨tw_67, tw_915, by decide +kernel, by decide +kernel, by decide +kernel, by decide +kernel, by decide⟩
theorem tw_815 : Cond.code yX7_log cX7_log 3 (some .int) ∈ TB := tb_of 815 (by decide +kernel) (by decide +kernel)
theorem cw_X7_log : CW mX7_log 2 := ⟨tw_67, tw_815, by decide +kernel, by decide +kernel, by decide +kernel, by decide +kernel, by decide⟩
theorem tw_841 : Cond.code yX7_widthOf cX7_widthOf 4 (some .int) ∈ TB := tb_of 841 (by decide +kernel) (by decide +kernel)
theorem cw_X7_widthOf : CW mX7_widthOf 1 := ⟨tw_67, tw_841, by decide +kernel, by decide +kernel, by decide +kernel, by decide +kernel, by decide⟩
theorem tw_837 : Cond.code yX7_laysNeeds cX7_laysNeeds 6 (none) ∈ TB := tb_of 837 (by decide +kernel) (by decide +kernel)
theorem cw_X7_laysNeeds : CW mX7_laysNeeds 0 := ⟨tw_67, tw_837, by decide +kernel, by decide +kernel, by decide +kernel, by decide +kernel, by decide⟩
theorem tw_1023 : Cond.code yX7_loadOf cX7_loadOf 4 (some .int) ∈ TB := tb_of 1023 (by decide +kernel) (by decide +kernel)
theorem cw_X7_loadOf : CW mX7_loadOf 1 := ⟨tw_67, tw_1023, by decide +kernel, by decide +kernel, by decide +kernel, by decide +kernel, by decide⟩
theorem tw_1027 : Cond.code yX7_rateOf cX7_rateOf 4 (some .int) ∈ TB := tb_of 1027 (by decide +kernel) (by decide +kernel)
theorem cw_X7_rateOf : CW mX7_rateOf 1 := ⟨tw_67, tw_1027, by decide +kernel, by decide +kernel, by decide +kernel, by decide +kernel, by decide⟩
theorem tw_1031 : Cond.code yX7_lastsOf cX7_lastsOf 4 (some .int) ∈ TB := tb_of 1031 (by decide +kernel) (by decide +kernel)
theorem cw_X7_lastsOf : CW mX7_lastsOf 1 := ⟨tw_67, tw_1031, by decide +kernel, by decide +kernel, by decide +kernel, by decide +kernel, by decide⟩
theorem tw_1035 : Cond.code yX7_firstOn cX7_firstOn 3 (some .int) ∈ TB := tb_of 1035 (by decide +kernel) (by decide +kernel)
theorem cw_X7_firstOn : CW mX7_firstOn 1 := ⟨tw_67, tw_1035, by decide +kernel, by decide +kernel, by decide +kernel, by decide +kernel, by decide⟩
theorem tw_1039 : Cond.code yX7_manyOn cX7_manyOn 4 (some .int) ∈ TB := tb_of 1039 (by decide +kernel) (by decide +kernel)
theorem cw_X7_manyOn : CW mX7_manyOn 1 := ⟨tw_67, tw_1039, by decide +kernel, by decide +kernel, by decide +kernel, by decide +kernel, by decide⟩
theorem tw_845 : Cond.code yX7_cell cX7_cell 3 (some .int) ∈ TB := tb_of 845 (by decide +kernel) (by decide +kernel)
theorem cw_X7_cell : CW mX7_cell 2 := ⟨tw_67, tw_845, by decide +kernel, by decide +kernel, by decide +kernel, by decide +kernel, by decide⟩
theorem tw_858 : Cond.code yX7_costOf cX7_costOf 6 (some .int) ∈ TB := tb_of 858 (by decide +kernel) (by decide +kernel)
theorem cw_X7_costOf : CW mX7_costOf 3 := ⟨tw_67, tw_858, by decide +kernel, by decide +kernel, by decide +kernel, by decide +kernel, by decide⟩
theorem tw_854 : Cond.code yX7_mostOn cX7_mostOn 5 (some .int) ∈ TB := tb_of 854 (by decide +kernel) (by decide +kernel)
theorem cw_X7_mostOn : CW mX7_mostOn 2 := ⟨tw_67, tw_854, by decide +kernel, by decide +kernel, by decide +kernel, by decide +kernel, by decide⟩
theorem tw_833 : Cond.code yX7_cuts cX7_cuts 5 (some .boolean) ∈ TB := tb_of 833 (by decide +kernel) (by decide +kernel)
theorem cw_X7_cuts : CW mX7_cuts 1 := ⟨tw_67, tw_833, by decide +kernel, by decide +kernel, by decide +kernel, by decide +kernel, by decide⟩
theorem tw_850 : Cond.code yX7_laysLeast cX7_laysLeast 6 (none) ∈ TB := tb_of 850 (by decide +kernel) (by decide +kernel)
theorem cw_X7_laysLeast : CW mX7_laysLeast 2 := ⟨tw_67, tw_850, by decide +kernel, by decide +kernel, by decide +kernel, by decide +kernel, by decide⟩
theorem tw_829 : Cond.code yX7_isYears cX7_isYears 1 (some .boolean) ∈ TB := tb_of 829 (by decide +kernel) (by decide +kernel)
theorem cw_X7_isYears : CW mX7_isYears 1 := ⟨tw_67, tw_829, by decide +kernel, by decide +kernel, by decide +kernel, by decide +kernel, by decide⟩
theorem tw_822 : Cond.code yX7_cut cX7_cut 3 (some .int) ∈ TB := tb_of 822 (by decide +kernel) (by decide +kernel)
theorem cw_X7_cut : CW mX7_cut 2 := ⟨tw_67, tw_822, by decide +kernel, by decide +kernel, by decide +kernel, by decide +kernel, by decide⟩
theorem tw_863 : Cond.code yX7_price cX7_price 3 (some .int) ∈ TB := tb_of 863 (by decide +kernel) (by decide +kernel)
theorem cw_X7_price : CW mX7_price 2 := ⟨tw_67, tw_863, by decide +kernel, by decide +kernel, by decide +kernel, by decide +kernel, by decide⟩
theorem tw_871 : Cond.code yX7_fits cX7_fits 6 (some .boolean) ∈ TB := tb_of 871 (by decide +kernel) (by decide +kernel)
theorem cw_X7_fits : CW mX7_fits 2 := ⟨tw_67, tw_871, by decide +kernel, by decide +kernel, by decide +kernel, by decide +kernel, by decide⟩
theorem tw_867 : Cond.code yX7_best cX7_best 3 (some .int) ∈ TB := tb_of 867 (by decide +kernel) (by decide +kernel)
theorem cw_X7_best : CW mX7_best 1 := ⟨tw_67, tw_867, by decide +kernel, by decide +kernel, by decide +kernel, by decide +kernel, by decide⟩
theorem tw_875 : Cond.code yX7_tight cX7_tight 5 (some .int) ∈ TB := tb_of 875 (by decide +kernel) (by decide +kernel)
theorem cw_X7_tight : CW mX7_tight 0 := ⟨tw_67, tw_875, by decide +kernel, by decide +kernel, by decide +kernel, by decide +kernel, by decide⟩
theorem tw_895 : Cond.code yX7_opens cX7_opens 3 (none) ∈ TB := tb_of 895 (by decide +kernel) (by decide +kernel)
theorem cw_X7_opens : CW mX7_opens 1 := ⟨tw_67, tw_895, by decide +kernel, by decide +kernel, by decide +kernel, by decide +kernel, by decide⟩
theorem tw_899 : Cond.code yX7_closes cX7_closes 3 (none) ∈ TB := tb_of 899 (by decide +kernel) (by decide +kernel)
theorem cw_X7_closes : CW mX7_closes 1 := ⟨tw_67, tw_899, by decide +kernel, by decide +kernel, by decide +kernel, by decide +kernel, by decide⟩
theorem tw_887 : Cond.code yX7_behind cX7_behind 3 (some .int) ∈ TB := tb_of 887 (by decide +kernel) (by decide +kernel)
theorem cw_X7_behind : CW mX7_behind 1 := ⟨tw_67, tw_887, by decide +kernel, by decide +kernel, by decide +kernel, by decide +kernel, by decide⟩
theorem tw_891 : Cond.code yX7_comes cX7_comes 4 (none) ∈ TB := tb_of 891 (by decide +kernel) (by decide +kernel)
theorem cw_X7_comes : CW mX7_comes 3 := ⟨tw_67, tw_891, by decide +kernel, by decide +kernel, by decide +kernel, by decide +kernel, by decide⟩
theorem tw_903 : Cond.code yX7_laysGoals cX7_laysGoals 4 (none) ∈ TB := tb_of 903 (by decide +kernel) (by decide +kernel)
theorem cw_X7_laysGoals : CW mX7_laysGoals 0 := ⟨tw_67, tw_903, by decide +kernel, by decide +kernel, by decide +kernel, by decide +kernel, by decide⟩
theorem tw_879 : Cond.code yX7_book cX7_book 6 (some .int) ∈ TB := tb_of 879 (by decide +kernel) (by decide +kernel)
theorem cw_X7_book : CW mX7_book 2 := ⟨tw_67, tw_879, by decide +kernel, by decide +kernel, by decide +kernel, by decide +kernel, by decide⟩
theorem tw_919 : Cond.code yX7_gone cX7_gone 3 (some .int) ∈ TB := tb_of 919 (by decide +kernel) (by decide +kernel)
theorem cw_X7_gone : CW mX7_gone 1 := ⟨tw_67, tw_919, by decide +kernel, by decide +kernel, by decide +kernel, by decide +kernel, by decide⟩
theorem tw_927 : Cond.code yX7_more cX7_more 7 (some .int) ∈ TB := tb_of 927 (by decide +kernel) (by decide +kernel)
theorem cw_X7_more : CW mX7_more 2 := ⟨tw_67, tw_927, by decide +kernel, by decide +kernel, by decide +kernel, by decide +kernel, by decide⟩
theorem tw_907 : Cond.code yX7_ends cX7_ends 1 (none) ∈ TB := tb_of 907 (by decide +kernel) (by decide +kernel)
theorem cw_X7_ends : CW mX7_ends 0 := ⟨tw_67, tw_907, by decide +kernel, by decide +kernel, by decide +kernel, by decide +kernel, by decide⟩
theorem tw_911 : Cond.code yX7_moves cX7_moves 3 (none) ∈ TB := tb_of 911 (by decide +kernel) (by decide +kernel)
theorem cw_X7_moves : CW mX7_moves 2 := ⟨tw_67, tw_911, by decide +kernel, by decide +kernel, by decide +kernel, by decide +kernel, by decide⟩
theorem tw_935 : Cond.code yX7_plans cX7_plans 2 (none) ∈ TB := tb_of 935 (by decide +kernel) (by decide +kernel)
theorem cw_X7_plans : CW mX7_plans 1 := ⟨tw_67, tw_935, by decide +kernel, by decide +kernel, by decide +kernel, by decide +kernel, by decide⟩
theorem tw_931 : Cond.code yX7_plan cX7_plan 3 (some .int) ∈ TB := tb_of 931 (by decide +kernel) (by decide +kernel)
theorem cw_X7_plan : CW mX7_plan 1 := ⟨tw_67, tw_931, by decide +kernel, by decide +kernel, by decide +kernel, by decide +kernel, by decide⟩
theorem tw_939 : Cond.code yX7_drop cX7_drop 1 (some .int) ∈ TB := tb_of 939 (by decide +kernel) (by decide +kernel)
theorem cw_X7_drop : CW mX7_drop 0 := ⟨tw_67, tw_939, by decide +kernel, by decide +kernel, by decide +kernel, by decide +kernel, by decide⟩
theorem tw_947 : Cond.code yX7_goesOn cX7_goesOn 2 (some .int) ∈ TB := tb_of 947 (by decide +kernel) (by decide +kernel)
theorem cw_X7_goesOn : CW mX7_goesOn 0 := ⟨tw_67, tw_947, by decide +kernel, by decide +kernel, by decide +kernel, by decide +kernel, by decide⟩
theorem tw_943 : Cond.code yX7_move cX7_move 1 (some .int) ∈ TB := tb_of 943 (by decide +kernel) (by decide +kernel)
theorem cw_X7_move : CW mX7_move 0 := ⟨tw_67, tw_943, by decide +kernel, by decide +kernel, by decide +kernel, by decide +kernel, by decide⟩
theorem tw_951 : Cond.code yX7_day cX7_day 4 (some .int) ∈ TB := tb_of 951 (by decide +kernel) (by decide +kernel)
theorem cw_X7_day : CW mX7_day 0 := ⟨tw_67, tw_951, by decide +kernel, by decide +kernel, by decide +kernel, by decide +kernel, by decide⟩
theorem tw_959 : Cond.code yX7_dayOf cX7_dayOf 8 (some .int) ∈ TB := tb_of 959 (by decide +kernel) (by decide +kernel)
theorem cw_X7_dayOf : CW mX7_dayOf 3 := ⟨tw_67, tw_959, by decide +kernel, by decide +kernel, by decide +kernel, by decide +kernel, by decide⟩
theorem tw_963 : Cond.code yX7_tripOf cX7_tripOf 5 (some .int) ∈ TB := tb_of 963 (by decide +kernel) (by decide +kernel)
theorem cw_X7_tripOf : CW mX7_tripOf 2 := ⟨tw_67, tw_963, by decide +kernel, by decide +kernel, by decide +kernel, by decide +kernel, by decide⟩
theorem tw_967 : Cond.code yX7_taken cX7_taken 4 (some .int) ∈ TB := tb_of 967 (by decide +kernel) (by decide +kernel)
theorem cw_X7_taken : CW mX7_taken 1 := ⟨tw_67, tw_967, by decide +kernel, by decide +kernel, by decide +kernel, by decide +kernel, by decide⟩
theorem tw_955 : Cond.code yX7_planned cX7_planned 3 (some .int) ∈ TB := tb_of 955 (by decide +kernel) (by decide +kernel)
theorem cw_X7_planned : CW mX7_planned 2 := ⟨tw_67, tw_955, by decide +kernel, by decide +kernel, by decide +kernel, by decide +kernel, by decide⟩
theorem tw_975 : Cond.code yX7_leftWidths cX7_leftWidths 3 (some .int) ∈ TB := tb_of 975 (by decide +kernel) (by decide +kernel)
theorem cw_X7_leftWidths : CW mX7_leftWidths 0 := ⟨tw_67, tw_975, by decide +kernel, by decide +kernel, by decide +kernel, by decide +kernel, by decide⟩
theorem tw_979 : Cond.code yX7_leftRight cX7_leftRight 3 (some .int) ∈ TB := tb_of 979 (by decide +kernel) (by decide +kernel)
theorem cw_X7_leftRight : CW mX7_leftRight 0 := ⟨tw_67, tw_979, by decide +kernel, by decide +kernel, by decide +kernel, by decide +kernel, by decide⟩
theorem tw_971 : Cond.code yX7_left cX7_left 2 (some .int) ∈ TB := tb_of 971 (by decide +kernel) (by decide +kernel)
theorem cw_X7_left : CW mX7_left 1 := ⟨tw_67, tw_971, by decide +kernel, by decide +kernel, by decide +kernel, by decide +kernel, by decide⟩
theorem tw_983 : Cond.code yX7_enough cX7_enough 3 (some .int) ∈ TB := tb_of 983 (by decide +kernel) (by decide +kernel)
theorem cw_X7_enough : CW mX7_enough 1 := ⟨tw_67, tw_983, by decide +kernel, by decide +kernel, by decide +kernel, by decide +kernel, by decide⟩
theorem tw_987 : Cond.code yX7_shelf cX7_shelf 3 (some .int) ∈ TB := tb_of 987 (by decide +kernel) (by decide +kernel)
theorem cw_X7_shelf : CW mX7_shelf 2 := ⟨tw_67, tw_987, by decide +kernel, by decide +kernel, by decide +kernel, by decide +kernel, by decide⟩
theorem tw_991 : Cond.code yX7_turn cX7_turn 3 (some .boolean) ∈ TB := tb_of 991 (by decide +kernel) (by decide +kernel)
theorem cw_X7_turn : CW mX7_turn 2 := ⟨tw_67, tw_991, by decide +kernel, by decide +kernel, by decide +kernel, by decide +kernel, by decide⟩
theorem tw_995 : Cond.code yX7_group cX7_group 2 (some .int) ∈ TB := tb_of 995 (by decide +kernel) (by decide +kernel)
theorem cw_X7_group : CW mX7_group 1 := ⟨tw_67, tw_995, by decide +kernel, by decide +kernel, by decide +kernel, by decide +kernel, by decide⟩
theorem tw_999 : Cond.code yX7_grow cX7_grow 3 (some .boolean) ∈ TB := tb_of 999 (by decide +kernel) (by decide +kernel)
theorem cw_X7_grow : CW mX7_grow 2 := ⟨tw_67, tw_999, by decide +kernel, by decide +kernel, by decide +kernel, by decide +kernel, by decide⟩
theorem tw_1003 : Cond.code yX7_limit cX7_limit 2 (some .boolean) ∈ TB := tb_of 1003 (by decide +kernel) (by decide +kernel)
theorem cw_X7_limit : CW mX7_limit 1 := ⟨tw_67, tw_1003, by decide +kernel, by decide +kernel, by decide +kernel, by decide +kernel, by decide⟩
theorem tw_1011 : Cond.code yX7_allWidths cX7_allWidths 3 (some .int) ∈ TB := tb_of 1011 (by decide +kernel) (by decide +kernel)
theorem cw_X7_allWidths : CW mX7_allWidths 0 := ⟨tw_67, tw_1011, by decide +kernel, by decide +kernel, by decide +kernel, by decide +kernel, by decide⟩
theorem tw_1015 : Cond.code yX7_openLengths cX7_openLengths 3 (some .int) ∈ TB := tb_of 1015 (by decide +kernel) (by decide +kernel)
theorem cw_X7_openLengths : CW mX7_openLengths 0 := ⟨tw_67, tw_1015, by decide +kernel, by decide +kernel, by decide +kernel, by decide +kernel, by decide⟩
theorem tw_1007 : Cond.code yX7_count cX7_count 2 (some .int) ∈ TB := tb_of 1007 (by decide +kernel) (by decide +kernel)
theorem cw_X7_count : CW mX7_count 1 := ⟨tw_67, tw_1007, by decide +kernel, by decide +kernel, by decide +kernel, by decide +kernel, by decide⟩
theorem tw_1019 : Cond.code yX7_on cX7_on 3 (some .int) ∈ TB := tb_of 1019 (by decide +kernel) (by decide +kernel)
theorem cw_X7_on : CW mX7_on 2 := ⟨tw_67, tw_1019, by decide +kernel, by decide +kernel, by decide +kernel, by decide +kernel, by decide⟩
theorem tw_1047 : Cond.code yX7_booksOf cX7_booksOf 4 (some .int) ∈ TB := tb_of 1047 (by decide +kernel) (by decide +kernel)
theorem cw_X7_booksOf : CW mX7_booksOf 1 := ⟨tw_67, tw_1047, by decide +kernel, by decide +kernel, by decide +kernel, by decide +kernel, by decide⟩
theorem tw_1051 : Cond.code yX7_firstOf cX7_firstOf 3 (some .int) ∈ TB := tb_of 1051 (by decide +kernel) (by decide +kernel)
theorem cw_X7_firstOf : CW mX7_firstOf 1 := ⟨tw_67, tw_1051, by decide +kernel, by decide +kernel, by decide +kernel, by decide +kernel, by decide⟩
theorem tw_1055 : Cond.code yX7_shelvesOf cX7_shelvesOf 5 (some .int) ∈ TB := tb_of 1055 (by decide +kernel) (by decide +kernel)
theorem cw_X7_shelvesOf : CW mX7_shelvesOf 1 := ⟨tw_67, tw_1055, by decide +kernel, by decide +kernel, by decide +kernel, by decide +kernel, by decide⟩
theorem tw_1043 : Cond.code yX7_in cX7_in 3 (some .int) ∈ TB := tb_of 1043 (by decide +kernel) (by decide +kernel)
theorem cw_X7_in : CW mX7_in 2 := ⟨tw_67, tw_1043, by decide +kernel, by decide +kernel, by decide +kernel, by decide +kernel, by decide⟩
theorem tw_1063 : Cond.code yX7_needOf cX7_needOf 2 (some .int) ∈ TB := tb_of 1063 (by decide +kernel) (by decide +kernel)
theorem cw_X7_needOf : CW mX7_needOf 1 := ⟨tw_67, tw_1063, by decide +kernel, by decide +kernel, by decide +kernel, by decide +kernel, by decide⟩
theorem tw_1067 : Cond.code yX7_ahead cX7_ahead 4 (some .int) ∈ TB := tb_of 1067 (by decide +kernel) (by decide +kernel)
theorem cw_X7_ahead : CW mX7_ahead 1 := ⟨tw_67, tw_1067, by decide +kernel, by decide +kernel, by decide +kernel, by decide +kernel, by decide⟩
theorem tw_1059 : Cond.code yX7_of cX7_of 3 (some .int) ∈ TB := tb_of 1059 (by decide +kernel) (by decide +kernel)
theorem cw_X7_of : CW mX7_of 2 := ⟨tw_67, tw_1059, by decide +kernel, by decide +kernel, by decide +kernel, by decide +kernel, by decide⟩
theorem tw_1071 : Cond.code yX7_lasts cX7_lasts 3 (some .int) ∈ TB := tb_of 1071 (by decide +kernel) (by decide +kernel)
theorem cw_X7_lasts : CW mX7_lasts 0 := ⟨tw_67, tw_1071, by decide +kernel, by decide +kernel, by decide +kernel, by decide +kernel, by decide⟩
theorem tw_142 : Cond.fieldLink RX0 30 "ShelfShift$Books" "count" "I" ∈ TB := tb_of 142 (by decide +kernel) (by decide +kernel)
theorem gf_X0_30 {M : MI} {d pc : Nat} {Q : Int → St → Prop} {ls : List (Option PV)} {st : List PV} {σ : St} (hM : M.1.cls = RX0) (hd : decode M.2.1 pc = .ok (.getfield 30, 3)) (h : Wp M d Q (pc + 3) ls (.inl (σ 0 6) :: st) σ) : Wp M d Q pc ls (.inr 0 :: st) σ := w_get (k := 0) (j := 6) (v := .inl (σ 0 6)) rfl inTB0 rfl (by decide) (by rw [hM]; exact tw_142) (fun _ => rfl) hd h
theorem tw_126 : Cond.fieldLink RX0 9 "ShelfShift$Books" "group" "[I" ∈ TB := tb_of 126 (by decide +kernel) (by decide +kernel)
theorem gf_X0_9 {M : MI} {d pc : Nat} {Q : Int → St → Prop} {ls : List (Option PV)} {st : List PV} {σ : St} (hM : M.1.cls = RX0) (hd : decode M.2.1 pc = .ok (.getfield 9, 3)) (h : Wp M d Q (pc + 3) ls (.inr 8 :: st) σ) : Wp M d Q pc ls (.inr 0 :: st) σ := w_get (k := 0) (j := 0) (v := .inr 8) rfl inTB0 rfl (by decide) (by rw [hM]; exact tw_126) (fun _ => rfl) hd h
theorem tw_427 : Cond.methodLink RX0 34 yX0_openGap ∈ TB := tb_of 427 (by decide +kernel) (by decide +kernel)
theorem tw_429 : Cond.instanceMethod yX0_openGap ∈ TB := tb_of 429 (by decide +kernel) (by decide +kernel)
theorem tw_10 : Cond.selects RX0 yX0_openGap yX0_openGap ∈ TB := tb_of 10 (by decide +kernel) (by decide +kernel)
theorem cv_X0_34 {M : MI} {d pc : Nat} {Q : Int → St → Prop} {ls : List (Option PV)} {st : List PV} {σ : St} {d' : Nat} {a1 a2 : PV} (hM : M.1.cls = RX0) (hd : decode M.2.1 pc = .ok (.invokevirtual 34, 3)) (hdd : d' < d) (hst : st.length ≤ 8) (h : Wp mX0_openGap d' (fun z τ => Wp M d Q (pc + 3) ls (st) τ) 0 [some (.inr 0), some a1, some a2] [] σ) : Wp M d Q pc ls (a2 :: a1 :: .inr 0 :: st) σ := w_cv (M' := mX0_openGap) (k := 0) (vs := [a1, a2]) hd (by rw [hM]; exact tw_427) tw_429 tw_10 cw_X0_openGap rfl rfl rfl (Nat.le_of_ble_eq_true rfl) hdd hst h
theorem tw_128 : Cond.fieldLink RX0 15 "ShelfShift$Books" "width" "[I" ∈ TB := tb_of 128 (by decide +kernel) (by decide +kernel)
theorem gf_X0_15 {M : MI} {d pc : Nat} {Q : Int → St → Prop} {ls : List (Option PV)} {st : List PV} {σ : St} (hM : M.1.cls = RX0) (hd : decode M.2.1 pc = .ok (.getfield 15, 3)) (h : Wp M d Q (pc + 3) ls (.inr 9 :: st) σ) : Wp M d Q pc ls (.inr 0 :: st) σ := w_get (k := 0) (j := 1) (v := .inr 9) rfl inTB0 rfl (by decide) (by rw [hM]; exact tw_128) (fun _ => rfl) hd h
theorem tw_132 : Cond.fieldLink RX0 18 "ShelfShift$Books" "need" "[I" ∈ TB := tb_of 132 (by decide +kernel) (by decide +kernel)
theorem gf_X0_18 {M : MI} {d pc : Nat} {Q : Int → St → Prop} {ls : List (Option PV)} {st : List PV} {σ : St} (hM : M.1.cls = RX0) (hd : decode M.2.1 pc = .ok (.getfield 18, 3)) (h : Wp M d Q (pc + 3) ls (.inr 10 :: st) σ) : Wp M d Q pc ls (.inr 0 :: st) σ := w_get (k := 0) (j := 2) (v := .inr 10) rfl inTB0 rfl (by decide) (by rw [hM]; exact tw_132) (fun _ => rfl) hd h
theorem tw_135 : Cond.fieldLink RX0 21 "ShelfShift$Books" "shelf" "[I" ∈ TB := tb_of 135 (by decide +kernel) (by decide +kernel)
theorem gf_X0_21 {M : MI} {d pc : Nat} {Q : Int → St → Prop} {ls : List (Option PV)} {st : List PV} {σ : St} (hM : M.1.cls = RX0) (hd : decode M.2.1 pc = .ok (.getfield 21, 3)) (h : Wp M d Q (pc + 3) ls (.inr 11 :: st) σ) : Wp M d Q pc ls (.inr 0 :: st) σ := w_get (k := 0) (j := 3) (v := .inr 11) rfl inTB0 rfl (by decide) (by rw [hM]; exact tw_135) (fun _ => rfl) hd h
theorem tw_139 : Cond.fieldLink RX0 24 "ShelfShift$Books" "handled" "[I" ∈ TB := tb_of 139 (by decide +kernel) (by decide +kernel)
theorem gf_X0_24 {M : MI} {d pc : Nat} {Q : Int → St → Prop} {ls : List (Option PV)} {st : List PV} {σ : St} (hM : M.1.cls = RX0) (hd : decode M.2.1 pc = .ok (.getfield 24, 3)) (h : Wp M d Q (pc + 3) ls (.inr 12 :: st) σ) : Wp M d Q pc ls (.inr 0 :: st) σ := w_get (k := 0) (j := 4) (v := .inr 12) rfl inTB0 rfl (by decide) (by rw [hM]; exact tw_139) (fun _ => rfl) hd h
theorem pf_X0_30 {M : MI} {d pc : Nat} {Q : Int → St → Prop} {ls : List (Option PV)} {st : List PV} {σ : St} {z : Int} (hM : M.1.cls = RX0) (hz : InR z) (hd : decode M.2.1 pc = .ok (.putfield 30, 3)) (h : Wp M d Q (pc + 3) ls st (put σ 0 6 z)) : Wp M d Q pc ls (.inl z :: .inr 0 :: st) σ := w_put (k := 0) (j := 6) (ty := .int) rfl inTB0 tyX0 tyX0_ok nmX0 rfl (by decide) rfl rfl (by rw [hM]; exact tw_142) (by decide +kernel) rfl rfl hz hd h
theorem tw_431 : Cond.methodLink RX0 38 arraycopyName ∈ TB := tb_of 431 (by decide +kernel) (by decide +kernel)
theorem tw_363 : Cond.native arraycopyName ∈ TB := tb_of 363 (by decide +kernel) (by decide +kernel)
theorem tw_362 : Cond.static arraycopyName ∈ TB := tb_of 362 (by decide +kernel) (by decide +kernel)
theorem tw_68 : Cond.initialized "java/lang/System" ∈ TB := tb_of 68 (by decide +kernel) (by decide +kernel)
theorem tw_444 : Cond.methodLink RX0 44 yX0_closeGap ∈ TB := tb_of 444 (by decide +kernel) (by decide +kernel)
theorem tw_446 : Cond.instanceMethod yX0_closeGap ∈ TB := tb_of 446 (by decide +kernel) (by decide +kernel)
theorem tw_12 : Cond.selects RX0 yX0_closeGap yX0_closeGap ∈ TB := tb_of 12 (by decide +kernel) (by decide +kernel)
theorem cv_X0_44 {M : MI} {d pc : Nat} {Q : Int → St → Prop} {ls : List (Option PV)} {st : List PV} {σ : St} {d' : Nat} {a1 a2 : PV} (hM : M.1.cls = RX0) (hd : decode M.2.1 pc = .ok (.invokevirtual 44, 3)) (hdd : d' < d) (hst : st.length ≤ 8) (h : Wp mX0_closeGap d' (fun z τ => Wp M d Q (pc + 3) ls (st) τ) 0 [some (.inr 0), some a1, some a2] [] σ) : Wp M d Q pc ls (a2 :: a1 :: .inr 0 :: st) σ := w_cv (M' := mX0_closeGap) (k := 0) (vs := [a1, a2]) hd (by rw [hM]; exact tw_444) tw_446 tw_12 cw_X0_closeGap rfl rfl rfl (Nat.le_of_ble_eq_true rfl) hdd hst h
theorem tw_146 : Cond.fieldLink RX0 47 "ShelfShift$Books" "handledInAll" "I" ∈ TB := tb_of 146 (by decide +kernel) (by decide +kernel)
theorem gf_X0_47 {M : MI} {d pc : Nat} {Q : Int → St → Prop} {ls : List (Option PV)} {st : List PV} {σ : St} (hM : M.1.cls = RX0) (hd : decode M.2.1 pc = .ok (.getfield 47, 3)) (h : Wp M d Q (pc + 3) ls (.inl (σ 0 7) :: st) σ) : Wp M d Q pc ls (.inr 0 :: st) σ := w_get (k := 0) (j := 7) (v := .inl (σ 0 7)) rfl inTB0 rfl (by decide) (by rw [hM]; exact tw_146) (fun _ => rfl) hd h
theorem pf_X0_47 {M : MI} {d pc : Nat} {Q : Int → St → Prop} {ls : List (Option PV)} {st : List PV} {σ : St} {z : Int} (hM : M.1.cls = RX0) (hz : InR z) (hd : decode M.2.1 pc = .ok (.putfield 47, 3)) (h : Wp M d Q (pc + 3) ls st (put σ 0 7 z)) : Wp M d Q pc ls (.inl z :: .inr 0 :: st) σ := w_put (k := 0) (j := 7) (ty := .int) rfl inTB0 tyX0 tyX0_ok nmX0 rfl (by decide) rfl rfl (by rw [hM]; exact tw_146) (by decide +kernel) rfl rfl hz hd h
theorem tw_333 : Cond.methodLink RX0 50 yX0_widthsIn ∈ TB := tb_of 333 (by decide +kernel) (by decide +kernel)
theorem tw_334 : Cond.instanceMethod yX0_widthsIn ∈ TB := tb_of 334 (by decide +kernel) (by decide +kernel)
theorem tw_335 : Cond.selects RX0 yX0_widthsIn yX0_widthsIn ∈ TB := tb_of 335 (by decide +kernel) (by decide +kernel)
theorem cv_X0_50 {M : MI} {d pc : Nat} {Q : Int → St → Prop} {ls : List (Option PV)} {st : List PV} {σ : St} {d' : Nat} {a1 : PV} (hM : M.1.cls = RX0) (hd : decode M.2.1 pc = .ok (.invokevirtual 50, 3)) (hdd : d' < d) (hst : st.length ≤ 8) (h : Wp mX0_widthsIn d' (fun z τ => Wp M d Q (pc + 3) ls (.inl z :: st) τ) 0 [some (.inr 0), some a1] [] σ) : Wp M d Q pc ls (a1 :: .inr 0 :: st) σ := w_cv (M' := mX0_widthsIn) (k := 0) (vs := [a1]) hd (by rw [hM]; exact tw_333) tw_334 tw_335 cw_X0_widthsIn rfl rfl rfl (Nat.le_of_ble_eq_true rfl) hdd hst h
theorem tw_141 : Cond.fieldLink RX0 27 "ShelfShift$Books" "lost" "[I" ∈ TB := tb_of 141 (by decide +kernel) (by decide +kernel)
theorem gf_X0_27 {M : MI} {d pc : Nat} {Q : Int → St → Prop} {ls : List (Option PV)} {st : List PV} {σ : St} (hM : M.1.cls = RX0) (hd : decode M.2.1 pc = .ok (.getfield 27, 3)) (h : Wp M d Q (pc + 3) ls (.inr 13 :: st) σ) : Wp M d Q pc ls (.inr 0 :: st) σ := w_get (k := 0) (j := 5) (v := .inr 13) rfl inTB0 rfl (by decide) (by rw [hM]; exact tw_141) (fun _ => rfl) hd h
theorem tw_341 : Cond.methodLink RX0 54 yX0_giveOneMore ∈ TB := tb_of 341 (by decide +kernel) (by decide +kernel)
theorem tw_343 : Cond.instanceMethod yX0_giveOneMore ∈ TB := tb_of 343 (by decide +kernel) (by decide +kernel)
theorem tw_3 : Cond.selects RX0 yX0_giveOneMore yX0_giveOneMore ∈ TB := tb_of 3 (by decide +kernel) (by decide +kernel)
theorem cv_X0_54 {M : MI} {d pc : Nat} {Q : Int → St → Prop} {ls : List (Option PV)} {st : List PV} {σ : St} {d' : Nat} {a1 : PV} (hM : M.1.cls = RX0) (hd : decode M.2.1 pc = .ok (.invokevirtual 54, 3)) (hdd : d' < d) (hst : st.length ≤ 8) (h : Wp mX0_giveOneMore d' (fun z τ => Wp M d Q (pc + 3) ls (.inl z :: st) τ) 0 [some (.inr 0), some a1, none, none] [] σ) : Wp M d Q pc ls (a1 :: .inr 0 :: st) σ := w_cv (M' := mX0_giveOneMore) (k := 0) (vs := [a1]) hd (by rw [hM]; exact tw_341) tw_343 tw_3 cw_X0_giveOneMore rfl rfl rfl (Nat.le_of_ble_eq_true rfl) hdd hst h
theorem tw_337 : Cond.methodLink RX0 57 yX0_sumWith ∈ TB := tb_of 337 (by decide +kernel) (by decide +kernel)
theorem tw_339 : Cond.instanceMethod yX0_sumWith ∈ TB := tb_of 339 (by decide +kernel) (by decide +kernel)
theorem tw_2 : Cond.selects RX0 yX0_sumWith yX0_sumWith ∈ TB := tb_of 2 (by decide +kernel) (by decide +kernel)
theorem cv_X0_57 {M : MI} {d pc : Nat} {Q : Int → St → Prop} {ls : List (Option PV)} {st : List PV} {σ : St} {d' : Nat} {a1 a2 a3 : PV} (hM : M.1.cls = RX0) (hd : decode M.2.1 pc = .ok (.invokevirtual 57, 3)) (hdd : d' < d) (hst : st.length ≤ 8) (h : Wp mX0_sumWith d' (fun z τ => Wp M d Q (pc + 3) ls (.inl z :: st) τ) 0 [some (.inr 0), some a1, some a2, some a3, none, none] [] σ) : Wp M d Q pc ls (a3 :: a2 :: a1 :: .inr 0 :: st) σ := w_cv (M' := mX0_sumWith) (k := 0) (vs := [a1, a2, a3]) hd (by rw [hM]; exact tw_337) tw_339 tw_2 cw_X0_sumWith rfl rfl rfl (Nat.le_of_ble_eq_true rfl) hdd hst h
theorem tw_676 : Cond.methodLink RX0 61 yX0_firstWith ∈ TB := tb_of 676 (by decide +kernel) (by decide +kernel)
theorem tw_678 : Cond.instanceMethod yX0_firstWith ∈ TB := tb_of 678 (by decide +kernel) (by decide +kernel)
theorem tw_20 : Cond.selects RX0 yX0_firstWith yX0_firstWith ∈ TB := tb_of 20 (by decide +kernel) (by decide +kernel)
theorem cv_X0_61 {M : MI} {d pc : Nat} {Q : Int → St → Prop} {ls : List (Option PV)} {st : List PV} {σ : St} {d' : Nat} {a1 a2 : PV} (hM : M.1.cls = RX0) (hd : decode M.2.1 pc = .ok (.invokevirtual 61, 3)) (hdd : d' < d) (hst : st.length ≤ 8) (h : Wp mX0_firstWith d' (fun z τ => Wp M d Q (pc + 3) ls (.inl z :: st) τ) 0 [some (.inr 0), some a1, some a2, none] [] σ) : Wp M d Q pc ls (a2 :: a1 :: .inr 0 :: st) σ := w_cv (M' := mX0_firstWith) (k := 0) (vs := [a1, a2]) hd (by rw [hM]; exact tw_676) tw_678 tw_20 cw_X0_firstWith rfl rfl rfl (Nat.le_of_ble_eq_true rfl) hdd hst h
theorem tw_476 : Cond.methodLink RX0 65 yX0_countWith ∈ TB := tb_of 476 (by decide +kernel) (by decide +kernel)
theorem tw_478 : Cond.instanceMethod yX0_countWith ∈ TB := tb_of 478 (by decide +kernel) (by decide +kernel)
theorem tw_13 : Cond.selects RX0 yX0_countWith yX0_countWith ∈ TB := tb_of 13 (by decide +kernel) (by decide +kernel)
theorem cv_X0_65 {M : MI} {d pc : Nat} {Q : Int → St → Prop} {ls : List (Option PV)} {st : List PV} {σ : St} {d' : Nat} {a1 a2 : PV} (hM : M.1.cls = RX0) (hd : decode M.2.1 pc = .ok (.invokevirtual 65, 3)) (hdd : d' < d) (hst : st.length ≤ 8) (h : Wp mX0_countWith d' (fun z τ => Wp M d Q (pc + 3) ls (.inl z :: st) τ) 0 [some (.inr 0), some a1, some a2, none, none] [] σ) : Wp M d Q pc ls (a2 :: a1 :: .inr 0 :: st) σ := w_cv (M' := mX0_countWith) (k := 0) (vs := [a1, a2]) hd (by rw [hM]; exact tw_476) tw_478 tw_13 cw_X0_countWith rfl rfl rfl (Nat.le_of_ble_eq_true rfl) hdd hst h
theorem tw_95 : Cond.fieldLink RX1 41 "ShelfShift$Shelves" "count" "I" ∈ TB := tb_of 95 (by decide +kernel) (by decide +kernel)
theorem gf_X1_41 {M : MI} {d pc : Nat} {Q : Int → St → Prop} {ls : List (Option PV)} {st : List PV} {σ : St} (hM : M.1.cls = RX1) (hd : decode M.2.1 pc = .ok (.getfield 41, 3)) (h : Wp M d Q (pc + 3) ls (.inl (σ 5 2) :: st) σ) : Wp M d Q pc ls (.inr 5 :: st) σ := w_get (k := 5) (j := 2) (v := .inl (σ 5 2)) rfl inTB5 rfl (by decide) (by rw [hM]; exact tw_95) (fun _ => rfl) hd h
theorem tw_184 : Cond.fieldLink RX1 47 "ShelfShift$Cutter" "shelfCount" "I" ∈ TB := tb_of 184 (by decide +kernel) (by decide +kernel)
theorem pf_X1_47 {M : MI} {d pc : Nat} {Q : Int → St → Prop} {ls : List (Option PV)} {st : List PV} {σ : St} {z : Int} (hM : M.1.cls = RX1) (hz : InR z) (hd : decode M.2.1 pc = .ok (.putfield 47, 3)) (h : Wp M d Q (pc + 3) ls st (put σ 1 9 z)) : Wp M d Q pc ls (.inl z :: .inr 1 :: st) σ := w_put (k := 1) (j := 9) (ty := .int) rfl inTB1 tyX1 tyX1_ok nmX1 rfl (by decide) rfl rfl (by rw [hM]; exact tw_184) (by decide +kernel) rfl rfl hz hd h
theorem gf_X1_47 {M : MI} {d pc : Nat} {Q : Int → St → Prop} {ls : List (Option PV)} {st : List PV} {σ : St} (hM : M.1.cls = RX1) (hd : decode M.2.1 pc = .ok (.getfield 47, 3)) (h : Wp M d Q (pc + 3) ls (.inl (σ 1 9) :: st) σ) : Wp M d Q pc ls (.inr 1 :: st) σ := w_get (k := 1) (j := 9) (v := .inl (σ 1 9)) rfl inTB1 rfl (by decide) (by rw [hM]; exact tw_184) (fun _ => rfl) hd h
theorem tw_177 : Cond.fieldLink RX1 18 "ShelfShift$Cutter" "length" "[I" ∈ TB := tb_of 177 (by decide +kernel) (by decide +kernel)
theorem gf_X1_18 {M : MI} {d pc : Nat} {Q : Int → St → Prop} {ls : List (Option PV)} {st : List PV} {σ : St} (hM : M.1.cls = RX1) (hd : decode M.2.1 pc = .ok (.getfield 18, 3)) (h : Wp M d Q (pc + 3) ls (.inr 16 :: st) σ) : Wp M d Q pc ls (.inr 1 :: st) σ := w_get (k := 1) (j := 2) (v := .inr 16) rfl inTB1 rfl (by decide) (by rw [hM]; exact tw_177) (fun _ => rfl) hd h
theorem tw_89 : Cond.fieldLink RX1 50 "ShelfShift$Shelves" "length" "[I" ∈ TB := tb_of 89 (by decide +kernel) (by decide +kernel)
theorem gf_X1_50 {M : MI} {d pc : Nat} {Q : Int → St → Prop} {ls : List (Option PV)} {st : List PV} {σ : St} (hM : M.1.cls = RX1) (hd : decode M.2.1 pc = .ok (.getfield 50, 3)) (h : Wp M d Q (pc + 3) ls (.inr 55 :: st) σ) : Wp M d Q pc ls (.inr 5 :: st) σ := w_get (k := 5) (j := 0) (v := .inr 55) rfl inTB5 rfl (by decide) (by rw [hM]; exact tw_89) (fun _ => rfl) hd h
theorem tw_178 : Cond.fieldLink RX1 21 "ShelfShift$Cutter" "kind" "[I" ∈ TB := tb_of 178 (by decide +kernel) (by decide +kernel)
theorem gf_X1_21 {M : MI} {d pc : Nat} {Q : Int → St → Prop} {ls : List (Option PV)} {st : List PV} {σ : St} (hM : M.1.cls = RX1) (hd : decode M.2.1 pc = .ok (.getfield 21, 3)) (h : Wp M d Q (pc + 3) ls (.inr 17 :: st) σ) : Wp M d Q pc ls (.inr 1 :: st) σ := w_get (k := 1) (j := 3) (v := .inr 17) rfl inTB1 rfl (by decide) (by rw [hM]; exact tw_178) (fun _ => rfl) hd h
theorem tw_92 : Cond.fieldLink RX1 51 "ShelfShift$Shelves" "kind" "[I" ∈ TB := tb_of 92 (by decide +kernel) (by decide +kernel)
theorem gf_X1_51 {M : MI} {d pc : Nat} {Q : Int → St → Prop} {ls : List (Option PV)} {st : List PV} {σ : St} (hM : M.1.cls = RX1) (hd : decode M.2.1 pc = .ok (.getfield 51, 3)) (h : Wp M d Q (pc + 3) ls (.inr 56 :: st) σ) : Wp M d Q pc ls (.inr 5 :: st) σ := w_get (k := 5) (j := 1) (v := .inr 56) rfl inTB5 rfl (by decide) (by rw [hM]; exact tw_92) (fun _ => rfl) hd h
theorem tw_143 : Cond.fieldLink RX1 52 "ShelfShift$Books" "count" "I" ∈ TB := tb_of 143 (by decide +kernel) (by decide +kernel)
theorem gf_X1_52 {M : MI} {d pc : Nat} {Q : Int → St → Prop} {ls : List (Option PV)} {st : List PV} {σ : St} (hM : M.1.cls = RX1) (hd : decode M.2.1 pc = .ok (.getfield 52, 3)) (h : Wp M d Q (pc + 3) ls (.inl (σ 0 6) :: st) σ) : Wp M d Q pc ls (.inr 0 :: st) σ := w_get (k := 0) (j := 6) (v := .inl (σ 0 6)) rfl inTB0 rfl (by decide) (by rw [hM]; exact tw_143) (fun _ => rfl) hd h
theorem tw_185 : Cond.fieldLink RX1 55 "ShelfShift$Cutter" "count" "I" ∈ TB := tb_of 185 (by decide +kernel) (by decide +kernel)
theorem pf_X1_55 {M : MI} {d pc : Nat} {Q : Int → St → Prop} {ls : List (Option PV)} {st : List PV} {σ : St} {z : Int} (hM : M.1.cls = RX1) (hz : InR z) (hd : decode M.2.1 pc = .ok (.putfield 55, 3)) (h : Wp M d Q (pc + 3) ls st (put σ 1 10 z)) : Wp M d Q pc ls (.inl z :: .inr 1 :: st) σ := w_put (k := 1) (j := 10) (ty := .int) rfl inTB1 tyX1 tyX1_ok nmX1 rfl (by decide) rfl rfl (by rw [hM]; exact tw_185) (by decide +kernel) rfl rfl hz hd h
theorem gf_X1_55 {M : MI} {d pc : Nat} {Q : Int → St → Prop} {ls : List (Option PV)} {st : List PV} {σ : St} (hM : M.1.cls = RX1) (hd : decode M.2.1 pc = .ok (.getfield 55, 3)) (h : Wp M d Q (pc + 3) ls (.inl (σ 1 10) :: st) σ) : Wp M d Q pc ls (.inr 1 :: st) σ := w_get (k := 1) (j := 10) (v := .inl (σ 1 10)) rfl inTB1 rfl (by decide) (by rw [hM]; exact tw_185) (fun _ => rfl) hd h
theorem tw_179 : Cond.fieldLink RX1 24 "ShelfShift$Cutter" "width" "[I" ∈ TB := tb_of 179 (by decide +kernel) (by decide +kernel)
theorem gf_X1_24 {M : MI} {d pc : Nat} {Q : Int → St → Prop} {ls : List (Option PV)} {st : List PV} {σ : St} (hM : M.1.cls = RX1) (hd : decode M.2.1 pc = .ok (.getfield 24, 3)) (h : Wp M d Q (pc + 3) ls (.inr 18 :: st) σ) : Wp M d Q pc ls (.inr 1 :: st) σ := w_get (k := 1) (j := 4) (v := .inr 18) rfl inTB1 rfl (by decide) (by rw [hM]; exact tw_179) (fun _ => rfl) hd h
theorem tw_129 : Cond.fieldLink RX1 56 "ShelfShift$Books" "width" "[I" ∈ TB := tb_of 129 (by decide +kernel) (by decide +kernel)
theorem gf_X1_56 {M : MI} {d pc : Nat} {Q : Int → St → Prop} {ls : List (Option PV)} {st : List PV} {σ : St} (hM : M.1.cls = RX1) (hd : decode M.2.1 pc = .ok (.getfield 56, 3)) (h : Wp M d Q (pc + 3) ls (.inr 9 :: st) σ) : Wp M d Q pc ls (.inr 0 :: st) σ := w_get (k := 0) (j := 1) (v := .inr 9) rfl inTB0 rfl (by decide) (by rw [hM]; exact tw_129) (fun _ => rfl) hd h
theorem tw_180 : Cond.fieldLink RX1 27 "ShelfShift$Cutter" "span" "[I" ∈ TB := tb_of 180 (by decide +kernel) (by decide +kernel)
theorem gf_X1_27 {M : MI} {d pc : Nat} {Q : Int → St → Prop} {ls : List (Option PV)} {st : List PV} {σ : St} (hM : M.1.cls = RX1) (hd : decode M.2.1 pc = .ok (.getfield 27, 3)) (h : Wp M d Q (pc + 3) ls (.inr 19 :: st) σ) : Wp M d Q pc ls (.inr 1 :: st) σ := w_get (k := 1) (j := 5) (v := .inr 19) rfl inTB1 rfl (by decide) (by rw [hM]; exact tw_180) (fun _ => rfl) hd h
theorem tw_133 : Cond.fieldLink RX1 57 "ShelfShift$Books" "need" "[I" ∈ TB := tb_of 133 (by decide +kernel) (by decide +kernel)
theorem gf_X1_57 {M : MI} {d pc : Nat} {Q : Int → St → Prop} {ls : List (Option PV)} {st : List PV} {σ : St} (hM : M.1.cls = RX1) (hd : decode M.2.1 pc = .ok (.getfield 57, 3)) (h : Wp M d Q (pc + 3) ls (.inr 10 :: st) σ) : Wp M d Q pc ls (.inr 0 :: st) σ := w_get (k := 0) (j := 2) (v := .inr 10) rfl inTB0 rfl (by decide) (by rw [hM]; exact tw_133) (fun _ => rfl) hd h
theorem tw_181 : Cond.fieldLink RX1 30 "ShelfShift$Cutter" "stands" "[I" ∈ TB := tb_of 181 (by decide +kernel) (by decide +kernel)
theorem gf_X1_30 {M : MI} {d pc : Nat} {Q : Int → St → Prop} {ls : List (Option PV)} {st : List PV} {σ : St} (hM : M.1.cls = RX1) (hd : decode M.2.1 pc = .ok (.getfield 30, 3)) (h : Wp M d Q (pc + 3) ls (.inr 20 :: st) σ) : Wp M d Q pc ls (.inr 1 :: st) σ := w_get (k := 1) (j := 6) (v := .inr 20) rfl inTB1 rfl (by decide) (by rw [hM]; exact tw_181) (fun _ => rfl) hd h
theorem tw_136 : Cond.fieldLink RX1 60 "ShelfShift$Books" "shelf" "[I" ∈ TB := tb_of 136 (by decide +kernel) (by decide +kernel)
theorem gf_X1_60 {M : MI} {d pc : Nat} {Q : Int → St → Prop} {ls : List (Option PV)} {st : List PV} {σ : St} (hM : M.1.cls = RX1) (hd : decode M.2.1 pc = .ok (.getfield 60, 3)) (h : Wp M d Q (pc + 3) ls (.inr 11 :: st) σ) : Wp M d Q pc ls (.inr 0 :: st) σ := w_get (k := 0) (j := 3) (v := .inr 11) rfl inTB0 rfl (by decide) (by rw [hM]; exact tw_136) (fun _ => rfl) hd h
theorem tw_361 : Cond.methodLink RX1 63 arraycopyName ∈ TB := tb_of 361 (by decide +kernel) (by decide +kernel)
theorem tw_173 : Cond.fieldLink RX1 9 "ShelfShift$Cutter" "goes" "[I" ∈ TB := tb_of 173 (by decide +kernel) (by decide +kernel)
theorem gf_X1_9 {M : MI} {d pc : Nat} {Q : Int → St → Prop} {ls : List (Option PV)} {st : List PV} {σ : St} (hM : M.1.cls = RX1) (hd : decode M.2.1 pc = .ok (.getfield 9, 3)) (h : Wp M d Q (pc + 3) ls (.inr 14 :: st) σ) : Wp M d Q pc ls (.inr 1 :: st) σ := w_get (k := 1) (j := 0) (v := .inr 14) rfl inTB1 rfl (by decide) (by rw [hM]; exact tw_173) (fun _ => rfl) hd h
theorem tw_525 : Cond.methodLink RX1 69 yX1_fill ∈ TB := tb_of 525 (by decide +kernel) (by decide +kernel)
theorem tw_527 : Cond.instanceMethod yX1_fill ∈ TB := tb_of 527 (by decide +kernel) (by decide +kernel)
theorem tw_18 : Cond.selects RX1 yX1_fill yX1_fill ∈ TB := tb_of 18 (by decide +kernel) (by decide +kernel)
theorem cv_X1_69 {M : MI} {d pc : Nat} {Q : Int → St → Prop} {ls : List (Option PV)} {st : List PV} {σ : St} {d' : Nat} {a1 a2 : PV} (hM : M.1.cls = RX1) (hd : decode M.2.1 pc = .ok (.invokevirtual 69, 3)) (hdd : d' < d) (hst : st.length ≤ 8) (h : Wp mX1_fill d' (fun z τ => Wp M d Q (pc + 3) ls (.inl z :: st) τ) 0 [some (.inr 1), some a1, some a2, none, none] [] σ) : Wp M d Q pc ls (a2 :: a1 :: .inr 1 :: st) σ := w_cv (M' := mX1_fill) (k := 1) (vs := [a1, a2]) hd (by rw [hM]; exact tw_525) tw_527 tw_18 cw_X1_fill rfl rfl rfl (Nat.le_of_ble_eq_true rfl) hdd hst h
theorem tw_182 : Cond.fieldLink RX1 35 "ShelfShift$Cutter" "least" "[[I" ∈ TB := tb_of 182 (by decide +kernel) (by decide +kernel)
theorem gf_X1_35 {M : MI} {d pc : Nat} {Q : Int → St → Prop} {ls : List (Option PV)} {st : List PV} {σ : St} (hM : M.1.cls = RX1) (hd : decode M.2.1 pc = .ok (.getfield 35, 3)) (h : Wp M d Q (pc + 3) ls (.inr 21 :: st) σ) : Wp M d Q pc ls (.inr 1 :: st) σ := w_get (k := 1) (j := 7) (v := .inr 21) rfl inTB1 rfl (by decide) (by rw [hM]; exact tw_182) (fun _ => rfl) hd h
theorem tw_368 : Cond.constant RX1 73 (Int32.ofInt 1000000000) ∈ TB := tb_of 368 (by decide +kernel) (by decide +kernel)
theorem tw_369 : Cond.methodLink RX1 74 yX1_chooseMost ∈ TB := tb_of 369 (by decide +kernel) (by decide +kernel)
theorem tw_371 : Cond.instanceMethod yX1_chooseMost ∈ TB := tb_of 371 (by decide +kernel) (by decide +kernel)
theorem tw_4 : Cond.selects RX1 yX1_chooseMost yX1_chooseMost ∈ TB := tb_of 4 (by decide +kernel) (by decide +kernel)
theorem cv_X1_74 {M : MI} {d pc : Nat} {Q : Int → St → Prop} {ls : List (Option PV)} {st : List PV} {σ : St} {d' : Nat} {a1 a2 : PV} (hM : M.1.cls = RX1) (hd : decode M.2.1 pc = .ok (.invokevirtual 74, 3)) (hdd : d' < d) (hst : st.length ≤ 8) (h : Wp mX1_chooseMost d' (fun z τ => Wp M d Q (pc + 3) ls (st) τ) 0 [some (.inr 1), some a1, some a2, none, none, none, none, none, none] [] σ) : Wp M d Q pc ls (a2 :: a1 :: .inr 1 :: st) σ := w_cv (M' := mX1_chooseMost) (k := 1) (vs := [a1, a2]) hd (by rw [hM]; exact tw_369) tw_371 tw_4 cw_X1_chooseMost rfl rfl rfl (Nat.le_of_ble_eq_true rfl) hdd hst h
theorem tw_186 : Cond.fieldLink RX1 78 "ShelfShift$Cutter" "leastPrice" "I" ∈ TB := tb_of 186 (by decide +kernel) (by decide +kernel)
theorem pf_X1_78 {M : MI} {d pc : Nat} {Q : Int → St → Prop} {ls : List (Option PV)} {st : List PV} {σ : St} {z : Int} (hM : M.1.cls = RX1) (hz : InR z) (hd : decode M.2.1 pc = .ok (.putfield 78, 3)) (h : Wp M d Q (pc + 3) ls st (put σ 1 11 z)) : Wp M d Q pc ls (.inl z :: .inr 1 :: st) σ := w_put (k := 1) (j := 11) (ty := .int) rfl inTB1 tyX1 tyX1_ok nmX1 rfl (by decide) rfl rfl (by rw [hM]; exact tw_186) (by decide +kernel) rfl rfl hz hd h
theorem gf_X1_78 {M : MI} {d pc : Nat} {Q : Int → St → Prop} {ls : List (Option PV)} {st : List PV} {σ : St} (hM : M.1.cls = RX1) (hd : decode M.2.1 pc = .ok (.getfield 78, 3)) (h : Wp M d Q (pc + 3) ls (.inl (σ 1 11) :: st) σ) : Wp M d Q pc ls (.inr 1 :: st) σ := w_get (k := 1) (j := 11) (v := .inl (σ 1 11)) rfl inTB1 rfl (by decide) (by rw [hM]; exact tw_186) (fun _ => rfl) hd h
theorem tw_378 : Cond.methodLink RX1 81 yX1_follow ∈ TB := tb_of 378 (by decide +kernel) (by decide +kernel)
theorem tw_380 : Cond.instanceMethod yX1_follow ∈ TB := tb_of 380 (by decide +kernel) (by decide +kernel)
theorem tw_6 : Cond.selects RX1 yX1_follow yX1_follow ∈ TB := tb_of 6 (by decide +kernel) (by decide +kernel)
theorem cv_X1_81 {M : MI} {d pc : Nat} {Q : Int → St → Prop} {ls : List (Option PV)} {st : List PV} {σ : St} {d' : Nat} (hM : M.1.cls = RX1) (hd : decode M.2.1 pc = .ok (.invokevirtual 81, 3)) (hdd : d' < d) (hst : st.length ≤ 8) (h : Wp mX1_follow d' (fun z τ => Wp M d Q (pc + 3) ls (st) τ) 0 [some (.inr 1), none, none, none, none] [] σ) : Wp M d Q pc ls (.inr 1 :: st) σ := w_cv (M' := mX1_follow) (k := 1) (vs := []) hd (by rw [hM]; exact tw_378) tw_380 tw_6 cw_X1_follow rfl rfl rfl (Nat.le_of_ble_eq_true rfl) hdd hst h
theorem tw_373 : Cond.constant RX1 84 (Int32.ofInt 1000000) ∈ TB := tb_of 373 (by decide +kernel) (by decide +kernel)
theorem tw_374 : Cond.methodLink RX1 85 yX1_priceOfMove ∈ TB := tb_of 374 (by decide +kernel) (by decide +kernel)
theorem tw_376 : Cond.instanceMethod yX1_priceOfMove ∈ TB := tb_of 376 (by decide +kernel) (by decide +kernel)
theorem tw_5 : Cond.selects RX1 yX1_priceOfMove yX1_priceOfMove ∈ TB := tb_of 5 (by decide +kernel) (by decide +kernel)
theorem cv_X1_85 {M : MI} {d pc : Nat} {Q : Int → St → Prop} {ls : List (Option PV)} {st : List PV} {σ : St} {d' : Nat} {a1 a2 : PV} (hM : M.1.cls = RX1) (hd : decode M.2.1 pc = .ok (.invokevirtual 85, 3)) (hdd : d' < d) (hst : st.length ≤ 8) (h : Wp mX1_priceOfMove d' (fun z τ => Wp M d Q (pc + 3) ls (.inl z :: st) τ) 0 [some (.inr 1), some a1, some a2, none] [] σ) : Wp M d Q pc ls (a2 :: a1 :: .inr 1 :: st) σ := w_cv (M' := mX1_priceOfMove) (k := 1) (vs := [a1, a2]) hd (by rw [hM]; exact tw_374) tw_376 tw_5 cw_X1_priceOfMove rfl rfl rfl (Nat.le_of_ble_eq_true rfl) hdd hst h
theorem tw_183 : Cond.fieldLink RX1 38 "ShelfShift$Cutter" "most" "[[I" ∈ TB := tb_of 183 (by decide +kernel) (by decide +kernel)
theorem gf_X1_38 {M : MI} {d pc : Nat} {Q : Int → St → Prop} {ls : List (Option PV)} {st : List PV} {σ : St} (hM : M.1.cls = RX1) (hd : decode M.2.1 pc = .ok (.getfield 38, 3)) (h : Wp M d Q (pc + 3) ls (.inr 35 :: st) σ) : Wp M d Q pc ls (.inr 1 :: st) σ := w_get (k := 1) (j := 8) (v := .inr 35) rfl inTB1 rfl (by decide) (by rw [hM]; exact tw_183) (fun _ => rfl) hd h
theorem tw_175 : Cond.fieldLink RX1 15 "ShelfShift$Cutter" "taken" "[I" ∈ TB := tb_of 175 (by decide +kernel) (by decide +kernel)
theorem gf_X1_15 {M : MI} {d pc : Nat} {Q : Int → St → Prop} {ls : List (Option PV)} {st : List PV} {σ : St} (hM : M.1.cls = RX1) (hd : decode M.2.1 pc = .ok (.getfield 15, 3)) (h : Wp M d Q (pc + 3) ls (.inr 15 :: st) σ) : Wp M d Q pc ls (.inr 1 :: st) σ := w_get (k := 1) (j := 1) (v := .inr 15) rfl inTB1 rfl (by decide) (by rw [hM]; exact tw_175) (fun _ => rfl) hd h
theorem tw_113 : Cond.fieldLink RX2 15 "ShelfShift$Groups" "count" "I" ∈ TB := tb_of 113 (by decide +kernel) (by decide +kernel)
theorem gf_X2_15 {M : MI} {d pc : Nat} {Q : Int → St → Prop} {ls : List (Option PV)} {st : List PV} {σ : St} (hM : M.1.cls = RX2) (hd : decode M.2.1 pc = .ok (.getfield 15, 3)) (h : Wp M d Q (pc + 3) ls (.inl (σ 2 1) :: st) σ) : Wp M d Q pc ls (.inr 2 :: st) σ := w_get (k := 2) (j := 1) (v := .inl (σ 2 1)) rfl inTB2 rfl (by decide) (by rw [hM]; exact tw_113) (fun _ => rfl) hd h
theorem tw_111 : Cond.fieldLink RX2 9 "ShelfShift$Groups" "growth" "[I" ∈ TB := tb_of 111 (by decide +kernel) (by decide +kernel)
theorem gf_X2_9 {M : MI} {d pc : Nat} {Q : Int → St → Prop} {ls : List (Option PV)} {st : List PV} {σ : St} (hM : M.1.cls = RX2) (hd : decode M.2.1 pc = .ok (.getfield 9, 3)) (h : Wp M d Q (pc + 3) ls (.inr 48 :: st) σ) : Wp M d Q pc ls (.inr 2 :: st) σ := w_get (k := 2) (j := 0) (v := .inr 48) rfl inTB2 rfl (by decide) (by rw [hM]; exact tw_111) (fun _ => rfl) hd h
theorem pf_X2_15 {M : MI} {d pc : Nat} {Q : Int → St → Prop} {ls : List (Option PV)} {st : List PV} {σ : St} {z : Int} (hM : M.1.cls = RX2) (hz : InR z) (hd : decode M.2.1 pc = .ok (.putfield 15, 3)) (h : Wp M d Q (pc + 3) ls st (put σ 2 1 z)) : Wp M d Q pc ls (.inl z :: .inr 2 :: st) σ := w_put (k := 2) (j := 1) (ty := .int) rfl inTB2 tyX2 tyX2_ok nmX2 rfl (by decide) rfl rfl (by rw [hM]; exact tw_113) (by decide +kernel) rfl rfl hz hd h
theorem tw_258 : Cond.fieldLink RX3 15 "ShelfShift$Logbook" "next" "I" ∈ TB := tb_of 258 (by decide +kernel) (by decide +kernel)
theorem gf_X3_15 {M : MI} {d pc : Nat} {Q : Int → St → Prop} {ls : List (Option PV)} {st : List PV} {σ : St} (hM : M.1.cls = RX3) (hd : decode M.2.1 pc = .ok (.getfield 15, 3)) (h : Wp M d Q (pc + 3) ls (.inl (σ 3 1) :: st) σ) : Wp M d Q pc ls (.inr 3 :: st) σ := w_get (k := 3) (j := 1) (v := .inl (σ 3 1)) rfl inTB3 rfl (by decide) (by rw [hM]; exact tw_258) (fun _ => rfl) hd h
theorem tw_257 : Cond.fieldLink RX3 11 "ShelfShift$Logbook" "parts" "[I" ∈ TB := tb_of 257 (by decide +kernel) (by decide +kernel)
theorem gf_X3_11 {M : MI} {d pc : Nat} {Q : Int → St → Prop} {ls : List (Option PV)} {st : List PV} {σ : St} (hM : M.1.cls = RX3) (hd : decode M.2.1 pc = .ok (.getfield 11, 3)) (h : Wp M d Q (pc + 3) ls (.inr 49 :: st) σ) : Wp M d Q pc ls (.inr 3 :: st) σ := w_get (k := 3) (j := 0) (v := .inr 49) rfl inTB3 rfl (by decide) (by rw [hM]; exact tw_257) (fun _ => rfl) hd h
theorem pf_X3_15 {M : MI} {d pc : Nat} {Q : Int → St → Prop} {ls : List (Option PV)} {st : List PV} {σ : St} {z : Int} (hM : M.1.cls = RX3) (hz : InR z) (hd : decode M.2.1 pc = .ok (.putfield 15, 3)) (h : Wp M d Q (pc + 3) ls st (put σ 3 1 z)) : Wp M d Q pc ls (.inl z :: .inr 3 :: st) σ := w_put (k := 3) (j := 1) (ty := .int) rfl inTB3 tyX3 tyX3_ok nmX3 rfl (by decide) rfl rfl (by rw [hM]; exact tw_258) (by decide +kernel) rfl rfl hz hd h
theorem tw_259 : Cond.fieldLink RX3 19 "ShelfShift$Logbook" "count" "I" ∈ TB := tb_of 259 (by decide +kernel) (by decide +kernel)
theorem gf_X3_19 {M : MI} {d pc : Nat} {Q : Int → St → Prop} {ls : List (Option PV)} {st : List PV} {σ : St} (hM : M.1.cls = RX3) (hd : decode M.2.1 pc = .ok (.getfield 19, 3)) (h : Wp M d Q (pc + 3) ls (.inl (σ 3 2) :: st) σ) : Wp M d Q pc ls (.inr 3 :: st) σ := w_get (k := 3) (j := 2) (v := .inl (σ 3 2)) rfl inTB3 rfl (by decide) (by rw [hM]; exact tw_259) (fun _ => rfl) hd h
theorem tw_412 : Cond.methodLink RX3 22 Lib.Math.min.name ∈ TB := tb_of 412 (by decide +kernel) (by decide +kernel)
theorem tw_413 : Cond.static Lib.Math.min.name ∈ TB := tb_of 413 (by decide +kernel) (by decide +kernel)
theorem tw_69 : Cond.initialized "java/lang/Math" ∈ TB := tb_of 69 (by decide +kernel) (by decide +kernel)
theorem tw_414 : Cond.code Lib.Math.min.name Lib.Math.min.code 2 (some .int) ∈ TB := tb_of 414 (by decide +kernel) (by decide +kernel)
theorem pf_X3_19 {M : MI} {d pc : Nat} {Q : Int → St → Prop} {ls : List (Option PV)} {st : List PV} {σ : St} {z : Int} (hM : M.1.cls = RX3) (hz : InR z) (hd : decode M.2.1 pc = .ok (.putfield 19, 3)) (h : Wp M d Q (pc + 3) ls st (put σ 3 2 z)) : Wp M d Q pc ls (.inl z :: .inr 3 :: st) σ := w_put (k := 3) (j := 2) (ty := .int) rfl inTB3 tyX3 tyX3_ok nmX3 rfl (by decide) rfl rfl (by rw [hM]; exact tw_259) (by decide +kernel) rfl rfl hz hd h
theorem tw_230 : Cond.fieldLink RX4 27 "ShelfShift$Plan" "done" "I" ∈ TB := tb_of 230 (by decide +kernel) (by decide +kernel)
theorem gf_X4_27 {M : MI} {d pc : Nat} {Q : Int → St → Prop} {ls : List (Option PV)} {st : List PV} {σ : St} (hM : M.1.cls = RX4) (hd : decode M.2.1 pc = .ok (.getfield 27, 3)) (h : Wp M d Q (pc + 3) ls (.inl (σ 4 6) :: st) σ) : Wp M d Q pc ls (.inr 4 :: st) σ := w_get (k := 4) (j := 6) (v := .inl (σ 4 6)) rfl inTB4 rfl (by decide) (by rw [hM]; exact tw_230) (fun _ => rfl) hd h
theorem tw_228 : Cond.fieldLink RX4 31 "ShelfShift$Plan" "total" "I" ∈ TB := tb_of 228 (by decide +kernel) (by decide +kernel)
theorem gf_X4_31 {M : MI} {d pc : Nat} {Q : Int → St → Prop} {ls : List (Option PV)} {st : List PV} {σ : St} (hM : M.1.cls = RX4) (hd : decode M.2.1 pc = .ok (.getfield 31, 3)) (h : Wp M d Q (pc + 3) ls (.inl (σ 4 5) :: st) σ) : Wp M d Q pc ls (.inr 4 :: st) σ := w_get (k := 4) (j := 5) (v := .inl (σ 4 5)) rfl inTB4 rfl (by decide) (by rw [hM]; exact tw_228) (fun _ => rfl) hd h
theorem pf_X4_31 {M : MI} {d pc : Nat} {Q : Int → St → Prop} {ls : List (Option PV)} {st : List PV} {σ : St} {z : Int} (hM : M.1.cls = RX4) (hz : InR z) (hd : decode M.2.1 pc = .ok (.putfield 31, 3)) (h : Wp M d Q (pc + 3) ls st (put σ 4 5 z)) : Wp M d Q pc ls (.inl z :: .inr 4 :: st) σ := w_put (k := 4) (j := 5) (ty := .int) rfl inTB4 tyX4 tyX4_ok nmX4 rfl (by decide) rfl rfl (by rw [hM]; exact tw_228) (by decide +kernel) rfl rfl hz hd h
theorem pf_X4_27 {M : MI} {d pc : Nat} {Q : Int → St → Prop} {ls : List (Option PV)} {st : List PV} {σ : St} {z : Int} (hM : M.1.cls = RX4) (hz : InR z) (hd : decode M.2.1 pc = .ok (.putfield 27, 3)) (h : Wp M d Q (pc + 3) ls st (put σ 4 6 z)) : Wp M d Q pc ls (.inl z :: .inr 4 :: st) σ := w_put (k := 4) (j := 6) (ty := .int) rfl inTB4 tyX4 tyX4_ok nmX4 rfl (by decide) rfl rfl (by rw [hM]; exact tw_230) (by decide +kernel) rfl rfl hz hd h
theorem tw_394 : Cond.methodLink RX4 34 yX4_end ∈ TB := tb_of 394 (by decide +kernel) (by decide +kernel)
theorem tw_298 : Cond.instanceMethod yX4_end ∈ TB := tb_of 298 (by decide +kernel) (by decide +kernel)
theorem tw_299 : Cond.selects RX4 yX4_end yX4_end ∈ TB := tb_of 299 (by decide +kernel) (by decide +kernel)
theorem cv_X4_34 {M : MI} {d pc : Nat} {Q : Int → St → Prop} {ls : List (Option PV)} {st : List PV} {σ : St} {d' : Nat} (hM : M.1.cls = RX4) (hd : decode M.2.1 pc = .ok (.invokevirtual 34, 3)) (hdd : d' < d) (hst : st.length ≤ 8) (h : Wp mX4_end d' (fun z τ => Wp M d Q (pc + 3) ls (st) τ) 0 [some (.inr 4)] [] σ) : Wp M d Q pc ls (.inr 4 :: st) σ := w_cv (M' := mX4_end) (k := 4) (vs := []) hd (by rw [hM]; exact tw_394) tw_298 tw_299 cw_X4_end rfl rfl rfl (Nat.le_of_ble_eq_true rfl) hdd hst h
theorem tw_232 : Cond.fieldLink RX4 37 "ShelfShift$Plan" "years" "I" ∈ TB := tb_of 232 (by decide +kernel) (by decide +kernel)
theorem pf_X4_37 {M : MI} {d pc : Nat} {Q : Int → St → Prop} {ls : List (Option PV)} {st : List PV} {σ : St} {z : Int} (hM : M.1.cls = RX4) (hz : InR z) (hd : decode M.2.1 pc = .ok (.putfield 37, 3)) (h : Wp M d Q (pc + 3) ls st (put σ 4 7 z)) : Wp M d Q pc ls (.inl z :: .inr 4 :: st) σ := w_put (k := 4) (j := 7) (ty := .int) rfl inTB4 tyX4 tyX4_ok nmX4 rfl (by decide) rfl rfl (by rw [hM]; exact tw_232) (by decide +kernel) rfl rfl hz hd h
theorem tw_218 : Cond.fieldLink RX4 9 "ShelfShift$Plan" "goes" "[I" ∈ TB := tb_of 218 (by decide +kernel) (by decide +kernel)
theorem gf_X4_9 {M : MI} {d pc : Nat} {Q : Int → St → Prop} {ls : List (Option PV)} {st : List PV} {σ : St} (hM : M.1.cls = RX4) (hd : decode M.2.1 pc = .ok (.getfield 9, 3)) (h : Wp M d Q (pc + 3) ls (.inr 50 :: st) σ) : Wp M d Q pc ls (.inr 4 :: st) σ := w_get (k := 4) (j := 0) (v := .inr 50) rfl inTB4 rfl (by decide) (by rw [hM]; exact tw_218) (fun _ => rfl) hd h
theorem tw_144 : Cond.fieldLink RX4 40 "ShelfShift$Books" "count" "I" ∈ TB := tb_of 144 (by decide +kernel) (by decide +kernel)
theorem gf_X4_40 {M : MI} {d pc : Nat} {Q : Int → St → Prop} {ls : List (Option PV)} {st : List PV} {σ : St} (hM : M.1.cls = RX4) (hd : decode M.2.1 pc = .ok (.getfield 40, 3)) (h : Wp M d Q (pc + 3) ls (.inl (σ 0 6) :: st) σ) : Wp M d Q pc ls (.inr 0 :: st) σ := w_get (k := 0) (j := 6) (v := .inl (σ 0 6)) rfl inTB0 rfl (by decide) (by rw [hM]; exact tw_144) (fun _ => rfl) hd h
theorem tw_395 : Cond.methodLink RX4 45 arraycopyName ∈ TB := tb_of 395 (by decide +kernel) (by decide +kernel)
theorem tw_137 : Cond.fieldLink RX4 51 "ShelfShift$Books" "shelf" "[I" ∈ TB := tb_of 137 (by decide +kernel) (by decide +kernel)
theorem gf_X4_51 {M : MI} {d pc : Nat} {Q : Int → St → Prop} {ls : List (Option PV)} {st : List PV} {σ : St} (hM : M.1.cls = RX4) (hd : decode M.2.1 pc = .ok (.getfield 51, 3)) (h : Wp M d Q (pc + 3) ls (.inr 11 :: st) σ) : Wp M d Q pc ls (.inr 0 :: st) σ := w_get (k := 0) (j := 3) (v := .inr 11) rfl inTB0 rfl (by decide) (by rw [hM]; exact tw_137) (fun _ => rfl) hd h
theorem tw_396 : Cond.methodLink RX4 54 yX4_add ∈ TB := tb_of 396 (by decide +kernel) (by decide +kernel)
theorem tw_398 : Cond.instanceMethod yX4_add ∈ TB := tb_of 398 (by decide +kernel) (by decide +kernel)
theorem tw_8 : Cond.selects RX4 yX4_add yX4_add ∈ TB := tb_of 8 (by decide +kernel) (by decide +kernel)
theorem cv_X4_54 {M : MI} {d pc : Nat} {Q : Int → St → Prop} {ls : List (Option PV)} {st : List PV} {σ : St} {d' : Nat} {a1 a2 : PV} (hM : M.1.cls = RX4) (hd : decode M.2.1 pc = .ok (.invokevirtual 54, 3)) (hdd : d' < d) (hst : st.length ≤ 8) (h : Wp mX4_add d' (fun z τ => Wp M d Q (pc + 3) ls (st) τ) 0 [some (.inr 4), some a1, some a2] [] σ) : Wp M d Q pc ls (a2 :: a1 :: .inr 4 :: st) σ := w_cv (M' := mX4_add) (k := 4) (vs := [a1, a2]) hd (by rw [hM]; exact tw_396) tw_398 tw_8 cw_X4_add rfl rfl rfl (Nat.le_of_ble_eq_true rfl) hdd hst h
theorem tw_220 : Cond.fieldLink RX4 15 "ShelfShift$Plan" "book" "[I" ∈ TB := tb_of 220 (by decide +kernel) (by decide +kernel)
theorem gf_X4_15 {M : MI} {d pc : Nat} {Q : Int → St → Prop} {ls : List (Option PV)} {st : List PV} {σ : St} (hM : M.1.cls = RX4) (hd : decode M.2.1 pc = .ok (.getfield 15, 3)) (h : Wp M d Q (pc + 3) ls (.inr 51 :: st) σ) : Wp M d Q pc ls (.inr 4 :: st) σ := w_get (k := 4) (j := 1) (v := .inr 51) rfl inTB4 rfl (by decide) (by rw [hM]; exact tw_220) (fun _ => rfl) hd h
theorem tw_222 : Cond.fieldLink RX4 18 "ShelfShift$Plan" "width" "[I" ∈ TB := tb_of 222 (by decide +kernel) (by decide +kernel)
theorem gf_X4_18 {M : MI} {d pc : Nat} {Q : Int → St → Prop} {ls : List (Option PV)} {st : List PV} {σ : St} (hM : M.1.cls = RX4) (hd : decode M.2.1 pc = .ok (.getfield 18, 3)) (h : Wp M d Q (pc + 3) ls (.inr 52 :: st) σ) : Wp M d Q pc ls (.inr 4 :: st) σ := w_get (k := 4) (j := 2) (v := .inr 52) rfl inTB4 rfl (by decide) (by rw [hM]; exact tw_222) (fun _ => rfl) hd h
theorem tw_130 : Cond.fieldLink RX4 58 "ShelfShift$Books" "width" "[I" ∈ TB := tb_of 130 (by decide +kernel) (by decide +kernel)
theorem gf_X4_58 {M : MI} {d pc : Nat} {Q : Int → St → Prop} {ls : List (Option PV)} {st : List PV} {σ : St} (hM : M.1.cls = RX4) (hd : decode M.2.1 pc = .ok (.getfield 58, 3)) (h : Wp M d Q (pc + 3) ls (.inr 9 :: st) σ) : Wp M d Q pc ls (.inr 0 :: st) σ := w_get (k := 0) (j := 1) (v := .inr 9) rfl inTB0 rfl (by decide) (by rw [hM]; exact tw_130) (fun _ => rfl) hd h
theorem tw_224 : Cond.fieldLink RX4 21 "ShelfShift$Plan" "from" "[I" ∈ TB := tb_of 224 (by decide +kernel) (by decide +kernel)
theorem gf_X4_21 {M : MI} {d pc : Nat} {Q : Int → St → Prop} {ls : List (Option PV)} {st : List PV} {σ : St} (hM : M.1.cls = RX4) (hd : decode M.2.1 pc = .ok (.getfield 21, 3)) (h : Wp M d Q (pc + 3) ls (.inr 53 :: st) σ) : Wp M d Q pc ls (.inr 4 :: st) σ := w_get (k := 4) (j := 3) (v := .inr 53) rfl inTB4 rfl (by decide) (by rw [hM]; exact tw_224) (fun _ => rfl) hd h
theorem tw_226 : Cond.fieldLink RX4 24 "ShelfShift$Plan" "to" "[I" ∈ TB := tb_of 226 (by decide +kernel) (by decide +kernel)
theorem gf_X4_24 {M : MI} {d pc : Nat} {Q : Int → St → Prop} {ls : List (Option PV)} {st : List PV} {σ : St} (hM : M.1.cls = RX4) (hd : decode M.2.1 pc = .ok (.getfield 24, 3)) (h : Wp M d Q (pc + 3) ls (.inr 54 :: st) σ) : Wp M d Q pc ls (.inr 4 :: st) σ := w_get (k := 4) (j := 4) (v := .inr 54) rfl inTB4 rfl (by decide) (by rw [hM]; exact tw_226) (fun _ => rfl) hd h
theorem tw_585 : Cond.methodLink RX4 59 yX4_direction ∈ TB := tb_of 585 (by decide +kernel) (by decide +kernel)
theorem tw_405 : Cond.instanceMethod yX4_direction ∈ TB := tb_of 405 (by decide +kernel) (by decide +kernel)
theorem tw_406 : Cond.selects RX4 yX4_direction yX4_direction ∈ TB := tb_of 406 (by decide +kernel) (by decide +kernel)
theorem cv_X4_59 {M : MI} {d pc : Nat} {Q : Int → St → Prop} {ls : List (Option PV)} {st : List PV} {σ : St} {d' : Nat} {a1 : PV} (hM : M.1.cls = RX4) (hd : decode M.2.1 pc = .ok (.invokevirtual 59, 3)) (hdd : d' < d) (hst : st.length ≤ 8) (h : Wp mX4_direction d' (fun z τ => Wp M d Q (pc + 3) ls (.inl z :: st) τ) 0 [some (.inr 4), some a1] [] σ) : Wp M d Q pc ls (a1 :: .inr 4 :: st) σ := w_cv (M' := mX4_direction) (k := 4) (vs := [a1]) hd (by rw [hM]; exact tw_585) tw_405 tw_406 cw_X4_direction rfl rfl rfl (Nat.le_of_ble_eq_true rfl) hdd hst h
theorem tw_94 : Cond.fieldLink RX5 18 "ShelfShift$Shelves" "count" "I" ∈ TB := tb_of 94 (by decide +kernel) (by decide +kernel)
theorem gf_X5_18 {M : MI} {d pc : Nat} {Q : Int → St → Prop} {ls : List (Option PV)} {st : List PV} {σ : St} (hM : M.1.cls = RX5) (hd : decode M.2.1 pc = .ok (.getfield 18, 3)) (h : Wp M d Q (pc + 3) ls (.inl (σ 5 2) :: st) σ) : Wp M d Q pc ls (.inr 5 :: st) σ := w_get (k := 5) (j := 2) (v := .inl (σ 5 2)) rfl inTB5 rfl (by decide) (by rw [hM]; exact tw_94) (fun _ => rfl) hd h
theorem tw_88 : Cond.fieldLink RX5 9 "ShelfShift$Shelves" "length" "[I" ∈ TB := tb_of 88 (by decide +kernel) (by decide +kernel)
theorem gf_X5_9 {M : MI} {d pc : Nat} {Q : Int → St → Prop} {ls : List (Option PV)} {st : List PV} {σ : St} (hM : M.1.cls = RX5) (hd : decode M.2.1 pc = .ok (.getfield 9, 3)) (h : Wp M d Q (pc + 3) ls (.inr 55 :: st) σ) : Wp M d Q pc ls (.inr 5 :: st) σ := w_get (k := 5) (j := 0) (v := .inr 55) rfl inTB5 rfl (by decide) (by rw [hM]; exact tw_88) (fun _ => rfl) hd h
theorem tw_91 : Cond.fieldLink RX5 15 "ShelfShift$Shelves" "kind" "[I" ∈ TB := tb_of 91 (by decide +kernel) (by decide +kernel)
theorem gf_X5_15 {M : MI} {d pc : Nat} {Q : Int → St → Prop} {ls : List (Option PV)} {st : List PV} {σ : St} (hM : M.1.cls = RX5) (hd : decode M.2.1 pc = .ok (.getfield 15, 3)) (h : Wp M d Q (pc + 3) ls (.inr 56 :: st) σ) : Wp M d Q pc ls (.inr 5 :: st) σ := w_get (k := 5) (j := 1) (v := .inr 56) rfl inTB5 rfl (by decide) (by rw [hM]; exact tw_91) (fun _ => rfl) hd h
theorem pf_X5_18 {M : MI} {d pc : Nat} {Q : Int → St → Prop} {ls : List (Option PV)} {st : List PV} {σ : St} {z : Int} (hM : M.1.cls = RX5) (hz : InR z) (hd : decode M.2.1 pc = .ok (.putfield 18, 3)) (h : Wp M d Q (pc + 3) ls st (put σ 5 2 z)) : Wp M d Q pc ls (.inl z :: .inr 5 :: st) σ := w_put (k := 5) (j := 2) (ty := .int) rfl inTB5 tyX5 tyX5_ok nmX5 rfl (by decide) rfl rfl (by rw [hM]; exact tw_94) (by decide +kernel) rfl rfl hz hd h
theorem tw_294 : Cond.methodLink RX6 55 yX6_isWithin ∈ TB := tb_of 294 (by decide +kernel) (by decide +kernel)
theorem tw_295 : Cond.static yX6_isWithin ∈ TB := tb_of 295 (by decide +kernel) (by decide +kernel)
theorem cv_X6_55 {M : MI} {d pc : Nat} {Q : Int → St → Prop} {ls : List (Option PV)} {st : List PV} {σ : St} {d' : Nat} {a1 a2 a3 : PV} (hM : M.1.cls = RX6) (hd : decode M.2.1 pc = .ok (.invokestatic 55, 3)) (hdd : d' < d) (hst : st.length ≤ 8) (h : Wp mX6_isWithin d' (fun z τ => Wp M d Q (pc + 3) ls (.inl z :: st) τ) 0 [some a1, some a2, some a3] [] σ) : Wp M d Q pc ls (a3 :: a2 :: a1 :: st) σ := w_cs (M' := mX6_isWithin) (vs := [a1, a2, a3]) hd (by rw [hM]; exact tw_294) tw_295 cw_X6_isWithin (by rw [hM]; rfl) (Nat.le_of_ble_eq_true rfl) hdd hst h
theorem tw_268 : Cond.fieldLink RX6 10 "ShelfShift" "shelves" "LShelfShift$Shelves;" ∈ TB := tb_of 268 (by decide +kernel) (by decide +kernel)
theorem gf_X6_10 {M : MI} {d pc : Nat} {Q : Int → St → Prop} {ls : List (Option PV)} {st : List PV} {σ : St} (hM : M.1.cls = RX6) (hd : decode M.2.1 pc = .ok (.getfield 10, 3)) (h : Wp M d Q (pc + 3) ls (.inr 5 :: st) σ) : Wp M d Q pc ls (.inr 6 :: st) σ := w_get (k := 6) (j := 0) (v := .inr 5) rfl inTB6 rfl (by decide) (by rw [hM]; exact tw_268) (fun _ => rfl) hd h
theorem tw_96 : Cond.fieldLink RX6 59 "ShelfShift$Shelves" "count" "I" ∈ TB := tb_of 96 (by decide +kernel) (by decide +kernel)
theorem gf_X6_59 {M : MI} {d pc : Nat} {Q : Int → St → Prop} {ls : List (Option PV)} {st : List PV} {σ : St} (hM : M.1.cls = RX6) (hd : decode M.2.1 pc = .ok (.getfield 59, 3)) (h : Wp M d Q (pc + 3) ls (.inl (σ 5 2) :: st) σ) : Wp M d Q pc ls (.inr 5 :: st) σ := w_get (k := 5) (j := 2) (v := .inl (σ 5 2)) rfl inTB5 rfl (by decide) (by rw [hM]; exact tw_96) (fun _ => rfl) hd h
theorem tw_272 : Cond.fieldLink RX6 40 "ShelfShift" "plan" "LShelfShift$Plan;" ∈ TB := tb_of 272 (by decide +kernel) (by decide +kernel)
theorem gf_X6_40 {M : MI} {d pc : Nat} {Q : Int → St → Prop} {ls : List (Option PV)} {st : List PV} {σ : St} (hM : M.1.cls = RX6) (hd : decode M.2.1 pc = .ok (.getfield 40, 3)) (h : Wp M d Q (pc + 3) ls (.inr 4 :: st) σ) : Wp M d Q pc ls (.inr 6 :: st) σ := w_get (k := 6) (j := 4) (v := .inr 4) rfl inTB6 rfl (by decide) (by rw [hM]; exact tw_272) (fun _ => rfl) hd h
theorem tw_297 : Cond.methodLink RX6 62 yX4_end ∈ TB := tb_of 297 (by decide +kernel) (by decide +kernel)
theorem cv_X6_62 {M : MI} {d pc : Nat} {Q : Int → St → Prop} {ls : List (Option PV)} {st : List PV} {σ : St} {d' : Nat} (hM : M.1.cls = RX6) (hd : decode M.2.1 pc = .ok (.invokevirtual 62, 3)) (hdd : d' < d) (hst : st.length ≤ 8) (h : Wp mX4_end d' (fun z τ => Wp M d Q (pc + 3) ls (st) τ) 0 [some (.inr 4)] [] σ) : Wp M d Q pc ls (.inr 4 :: st) σ := w_cv (M' := mX4_end) (k := 4) (vs := []) hd (by rw [hM]; exact tw_297) tw_298 tw_299 cw_X4_end rfl rfl rfl (Nat.le_of_ble_eq_true rfl) hdd hst h
theorem tw_301 : Cond.methodLink RX6 65 yX5_add ∈ TB := tb_of 301 (by decide +kernel) (by decide +kernel)
theorem tw_302 : Cond.instanceMethod yX5_add ∈ TB := tb_of 302 (by decide +kernel) (by decide +kernel)
theorem tw_303 : Cond.selects RX5 yX5_add yX5_add ∈ TB := tb_of 303 (by decide +kernel) (by decide +kernel)
theorem cv_X6_65 {M : MI} {d pc : Nat} {Q : Int → St → Prop} {ls : List (Option PV)} {st : List PV} {σ : St} {d' : Nat} {a1 a2 : PV} (hM : M.1.cls = RX6) (hd : decode M.2.1 pc = .ok (.invokevirtual 65, 3)) (hdd : d' < d) (hst : st.length ≤ 8) (h : Wp mX5_add d' (fun z τ => Wp M d Q (pc + 3) ls (.inl z :: st) τ) 0 [some (.inr 5), some a1, some a2, none] [] σ) : Wp M d Q pc ls (a2 :: a1 :: .inr 5 :: st) σ := w_cv (M' := mX5_add) (k := 5) (vs := [a1, a2]) hd (by rw [hM]; exact tw_301) tw_302 tw_303 cw_X5_add rfl rfl rfl (Nat.le_of_ble_eq_true rfl) hdd hst h
theorem tw_309 : Cond.methodLink RX6 69 yX6_hasShelf ∈ TB := tb_of 309 (by decide +kernel) (by decide +kernel)
theorem tw_311 : Cond.instanceMethod yX6_hasShelf ∈ TB := tb_of 311 (by decide +kernel) (by decide +kernel)
theorem tw_0 : Cond.selects RX6 yX6_hasShelf yX6_hasShelf ∈ TB := tb_of 0 (by decide +kernel) (by decide +kernel)
theorem cv_X6_69 {M : MI} {d pc : Nat} {Q : Int → St → Prop} {ls : List (Option PV)} {st : List PV} {σ : St} {d' : Nat} {a1 : PV} (hM : M.1.cls = RX6) (hd : decode M.2.1 pc = .ok (.invokevirtual 69, 3)) (hdd : d' < d) (hst : st.length ≤ 8) (h : Wp mX6_hasShelf d' (fun z τ => Wp M d Q (pc + 3) ls (.inl z :: st) τ) 0 [some (.inr 6), some a1] [] σ) : Wp M d Q pc ls (a1 :: .inr 6 :: st) σ := w_cv (M' := mX6_hasShelf) (k := 6) (vs := [a1]) hd (by rw [hM]; exact tw_309) tw_311 tw_0 cw_X6_hasShelf rfl rfl rfl (Nat.le_of_ble_eq_true rfl) hdd hst h
theorem tw_93 : Cond.fieldLink RX6 73 "ShelfShift$Shelves" "kind" "[I" ∈ TB := tb_of 93 (by decide +kernel) (by decide +kernel)
theorem gf_X6_73 {M : MI} {d pc : Nat} {Q : Int → St → Prop} {ls : List (Option PV)} {st : List PV} {σ : St} (hM : M.1.cls = RX6) (hd : decode M.2.1 pc = .ok (.getfield 73, 3)) (h : Wp M d Q (pc + 3) ls (.inr 56 :: st) σ) : Wp M d Q pc ls (.inr 5 :: st) σ := w_get (k := 5) (j := 1) (v := .inr 56) rfl inTB5 rfl (by decide) (by rw [hM]; exact tw_93) (fun _ => rfl) hd h
theorem tw_269 : Cond.fieldLink RX6 19 "ShelfShift" "groups" "LShelfShift$Groups;" ∈ TB := tb_of 269 (by decide +kernel) (by decide +kernel)
theorem gf_X6_19 {M : MI} {d pc : Nat} {Q : Int → St → Prop} {ls : List (Option PV)} {st : List PV} {σ : St} (hM : M.1.cls = RX6) (hd : decode M.2.1 pc = .ok (.getfield 19, 3)) (h : Wp M d Q (pc + 3) ls (.inr 2 :: st) σ) : Wp M d Q pc ls (.inr 6 :: st) σ := w_get (k := 6) (j := 1) (v := .inr 2) rfl inTB6 rfl (by decide) (by rw [hM]; exact tw_269) (fun _ => rfl) hd h
theorem tw_114 : Cond.fieldLink RX6 77 "ShelfShift$Groups" "count" "I" ∈ TB := tb_of 114 (by decide +kernel) (by decide +kernel)
theorem gf_X6_77 {M : MI} {d pc : Nat} {Q : Int → St → Prop} {ls : List (Option PV)} {st : List PV} {σ : St} (hM : M.1.cls = RX6) (hd : decode M.2.1 pc = .ok (.getfield 77, 3)) (h : Wp M d Q (pc + 3) ls (.inl (σ 2 1) :: st) σ) : Wp M d Q pc ls (.inr 2 :: st) σ := w_get (k := 2) (j := 1) (v := .inl (σ 2 1)) rfl inTB2 rfl (by decide) (by rw [hM]; exact tw_114) (fun _ => rfl) hd h
theorem tw_317 : Cond.methodLink RX6 78 yX2_add ∈ TB := tb_of 317 (by decide +kernel) (by decide +kernel)
theorem tw_318 : Cond.instanceMethod yX2_add ∈ TB := tb_of 318 (by decide +kernel) (by decide +kernel)
theorem tw_319 : Cond.selects RX2 yX2_add yX2_add ∈ TB := tb_of 319 (by decide +kernel) (by decide +kernel)
theorem cv_X6_78 {M : MI} {d pc : Nat} {Q : Int → St → Prop} {ls : List (Option PV)} {st : List PV} {σ : St} {d' : Nat} {a1 : PV} (hM : M.1.cls = RX6) (hd : decode M.2.1 pc = .ok (.invokevirtual 78, 3)) (hdd : d' < d) (hst : st.length ≤ 8) (h : Wp mX2_add d' (fun z τ => Wp M d Q (pc + 3) ls (.inl z :: st) τ) 0 [some (.inr 2), some a1, none] [] σ) : Wp M d Q pc ls (a1 :: .inr 2 :: st) σ := w_cv (M' := mX2_add) (k := 2) (vs := [a1]) hd (by rw [hM]; exact tw_317) tw_318 tw_319 cw_X2_add rfl rfl rfl (Nat.le_of_ble_eq_true rfl) hdd hst h
theorem tw_325 : Cond.methodLink RX6 81 yX6_hasGroup ∈ TB := tb_of 325 (by decide +kernel) (by decide +kernel)
theorem tw_327 : Cond.instanceMethod yX6_hasGroup ∈ TB := tb_of 327 (by decide +kernel) (by decide +kernel)
theorem tw_1 : Cond.selects RX6 yX6_hasGroup yX6_hasGroup ∈ TB := tb_of 1 (by decide +kernel) (by decide +kernel)
theorem cv_X6_81 {M : MI} {d pc : Nat} {Q : Int → St → Prop} {ls : List (Option PV)} {st : List PV} {σ : St} {d' : Nat} {a1 : PV} (hM : M.1.cls = RX6) (hd : decode M.2.1 pc = .ok (.invokevirtual 81, 3)) (hdd : d' < d) (hst : st.length ≤ 8) (h : Wp mX6_hasGroup d' (fun z τ => Wp M d Q (pc + 3) ls (.inl z :: st) τ) 0 [some (.inr 6), some a1] [] σ) : Wp M d Q pc ls (a1 :: .inr 6 :: st) σ := w_cv (M' := mX6_hasGroup) (k := 6) (vs := [a1]) hd (by rw [hM]; exact tw_325) tw_327 tw_1 cw_X6_hasGroup rfl rfl rfl (Nat.le_of_ble_eq_true rfl) hdd hst h
theorem tw_112 : Cond.fieldLink RX6 84 "ShelfShift$Groups" "growth" "[I" ∈ TB := tb_of 112 (by decide +kernel) (by decide +kernel)
theorem gf_X6_84 {M : MI} {d pc : Nat} {Q : Int → St → Prop} {ls : List (Option PV)} {st : List PV} {σ : St} (hM : M.1.cls = RX6) (hd : decode M.2.1 pc = .ok (.getfield 84, 3)) (h : Wp M d Q (pc + 3) ls (.inr 48 :: st) σ) : Wp M d Q pc ls (.inr 2 :: st) σ := w_get (k := 2) (j := 0) (v := .inr 48) rfl inTB2 rfl (by decide) (by rw [hM]; exact tw_112) (fun _ => rfl) hd h
theorem tw_270 : Cond.fieldLink RX6 26 "ShelfShift" "books" "LShelfShift$Books;" ∈ TB := tb_of 270 (by decide +kernel) (by decide +kernel)
theorem gf_X6_26 {M : MI} {d pc : Nat} {Q : Int → St → Prop} {ls : List (Option PV)} {st : List PV} {σ : St} (hM : M.1.cls = RX6) (hd : decode M.2.1 pc = .ok (.getfield 26, 3)) (h : Wp M d Q (pc + 3) ls (.inr 0 :: st) σ) : Wp M d Q pc ls (.inr 6 :: st) σ := w_get (k := 6) (j := 2) (v := .inr 0) rfl inTB6 rfl (by decide) (by rw [hM]; exact tw_270) (fun _ => rfl) hd h
theorem tw_329 : Cond.methodLink RX6 87 yX0_shareGrowth ∈ TB := tb_of 329 (by decide +kernel) (by decide +kernel)
theorem tw_330 : Cond.instanceMethod yX0_shareGrowth ∈ TB := tb_of 330 (by decide +kernel) (by decide +kernel)
theorem tw_331 : Cond.selects RX0 yX0_shareGrowth yX0_shareGrowth ∈ TB := tb_of 331 (by decide +kernel) (by decide +kernel)
theorem cv_X6_87 {M : MI} {d pc : Nat} {Q : Int → St → Prop} {ls : List (Option PV)} {st : List PV} {σ : St} {d' : Nat} {a1 a2 : PV} (hM : M.1.cls = RX6) (hd : decode M.2.1 pc = .ok (.invokevirtual 87, 3)) (hdd : d' < d) (hst : st.length ≤ 8) (h : Wp mX0_shareGrowth d' (fun z τ => Wp M d Q (pc + 3) ls (st) τ) 0 [some (.inr 0), some a1, some a2, none, none, none] [] σ) : Wp M d Q pc ls (a2 :: a1 :: .inr 0 :: st) σ := w_cv (M' := mX0_shareGrowth) (k := 0) (vs := [a1, a2]) hd (by rw [hM]; exact tw_329) tw_330 tw_331 cw_X0_shareGrowth rfl rfl rfl (Nat.le_of_ble_eq_true rfl) hdd hst h
theorem tw_145 : Cond.fieldLink RX6 91 "ShelfShift$Books" "count" "I" ∈ TB := tb_of 145 (by decide +kernel) (by decide +kernel)
theorem gf_X6_91 {M : MI} {d pc : Nat} {Q : Int → St → Prop} {ls : List (Option PV)} {st : List PV} {σ : St} (hM : M.1.cls = RX6) (hd : decode M.2.1 pc = .ok (.getfield 91, 3)) (h : Wp M d Q (pc + 3) ls (.inl (σ 0 6) :: st) σ) : Wp M d Q pc ls (.inr 0 :: st) σ := w_get (k := 0) (j := 6) (v := .inl (σ 0 6)) rfl inTB0 rfl (by decide) (by rw [hM]; exact tw_145) (fun _ => rfl) hd h
theorem tw_349 : Cond.methodLink RX6 92 yX0_numberBehind ∈ TB := tb_of 349 (by decide +kernel) (by decide +kernel)
theorem tw_350 : Cond.instanceMethod yX0_numberBehind ∈ TB := tb_of 350 (by decide +kernel) (by decide +kernel)
theorem tw_351 : Cond.selects RX0 yX0_numberBehind yX0_numberBehind ∈ TB := tb_of 351 (by decide +kernel) (by decide +kernel)
theorem cv_X6_92 {M : MI} {d pc : Nat} {Q : Int → St → Prop} {ls : List (Option PV)} {st : List PV} {σ : St} {d' : Nat} {a1 : PV} (hM : M.1.cls = RX6) (hd : decode M.2.1 pc = .ok (.invokevirtual 92, 3)) (hdd : d' < d) (hst : st.length ≤ 8) (h : Wp mX0_numberBehind d' (fun z τ => Wp M d Q (pc + 3) ls (.inl z :: st) τ) 0 [some (.inr 0), some a1, none] [] σ) : Wp M d Q pc ls (a1 :: .inr 0 :: st) σ := w_cv (M' := mX0_numberBehind) (k := 0) (vs := [a1]) hd (by rw [hM]; exact tw_349) tw_350 tw_351 cw_X0_numberBehind rfl rfl rfl (Nat.le_of_ble_eq_true rfl) hdd hst h
theorem tw_271 : Cond.fieldLink RX6 33 "ShelfShift" "cutter" "LShelfShift$Cutter;" ∈ TB := tb_of 271 (by decide +kernel) (by decide +kernel)
theorem gf_X6_33 {M : MI} {d pc : Nat} {Q : Int → St → Prop} {ls : List (Option PV)} {st : List PV} {σ : St} (hM : M.1.cls = RX6) (hd : decode M.2.1 pc = .ok (.getfield 33, 3)) (h : Wp M d Q (pc + 3) ls (.inr 1 :: st) σ) : Wp M d Q pc ls (.inr 6 :: st) σ := w_get (k := 6) (j := 3) (v := .inr 1) rfl inTB6 rfl (by decide) (by rw [hM]; exact tw_271) (fun _ => rfl) hd h
theorem tw_353 : Cond.methodLink RX6 95 yX1_load ∈ TB := tb_of 353 (by decide +kernel) (by decide +kernel)
theorem tw_354 : Cond.instanceMethod yX1_load ∈ TB := tb_of 354 (by decide +kernel) (by decide +kernel)
theorem tw_355 : Cond.selects RX1 yX1_load yX1_load ∈ TB := tb_of 355 (by decide +kernel) (by decide +kernel)
theorem cv_X6_95 {M : MI} {d pc : Nat} {Q : Int → St → Prop} {ls : List (Option PV)} {st : List PV} {σ : St} {d' : Nat} {a1 a2 a3 : PV} (hM : M.1.cls = RX6) (hd : decode M.2.1 pc = .ok (.invokevirtual 95, 3)) (hdd : d' < d) (hst : st.length ≤ 8) (h : Wp mX1_load d' (fun z τ => Wp M d Q (pc + 3) ls (st) τ) 0 [some (.inr 1), some a1, some a2, some a3, none] [] σ) : Wp M d Q pc ls (a3 :: a2 :: a1 :: .inr 1 :: st) σ := w_cv (M' := mX1_load) (k := 1) (vs := [a1, a2, a3]) hd (by rw [hM]; exact tw_353) tw_354 tw_355 cw_X1_load rfl rfl rfl (Nat.le_of_ble_eq_true rfl) hdd hst h
theorem tw_357 : Cond.methodLink RX6 99 yX1_insert ∈ TB := tb_of 357 (by decide +kernel) (by decide +kernel)
theorem tw_358 : Cond.instanceMethod yX1_insert ∈ TB := tb_of 358 (by decide +kernel) (by decide +kernel)
theorem tw_359 : Cond.selects RX1 yX1_insert yX1_insert ∈ TB := tb_of 359 (by decide +kernel) (by decide +kernel)
theorem cv_X6_99 {M : MI} {d pc : Nat} {Q : Int → St → Prop} {ls : List (Option PV)} {st : List PV} {σ : St} {d' : Nat} {a1 a2 : PV} (hM : M.1.cls = RX6) (hd : decode M.2.1 pc = .ok (.invokevirtual 99, 3)) (hdd : d' < d) (hst : st.length ≤ 8) (h : Wp mX1_insert d' (fun z τ => Wp M d Q (pc + 3) ls (st) τ) 0 [some (.inr 1), some a1, some a2] [] σ) : Wp M d Q pc ls (a2 :: a1 :: .inr 1 :: st) σ := w_cv (M' := mX1_insert) (k := 1) (vs := [a1, a2]) hd (by rw [hM]; exact tw_357) tw_358 tw_359 cw_X1_insert rfl rfl rfl (Nat.le_of_ble_eq_true rfl) hdd hst h
theorem tw_364 : Cond.methodLink RX6 102 yX1_findCuts ∈ TB := tb_of 364 (by decide +kernel) (by decide +kernel)
theorem tw_365 : Cond.instanceMethod yX1_findCuts ∈ TB := tb_of 365 (by decide +kernel) (by decide +kernel)
theorem tw_366 : Cond.selects RX1 yX1_findCuts yX1_findCuts ∈ TB := tb_of 366 (by decide +kernel) (by decide +kernel)
theorem cv_X6_102 {M : MI} {d pc : Nat} {Q : Int → St → Prop} {ls : List (Option PV)} {st : List PV} {σ : St} {d' : Nat} (hM : M.1.cls = RX6) (hd : decode M.2.1 pc = .ok (.invokevirtual 102, 3)) (hdd : d' < d) (hst : st.length ≤ 8) (h : Wp mX1_findCuts d' (fun z τ => Wp M d Q (pc + 3) ls (.inl z :: st) τ) 0 [some (.inr 1), none, none] [] σ) : Wp M d Q pc ls (.inr 1 :: st) σ := w_cv (M' := mX1_findCuts) (k := 1) (vs := []) hd (by rw [hM]; exact tw_364) tw_365 tw_366 cw_X1_findCuts rfl rfl rfl (Nat.le_of_ble_eq_true rfl) hdd hst h
theorem tw_174 : Cond.fieldLink RX6 106 "ShelfShift$Cutter" "goes" "[I" ∈ TB := tb_of 174 (by decide +kernel) (by decide +kernel)
theorem gf_X6_106 {M : MI} {d pc : Nat} {Q : Int → St → Prop} {ls : List (Option PV)} {st : List PV} {σ : St} (hM : M.1.cls = RX6) (hd : decode M.2.1 pc = .ok (.getfield 106, 3)) (h : Wp M d Q (pc + 3) ls (.inr 14 :: st) σ) : Wp M d Q pc ls (.inr 1 :: st) σ := w_get (k := 1) (j := 0) (v := .inr 14) rfl inTB1 rfl (by decide) (by rw [hM]; exact tw_174) (fun _ => rfl) hd h
theorem tw_382 : Cond.methodLink RX6 109 yX1_forget ∈ TB := tb_of 382 (by decide +kernel) (by decide +kernel)
theorem tw_383 : Cond.instanceMethod yX1_forget ∈ TB := tb_of 383 (by decide +kernel) (by decide +kernel)
theorem tw_384 : Cond.selects RX1 yX1_forget yX1_forget ∈ TB := tb_of 384 (by decide +kernel) (by decide +kernel)
theorem cv_X6_109 {M : MI} {d pc : Nat} {Q : Int → St → Prop} {ls : List (Option PV)} {st : List PV} {σ : St} {d' : Nat} {a1 : PV} (hM : M.1.cls = RX6) (hd : decode M.2.1 pc = .ok (.invokevirtual 109, 3)) (hdd : d' < d) (hst : st.length ≤ 8) (h : Wp mX1_forget d' (fun z τ => Wp M d Q (pc + 3) ls (st) τ) 0 [some (.inr 1), some a1] [] σ) : Wp M d Q pc ls (a1 :: .inr 1 :: st) σ := w_cv (M' := mX1_forget) (k := 1) (vs := [a1]) hd (by rw [hM]; exact tw_382) tw_383 tw_384 cw_X1_forget rfl rfl rfl (Nat.le_of_ble_eq_true rfl) hdd hst h
theorem tw_386 : Cond.methodLink RX6 113 yX6_moveAtOnce ∈ TB := tb_of 386 (by decide +kernel) (by decide +kernel)
theorem tw_388 : Cond.instanceMethod yX6_moveAtOnce ∈ TB := tb_of 388 (by decide +kernel) (by decide +kernel)
theorem tw_7 : Cond.selects RX6 yX6_moveAtOnce yX6_moveAtOnce ∈ TB := tb_of 7 (by decide +kernel) (by decide +kernel)
theorem cv_X6_113 {M : MI} {d pc : Nat} {Q : Int → St → Prop} {ls : List (Option PV)} {st : List PV} {σ : St} {d' : Nat} (hM : M.1.cls = RX6) (hd : decode M.2.1 pc = .ok (.invokevirtual 113, 3)) (hdd : d' < d) (hst : st.length ≤ 8) (h : Wp mX6_moveAtOnce d' (fun z τ => Wp M d Q (pc + 3) ls (st) τ) 0 [some (.inr 6), none, none] [] σ) : Wp M d Q pc ls (.inr 6 :: st) σ := w_cv (M' := mX6_moveAtOnce) (k := 6) (vs := []) hd (by rw [hM]; exact tw_386) tw_388 tw_7 cw_X6_moveAtOnce rfl rfl rfl (Nat.le_of_ble_eq_true rfl) hdd hst h
theorem tw_423 : Cond.methodLink RX6 116 yX0_insert ∈ TB := tb_of 423 (by decide +kernel) (by decide +kernel)
theorem tw_424 : Cond.instanceMethod yX0_insert ∈ TB := tb_of 424 (by decide +kernel) (by decide +kernel)
theorem tw_425 : Cond.selects RX0 yX0_insert yX0_insert ∈ TB := tb_of 425 (by decide +kernel) (by decide +kernel)
theorem cv_X6_116 {M : MI} {d pc : Nat} {Q : Int → St → Prop} {ls : List (Option PV)} {st : List PV} {σ : St} {d' : Nat} {a1 a2 a3 a4 : PV} (hM : M.1.cls = RX6) (hd : decode M.2.1 pc = .ok (.invokevirtual 116, 3)) (hdd : d' < d) (hst : st.length ≤ 8) (h : Wp mX0_insert d' (fun z τ => Wp M d Q (pc + 3) ls (st) τ) 0 [some (.inr 0), some a1, some a2, some a3, some a4] [] σ) : Wp M d Q pc ls (a4 :: a3 :: a2 :: a1 :: .inr 0 :: st) σ := w_cv (M' := mX0_insert) (k := 0) (vs := [a1, a2, a3, a4]) hd (by rw [hM]; exact tw_423) tw_424 tw_425 cw_X0_insert rfl rfl rfl (Nat.le_of_ble_eq_true rfl) hdd hst h
theorem tw_273 : Cond.fieldLink RX6 47 "ShelfShift" "logbook" "LShelfShift$Logbook;" ∈ TB := tb_of 273 (by decide +kernel) (by decide +kernel)
theorem gf_X6_47 {M : MI} {d pc : Nat} {Q : Int → St → Prop} {ls : List (Option PV)} {st : List PV} {σ : St} (hM : M.1.cls = RX6) (hd : decode M.2.1 pc = .ok (.getfield 47, 3)) (h : Wp M d Q (pc + 3) ls (.inr 3 :: st) σ) : Wp M d Q pc ls (.inr 6 :: st) σ := w_get (k := 6) (j := 5) (v := .inr 3) rfl inTB6 rfl (by decide) (by rw [hM]; exact tw_273) (fun _ => rfl) hd h
theorem tw_408 : Cond.methodLink RX6 119 yX3_write ∈ TB := tb_of 408 (by decide +kernel) (by decide +kernel)
theorem tw_409 : Cond.instanceMethod yX3_write ∈ TB := tb_of 409 (by decide +kernel) (by decide +kernel)
theorem tw_410 : Cond.selects RX3 yX3_write yX3_write ∈ TB := tb_of 410 (by decide +kernel) (by decide +kernel)
theorem cv_X6_119 {M : MI} {d pc : Nat} {Q : Int → St → Prop} {ls : List (Option PV)} {st : List PV} {σ : St} {d' : Nat} {a1 a2 a3 a4 a5 : PV} (hM : M.1.cls = RX6) (hd : decode M.2.1 pc = .ok (.invokevirtual 119, 3)) (hdd : d' < d) (hst : st.length ≤ 8) (h : Wp mX3_write d' (fun z τ => Wp M d Q (pc + 3) ls (st) τ) 0 [some (.inr 3), some a1, some a2, some a3, some a4, some a5, none] [] σ) : Wp M d Q pc ls (a5 :: a4 :: a3 :: a2 :: a1 :: .inr 3 :: st) σ := w_cv (M' := mX3_write) (k := 3) (vs := [a1, a2, a3, a4, a5]) hd (by rw [hM]; exact tw_408) tw_409 tw_410 cw_X3_write rfl rfl rfl (Nat.le_of_ble_eq_true rfl) hdd hst h
theorem tw_436 : Cond.methodLink RX6 123 yX6_hasBook ∈ TB := tb_of 436 (by decide +kernel) (by decide +kernel)
theorem tw_438 : Cond.instanceMethod yX6_hasBook ∈ TB := tb_of 438 (by decide +kernel) (by decide +kernel)
theorem tw_11 : Cond.selects RX6 yX6_hasBook yX6_hasBook ∈ TB := tb_of 11 (by decide +kernel) (by decide +kernel)
theorem cv_X6_123 {M : MI} {d pc : Nat} {Q : Int → St → Prop} {ls : List (Option PV)} {st : List PV} {σ : St} {d' : Nat} {a1 : PV} (hM : M.1.cls = RX6) (hd : decode M.2.1 pc = .ok (.invokevirtual 123, 3)) (hdd : d' < d) (hst : st.length ≤ 8) (h : Wp mX6_hasBook d' (fun z τ => Wp M d Q (pc + 3) ls (.inl z :: st) τ) 0 [some (.inr 6), some a1] [] σ) : Wp M d Q pc ls (a1 :: .inr 6 :: st) σ := w_cv (M' := mX6_hasBook) (k := 6) (vs := [a1]) hd (by rw [hM]; exact tw_436) tw_438 tw_11 cw_X6_hasBook rfl rfl rfl (Nat.le_of_ble_eq_true rfl) hdd hst h
theorem tw_138 : Cond.fieldLink RX6 126 "ShelfShift$Books" "shelf" "[I" ∈ TB := tb_of 138 (by decide +kernel) (by decide +kernel)
theorem gf_X6_126 {M : MI} {d pc : Nat} {Q : Int → St → Prop} {ls : List (Option PV)} {st : List PV} {σ : St} (hM : M.1.cls = RX6) (hd : decode M.2.1 pc = .ok (.getfield 126, 3)) (h : Wp M d Q (pc + 3) ls (.inr 11 :: st) σ) : Wp M d Q pc ls (.inr 0 :: st) σ := w_get (k := 0) (j := 3) (v := .inr 11) rfl inTB0 rfl (by decide) (by rw [hM]; exact tw_138) (fun _ => rfl) hd h
theorem tw_127 : Cond.fieldLink RX6 129 "ShelfShift$Books" "group" "[I" ∈ TB := tb_of 127 (by decide +kernel) (by decide +kernel)
theorem gf_X6_129 {M : MI} {d pc : Nat} {Q : Int → St → Prop} {ls : List (Option PV)} {st : List PV} {σ : St} (hM : M.1.cls = RX6) (hd : decode M.2.1 pc = .ok (.getfield 129, 3)) (h : Wp M d Q (pc + 3) ls (.inr 8 :: st) σ) : Wp M d Q pc ls (.inr 0 :: st) σ := w_get (k := 0) (j := 0) (v := .inr 8) rfl inTB0 rfl (by decide) (by rw [hM]; exact tw_127) (fun _ => rfl) hd h
theorem tw_131 : Cond.fieldLink RX6 132 "ShelfShift$Books" "width" "[I" ∈ TB := tb_of 131 (by decide +kernel) (by decide +kernel)
theorem gf_X6_132 {M : MI} {d pc : Nat} {Q : Int → St → Prop} {ls : List (Option PV)} {st : List PV} {σ : St} (hM : M.1.cls = RX6) (hd : decode M.2.1 pc = .ok (.getfield 132, 3)) (h : Wp M d Q (pc + 3) ls (.inr 9 :: st) σ) : Wp M d Q pc ls (.inr 0 :: st) σ := w_get (k := 0) (j := 1) (v := .inr 9) rfl inTB0 rfl (by decide) (by rw [hM]; exact tw_131) (fun _ => rfl) hd h
theorem tw_440 : Cond.methodLink RX6 135 yX0_remove ∈ TB := tb_of 440 (by decide +kernel) (by decide +kernel)
theorem tw_441 : Cond.instanceMethod yX0_remove ∈ TB := tb_of 441 (by decide +kernel) (by decide +kernel)
theorem tw_442 : Cond.selects RX0 yX0_remove yX0_remove ∈ TB := tb_of 442 (by decide +kernel) (by decide +kernel)
theorem cv_X6_135 {M : MI} {d pc : Nat} {Q : Int → St → Prop} {ls : List (Option PV)} {st : List PV} {σ : St} {d' : Nat} {a1 : PV} (hM : M.1.cls = RX6) (hd : decode M.2.1 pc = .ok (.invokevirtual 135, 3)) (hdd : d' < d) (hst : st.length ≤ 8) (h : Wp mX0_remove d' (fun z τ => Wp M d Q (pc + 3) ls (st) τ) 0 [some (.inr 0), some a1] [] σ) : Wp M d Q pc ls (a1 :: .inr 0 :: st) σ := w_cv (M' := mX0_remove) (k := 0) (vs := [a1]) hd (by rw [hM]; exact tw_440) tw_441 tw_442 cw_X0_remove rfl rfl rfl (Nat.le_of_ble_eq_true rfl) hdd hst h
theorem tw_274 : Cond.fieldLink RX6 51 "ShelfShift" "dayLimit" "I" ∈ TB := tb_of 274 (by decide +kernel) (by decide +kernel)
theorem gf_X6_51 {M : MI} {d pc : Nat} {Q : Int → St → Prop} {ls : List (Option PV)} {st : List PV} {σ : St} (hM : M.1.cls = RX6) (hd : decode M.2.1 pc = .ok (.getfield 51, 3)) (h : Wp M d Q (pc + 3) ls (.inl (σ 6 6) :: st) σ) : Wp M d Q pc ls (.inr 6 :: st) σ := w_get (k := 6) (j := 6) (v := .inl (σ 6 6)) rfl inTB6 rfl (by decide) (by rw [hM]; exact tw_274) (fun _ => rfl) hd h
theorem pf_X6_51 {M : MI} {d pc : Nat} {Q : Int → St → Prop} {ls : List (Option PV)} {st : List PV} {σ : St} {z : Int} (hM : M.1.cls = RX6) (hz : InR z) (hd : decode M.2.1 pc = .ok (.putfield 51, 3)) (h : Wp M d Q (pc + 3) ls st (put σ 6 6 z)) : Wp M d Q pc ls (.inl z :: .inr 6 :: st) σ := w_put (k := 6) (j := 6) (ty := .int) rfl inTB6 tyX6 tyX6_ok nmX6 rfl (by decide) rfl rfl (by rw [hM]; exact tw_274) (by decide +kernel) rfl rfl hz hd h
theorem tw_456 : Cond.methodLink RX6 138 yX0_allWidths ∈ TB := tb_of 456 (by decide +kernel) (by decide +kernel)
theorem tw_457 : Cond.instanceMethod yX0_allWidths ∈ TB := tb_of 457 (by decide +kernel) (by decide +kernel)
theorem tw_458 : Cond.selects RX0 yX0_allWidths yX0_allWidths ∈ TB := tb_of 458 (by decide +kernel) (by decide +kernel)
theorem cv_X6_138 {M : MI} {d pc : Nat} {Q : Int → St → Prop} {ls : List (Option PV)} {st : List PV} {σ : St} {d' : Nat} (hM : M.1.cls = RX6) (hd : decode M.2.1 pc = .ok (.invokevirtual 138, 3)) (hdd : d' < d) (hst : st.length ≤ 8) (h : Wp mX0_allWidths d' (fun z τ => Wp M d Q (pc + 3) ls (.inl z :: st) τ) 0 [some (.inr 0), none, none] [] σ) : Wp M d Q pc ls (.inr 0 :: st) σ := w_cv (M' := mX0_allWidths) (k := 0) (vs := []) hd (by rw [hM]; exact tw_456) tw_457 tw_458 cw_X0_allWidths rfl rfl rfl (Nat.le_of_ble_eq_true rfl) hdd hst h
theorem tw_460 : Cond.methodLink RX6 142 yX5_openLengths ∈ TB := tb_of 460 (by decide +kernel) (by decide +kernel)
theorem tw_461 : Cond.instanceMethod yX5_openLengths ∈ TB := tb_of 461 (by decide +kernel) (by decide +kernel)
theorem tw_462 : Cond.selects RX5 yX5_openLengths yX5_openLengths ∈ TB := tb_of 462 (by decide +kernel) (by decide +kernel)
theorem cv_X6_142 {M : MI} {d pc : Nat} {Q : Int → St → Prop} {ls : List (Option PV)} {st : List PV} {σ : St} {d' : Nat} (hM : M.1.cls = RX6) (hd : decode M.2.1 pc = .ok (.invokevirtual 142, 3)) (hdd : d' < d) (hst : st.length ≤ 8) (h : Wp mX5_openLengths d' (fun z τ => Wp M d Q (pc + 3) ls (.inl z :: st) τ) 0 [some (.inr 5), none, none] [] σ) : Wp M d Q pc ls (.inr 5 :: st) σ := w_cv (M' := mX5_openLengths) (k := 5) (vs := []) hd (by rw [hM]; exact tw_460) tw_461 tw_462 cw_X5_openLengths rfl rfl rfl (Nat.le_of_ble_eq_true rfl) hdd hst h
theorem tw_229 : Cond.fieldLink RX6 145 "ShelfShift$Plan" "total" "I" ∈ TB := tb_of 229 (by decide +kernel) (by decide +kernel)
theorem gf_X6_145 {M : MI} {d pc : Nat} {Q : Int → St → Prop} {ls : List (Option PV)} {st : List PV} {σ : St} (hM : M.1.cls = RX6) (hd : decode M.2.1 pc = .ok (.getfield 145, 3)) (h : Wp M d Q (pc + 3) ls (.inl (σ 4 5) :: st) σ) : Wp M d Q pc ls (.inr 4 :: st) σ := w_get (k := 4) (j := 5) (v := .inl (σ 4 5)) rfl inTB4 rfl (by decide) (by rw [hM]; exact tw_229) (fun _ => rfl) hd h
theorem tw_231 : Cond.fieldLink RX6 148 "ShelfShift$Plan" "done" "I" ∈ TB := tb_of 231 (by decide +kernel) (by decide +kernel)
theorem gf_X6_148 {M : MI} {d pc : Nat} {Q : Int → St → Prop} {ls : List (Option PV)} {st : List PV} {σ : St} (hM : M.1.cls = RX6) (hd : decode M.2.1 pc = .ok (.getfield 148, 3)) (h : Wp M d Q (pc + 3) ls (.inl (σ 4 6) :: st) σ) : Wp M d Q pc ls (.inr 4 :: st) σ := w_get (k := 4) (j := 6) (v := .inl (σ 4 6)) rfl inTB4 rfl (by decide) (by rw [hM]; exact tw_231) (fun _ => rfl) hd h
theorem tw_464 : Cond.methodLink RX6 151 yX4_exists ∈ TB := tb_of 464 (by decide +kernel) (by decide +kernel)
theorem tw_465 : Cond.instanceMethod yX4_exists ∈ TB := tb_of 465 (by decide +kernel) (by decide +kernel)
theorem tw_466 : Cond.selects RX4 yX4_exists yX4_exists ∈ TB := tb_of 466 (by decide +kernel) (by decide +kernel)
theorem cv_X6_151 {M : MI} {d pc : Nat} {Q : Int → St → Prop} {ls : List (Option PV)} {st : List PV} {σ : St} {d' : Nat} (hM : M.1.cls = RX6) (hd : decode M.2.1 pc = .ok (.invokevirtual 151, 3)) (hdd : d' < d) (hst : st.length ≤ 8) (h : Wp mX4_exists d' (fun z τ => Wp M d Q (pc + 3) ls (.inl z :: st) τ) 0 [some (.inr 4)] [] σ) : Wp M d Q pc ls (.inr 4 :: st) σ := w_cv (M' := mX4_exists) (k := 4) (vs := []) hd (by rw [hM]; exact tw_464) tw_465 tw_466 cw_X4_exists rfl rfl rfl (Nat.le_of_ble_eq_true rfl) hdd hst h
theorem tw_233 : Cond.fieldLink RX6 154 "ShelfShift$Plan" "years" "I" ∈ TB := tb_of 233 (by decide +kernel) (by decide +kernel)
theorem gf_X6_154 {M : MI} {d pc : Nat} {Q : Int → St → Prop} {ls : List (Option PV)} {st : List PV} {σ : St} (hM : M.1.cls = RX6) (hd : decode M.2.1 pc = .ok (.getfield 154, 3)) (h : Wp M d Q (pc + 3) ls (.inl (σ 4 7) :: st) σ) : Wp M d Q pc ls (.inr 4 :: st) σ := w_get (k := 4) (j := 7) (v := .inl (σ 4 7)) rfl inTB4 rfl (by decide) (by rw [hM]; exact tw_233) (fun _ => rfl) hd h
theorem tw_260 : Cond.fieldLink RX6 157 "ShelfShift$Logbook" "count" "I" ∈ TB := tb_of 260 (by decide +kernel) (by decide +kernel)
theorem gf_X6_157 {M : MI} {d pc : Nat} {Q : Int → St → Prop} {ls : List (Option PV)} {st : List PV} {σ : St} (hM : M.1.cls = RX6) (hd : decode M.2.1 pc = .ok (.getfield 157, 3)) (h : Wp M d Q (pc + 3) ls (.inl (σ 3 2) :: st) σ) : Wp M d Q pc ls (.inr 3 :: st) σ := w_get (k := 3) (j := 2) (v := .inl (σ 3 2)) rfl inTB3 rfl (by decide) (by rw [hM]; exact tw_260) (fun _ => rfl) hd h
theorem tw_147 : Cond.fieldLink RX6 158 "ShelfShift$Books" "handledInAll" "I" ∈ TB := tb_of 147 (by decide +kernel) (by decide +kernel)
theorem gf_X6_158 {M : MI} {d pc : Nat} {Q : Int → St → Prop} {ls : List (Option PV)} {st : List PV} {σ : St} (hM : M.1.cls = RX6) (hd : decode M.2.1 pc = .ok (.getfield 158, 3)) (h : Wp M d Q (pc + 3) ls (.inl (σ 0 7) :: st) σ) : Wp M d Q pc ls (.inr 0 :: st) σ := w_get (k := 0) (j := 7) (v := .inl (σ 0 7)) rfl inTB0 rfl (by decide) (by rw [hM]; exact tw_147) (fun _ => rfl) hd h
theorem tw_90 : Cond.fieldLink RX6 168 "ShelfShift$Shelves" "length" "[I" ∈ TB := tb_of 90 (by decide +kernel) (by decide +kernel)
theorem gf_X6_168 {M : MI} {d pc : Nat} {Q : Int → St → Prop} {ls : List (Option PV)} {st : List PV} {σ : St} (hM : M.1.cls = RX6) (hd : decode M.2.1 pc = .ok (.getfield 168, 3)) (h : Wp M d Q (pc + 3) ls (.inr 55 :: st) σ) : Wp M d Q pc ls (.inr 5 :: st) σ := w_get (k := 5) (j := 0) (v := .inr 55) rfl inTB5 rfl (by decide) (by rw [hM]; exact tw_90) (fun _ => rfl) hd h
theorem tw_492 : Cond.methodLink RX6 171 yX0_loadOn ∈ TB := tb_of 492 (by decide +kernel) (by decide +kernel)
theorem tw_493 : Cond.instanceMethod yX0_loadOn ∈ TB := tb_of 493 (by decide +kernel) (by decide +kernel)
theorem tw_494 : Cond.selects RX0 yX0_loadOn yX0_loadOn ∈ TB := tb_of 494 (by decide +kernel) (by decide +kernel)
theorem cv_X6_171 {M : MI} {d pc : Nat} {Q : Int → St → Prop} {ls : List (Option PV)} {st : List PV} {σ : St} {d' : Nat} {a1 : PV} (hM : M.1.cls = RX6) (hd : decode M.2.1 pc = .ok (.invokevirtual 171, 3)) (hdd : d' < d) (hst : st.length ≤ 8) (h : Wp mX0_loadOn d' (fun z τ => Wp M d Q (pc + 3) ls (.inl z :: st) τ) 0 [some (.inr 0), some a1] [] σ) : Wp M d Q pc ls (a1 :: .inr 0 :: st) σ := w_cv (M' := mX0_loadOn) (k := 0) (vs := [a1]) hd (by rw [hM]; exact tw_492) tw_493 tw_494 cw_X0_loadOn rfl rfl rfl (Nat.le_of_ble_eq_true rfl) hdd hst h
theorem tw_488 : Cond.methodLink RX6 174 yX6_roomOn ∈ TB := tb_of 488 (by decide +kernel) (by decide +kernel)
theorem tw_490 : Cond.instanceMethod yX6_roomOn ∈ TB := tb_of 490 (by decide +kernel) (by decide +kernel)
theorem tw_15 : Cond.selects RX6 yX6_roomOn yX6_roomOn ∈ TB := tb_of 15 (by decide +kernel) (by decide +kernel)
theorem cv_X6_174 {M : MI} {d pc : Nat} {Q : Int → St → Prop} {ls : List (Option PV)} {st : List PV} {σ : St} {d' : Nat} {a1 : PV} (hM : M.1.cls = RX6) (hd : decode M.2.1 pc = .ok (.invokevirtual 174, 3)) (hdd : d' < d) (hst : st.length ≤ 8) (h : Wp mX6_roomOn d' (fun z τ => Wp M d Q (pc + 3) ls (.inl z :: st) τ) 0 [some (.inr 6), some a1] [] σ) : Wp M d Q pc ls (a1 :: .inr 6 :: st) σ := w_cv (M' := mX6_roomOn) (k := 6) (vs := [a1]) hd (by rw [hM]; exact tw_488) tw_490 tw_15 cw_X6_roomOn rfl rfl rfl (Nat.le_of_ble_eq_true rfl) hdd hst h
theorem tw_484 : Cond.methodLink RX6 177 yX0_rateOn ∈ TB := tb_of 484 (by decide +kernel) (by decide +kernel)
theorem tw_485 : Cond.instanceMethod yX0_rateOn ∈ TB := tb_of 485 (by decide +kernel) (by decide +kernel)
theorem tw_486 : Cond.selects RX0 yX0_rateOn yX0_rateOn ∈ TB := tb_of 486 (by decide +kernel) (by decide +kernel)
theorem cv_X6_177 {M : MI} {d pc : Nat} {Q : Int → St → Prop} {ls : List (Option PV)} {st : List PV} {σ : St} {d' : Nat} {a1 : PV} (hM : M.1.cls = RX6) (hd : decode M.2.1 pc = .ok (.invokevirtual 177, 3)) (hdd : d' < d) (hst : st.length ≤ 8) (h : Wp mX0_rateOn d' (fun z τ => Wp M d Q (pc + 3) ls (.inl z :: st) τ) 0 [some (.inr 0), some a1] [] σ) : Wp M d Q pc ls (a1 :: .inr 0 :: st) σ := w_cv (M' := mX0_rateOn) (k := 0) (vs := [a1]) hd (by rw [hM]; exact tw_484) tw_485 tw_486 cw_X0_rateOn rfl rfl rfl (Nat.le_of_ble_eq_true rfl) hdd hst h
theorem tw_480 : Cond.methodLink RX6 180 yX6_yearsOn ∈ TB := tb_of 480 (by decide +kernel) (by decide +kernel)
theorem tw_482 : Cond.instanceMethod yX6_yearsOn ∈ TB := tb_of 482 (by decide +kernel) (by decide +kernel)
theorem tw_14 : Cond.selects RX6 yX6_yearsOn yX6_yearsOn ∈ TB := tb_of 14 (by decide +kernel) (by decide +kernel)
theorem cv_X6_180 {M : MI} {d pc : Nat} {Q : Int → St → Prop} {ls : List (Option PV)} {st : List PV} {σ : St} {d' : Nat} {a1 : PV} (hM : M.1.cls = RX6) (hd : decode M.2.1 pc = .ok (.invokevirtual 180, 3)) (hdd : d' < d) (hst : st.length ≤ 8) (h : Wp mX6_yearsOn d' (fun z τ => Wp M d Q (pc + 3) ls (.inl z :: st) τ) 0 [some (.inr 6), some a1, none] [] σ) : Wp M d Q pc ls (a1 :: .inr 6 :: st) σ := w_cv (M' := mX6_yearsOn) (k := 6) (vs := [a1]) hd (by rw [hM]; exact tw_480) tw_482 tw_14 cw_X6_yearsOn rfl rfl rfl (Nat.le_of_ble_eq_true rfl) hdd hst h
theorem tw_672 : Cond.methodLink RX6 183 yX0_firstOn ∈ TB := tb_of 672 (by decide +kernel) (by decide +kernel)
theorem tw_673 : Cond.instanceMethod yX0_firstOn ∈ TB := tb_of 673 (by decide +kernel) (by decide +kernel)
theorem tw_674 : Cond.selects RX0 yX0_firstOn yX0_firstOn ∈ TB := tb_of 674 (by decide +kernel) (by decide +kernel)
theorem cv_X6_183 {M : MI} {d pc : Nat} {Q : Int → St → Prop} {ls : List (Option PV)} {st : List PV} {σ : St} {d' : Nat} {a1 : PV} (hM : M.1.cls = RX6) (hd : decode M.2.1 pc = .ok (.invokevirtual 183, 3)) (hdd : d' < d) (hst : st.length ≤ 8) (h : Wp mX0_firstOn d' (fun z τ => Wp M d Q (pc + 3) ls (.inl z :: st) τ) 0 [some (.inr 0), some a1] [] σ) : Wp M d Q pc ls (a1 :: .inr 0 :: st) σ := w_cv (M' := mX0_firstOn) (k := 0) (vs := [a1]) hd (by rw [hM]; exact tw_672) tw_673 tw_674 cw_X0_firstOn rfl rfl rfl (Nat.le_of_ble_eq_true rfl) hdd hst h
theorem tw_472 : Cond.methodLink RX6 186 yX0_countOn ∈ TB := tb_of 472 (by decide +kernel) (by decide +kernel)
theorem tw_473 : Cond.instanceMethod yX0_countOn ∈ TB := tb_of 473 (by decide +kernel) (by decide +kernel)
theorem tw_474 : Cond.selects RX0 yX0_countOn yX0_countOn ∈ TB := tb_of 474 (by decide +kernel) (by decide +kernel)
theorem cv_X6_186 {M : MI} {d pc : Nat} {Q : Int → St → Prop} {ls : List (Option PV)} {st : List PV} {σ : St} {d' : Nat} {a1 : PV} (hM : M.1.cls = RX6) (hd : decode M.2.1 pc = .ok (.invokevirtual 186, 3)) (hdd : d' < d) (hst : st.length ≤ 8) (h : Wp mX0_countOn d' (fun z τ => Wp M d Q (pc + 3) ls (.inl z :: st) τ) 0 [some (.inr 0), some a1] [] σ) : Wp M d Q pc ls (a1 :: .inr 0 :: st) σ := w_cv (M' := mX0_countOn) (k := 0) (vs := [a1]) hd (by rw [hM]; exact tw_472) tw_473 tw_474 cw_X0_countOn rfl rfl rfl (Nat.le_of_ble_eq_true rfl) hdd hst h
theorem tw_689 : Cond.methodLink RX6 193 yX0_countIn ∈ TB := tb_of 689 (by decide +kernel) (by decide +kernel)
theorem tw_690 : Cond.instanceMethod yX0_countIn ∈ TB := tb_of 690 (by decide +kernel) (by decide +kernel)
theorem tw_691 : Cond.selects RX0 yX0_countIn yX0_countIn ∈ TB := tb_of 691 (by decide +kernel) (by decide +kernel)
theorem cv_X6_193 {M : MI} {d pc : Nat} {Q : Int → St → Prop} {ls : List (Option PV)} {st : List PV} {σ : St} {d' : Nat} {a1 : PV} (hM : M.1.cls = RX6) (hd : decode M.2.1 pc = .ok (.invokevirtual 193, 3)) (hdd : d' < d) (hst : st.length ≤ 8) (h : Wp mX0_countIn d' (fun z τ => Wp M d Q (pc + 3) ls (.inl z :: st) τ) 0 [some (.inr 0), some a1] [] σ) : Wp M d Q pc ls (a1 :: .inr 0 :: st) σ := w_cv (M' := mX0_countIn) (k := 0) (vs := [a1]) hd (by rw [hM]; exact tw_689) tw_690 tw_691 cw_X0_countIn rfl rfl rfl (Nat.le_of_ble_eq_true rfl) hdd hst h
theorem tw_693 : Cond.methodLink RX6 196 yX0_widthsIn ∈ TB := tb_of 693 (by decide +kernel) (by decide +kernel)
theorem cv_X6_196 {M : MI} {d pc : Nat} {Q : Int → St → Prop} {ls : List (Option PV)} {st : List PV} {σ : St} {d' : Nat} {a1 : PV} (hM : M.1.cls = RX6) (hd : decode M.2.1 pc = .ok (.invokevirtual 196, 3)) (hdd : d' < d) (hst : st.length ≤ 8) (h : Wp mX0_widthsIn d' (fun z τ => Wp M d Q (pc + 3) ls (.inl z :: st) τ) 0 [some (.inr 0), some a1] [] σ) : Wp M d Q pc ls (a1 :: .inr 0 :: st) σ := w_cv (M' := mX0_widthsIn) (k := 0) (vs := [a1]) hd (by rw [hM]; exact tw_693) tw_334 tw_335 cw_X0_widthsIn rfl rfl rfl (Nat.le_of_ble_eq_true rfl) hdd hst h
theorem tw_694 : Cond.methodLink RX6 199 yX0_firstIn ∈ TB := tb_of 694 (by decide +kernel) (by decide +kernel)
theorem tw_695 : Cond.instanceMethod yX0_firstIn ∈ TB := tb_of 695 (by decide +kernel) (by decide +kernel)
theorem tw_696 : Cond.selects RX0 yX0_firstIn yX0_firstIn ∈ TB := tb_of 696 (by decide +kernel) (by decide +kernel)
theorem cv_X6_199 {M : MI} {d pc : Nat} {Q : Int → St → Prop} {ls : List (Option PV)} {st : List PV} {σ : St} {d' : Nat} {a1 : PV} (hM : M.1.cls = RX6) (hd : decode M.2.1 pc = .ok (.invokevirtual 199, 3)) (hdd : d' < d) (hst : st.length ≤ 8) (h : Wp mX0_firstIn d' (fun z τ => Wp M d Q (pc + 3) ls (.inl z :: st) τ) 0 [some (.inr 0), some a1] [] σ) : Wp M d Q pc ls (a1 :: .inr 0 :: st) σ := w_cv (M' := mX0_firstIn) (k := 0) (vs := [a1]) hd (by rw [hM]; exact tw_694) tw_695 tw_696 cw_X0_firstIn rfl rfl rfl (Nat.le_of_ble_eq_true rfl) hdd hst h
theorem tw_698 : Cond.methodLink RX6 202 yX0_shelvesOf ∈ TB := tb_of 698 (by decide +kernel) (by decide +kernel)
theorem tw_699 : Cond.instanceMethod yX0_shelvesOf ∈ TB := tb_of 699 (by decide +kernel) (by decide +kernel)
theorem tw_700 : Cond.selects RX0 yX0_shelvesOf yX0_shelvesOf ∈ TB := tb_of 700 (by decide +kernel) (by decide +kernel)
theorem cv_X6_202 {M : MI} {d pc : Nat} {Q : Int → St → Prop} {ls : List (Option PV)} {st : List PV} {σ : St} {d' : Nat} {a1 : PV} (hM : M.1.cls = RX6) (hd : decode M.2.1 pc = .ok (.invokevirtual 202, 3)) (hdd : d' < d) (hst : st.length ≤ 8) (h : Wp mX0_shelvesOf d' (fun z τ => Wp M d Q (pc + 3) ls (.inl z :: st) τ) 0 [some (.inr 0), some a1, none, none, none] [] σ) : Wp M d Q pc ls (a1 :: .inr 0 :: st) σ := w_cv (M' := mX0_shelvesOf) (k := 0) (vs := [a1]) hd (by rw [hM]; exact tw_698) tw_699 tw_700 cw_X0_shelvesOf rfl rfl rfl (Nat.le_of_ble_eq_true rfl) hdd hst h
theorem tw_134 : Cond.fieldLink RX6 207 "ShelfShift$Books" "need" "[I" ∈ TB := tb_of 134 (by decide +kernel) (by decide +kernel)
theorem gf_X6_207 {M : MI} {d pc : Nat} {Q : Int → St → Prop} {ls : List (Option PV)} {st : List PV} {σ : St} (hM : M.1.cls = RX6) (hd : decode M.2.1 pc = .ok (.getfield 207, 3)) (h : Wp M d Q (pc + 3) ls (.inr 10 :: st) σ) : Wp M d Q pc ls (.inr 0 :: st) σ := w_get (k := 0) (j := 2) (v := .inr 10) rfl inTB0 rfl (by decide) (by rw [hM]; exact tw_134) (fun _ => rfl) hd h
theorem tw_710 : Cond.methodLink RX6 210 yX0_widthsAheadOf ∈ TB := tb_of 710 (by decide +kernel) (by decide +kernel)
theorem tw_711 : Cond.instanceMethod yX0_widthsAheadOf ∈ TB := tb_of 711 (by decide +kernel) (by decide +kernel)
theorem tw_712 : Cond.selects RX0 yX0_widthsAheadOf yX0_widthsAheadOf ∈ TB := tb_of 712 (by decide +kernel) (by decide +kernel)
theorem cv_X6_210 {M : MI} {d pc : Nat} {Q : Int → St → Prop} {ls : List (Option PV)} {st : List PV} {σ : St} {d' : Nat} {a1 : PV} (hM : M.1.cls = RX6) (hd : decode M.2.1 pc = .ok (.invokevirtual 210, 3)) (hdd : d' < d) (hst : st.length ≤ 8) (h : Wp mX0_widthsAheadOf d' (fun z τ => Wp M d Q (pc + 3) ls (.inl z :: st) τ) 0 [some (.inr 0), some a1, none, none] [] σ) : Wp M d Q pc ls (a1 :: .inr 0 :: st) σ := w_cv (M' := mX0_widthsAheadOf) (k := 0) (vs := [a1]) hd (by rw [hM]; exact tw_710) tw_711 tw_712 cw_X0_widthsAheadOf rfl rfl rfl (Nat.le_of_ble_eq_true rfl) hdd hst h
theorem tw_140 : Cond.fieldLink RX6 213 "ShelfShift$Books" "handled" "[I" ∈ TB := tb_of 140 (by decide +kernel) (by decide +kernel)
theorem gf_X6_213 {M : MI} {d pc : Nat} {Q : Int → St → Prop} {ls : List (Option PV)} {st : List PV} {σ : St} (hM : M.1.cls = RX6) (hd : decode M.2.1 pc = .ok (.getfield 213, 3)) (h : Wp M d Q (pc + 3) ls (.inr 12 :: st) σ) : Wp M d Q pc ls (.inr 0 :: st) σ := w_get (k := 0) (j := 4) (v := .inr 12) rfl inTB0 rfl (by decide) (by rw [hM]; exact tw_140) (fun _ => rfl) hd h
theorem tw_219 : Cond.fieldLink RX6 216 "ShelfShift$Plan" "goes" "[I" ∈ TB := tb_of 219 (by decide +kernel) (by decide +kernel)
theorem gf_X6_216 {M : MI} {d pc : Nat} {Q : Int → St → Prop} {ls : List (Option PV)} {st : List PV} {σ : St} (hM : M.1.cls = RX6) (hd : decode M.2.1 pc = .ok (.getfield 216, 3)) (h : Wp M d Q (pc + 3) ls (.inr 50 :: st) σ) : Wp M d Q pc ls (.inr 4 :: st) σ := w_get (k := 4) (j := 0) (v := .inr 50) rfl inTB4 rfl (by decide) (by rw [hM]; exact tw_219) (fun _ => rfl) hd h
theorem tw_496 : Cond.methodLink RX6 217 Lib.Math.min.name ∈ TB := tb_of 496 (by decide +kernel) (by decide +kernel)
theorem tw_501 : Cond.methodLink RX6 222 yX6_hasCuts ∈ TB := tb_of 501 (by decide +kernel) (by decide +kernel)
theorem tw_503 : Cond.instanceMethod yX6_hasCuts ∈ TB := tb_of 503 (by decide +kernel) (by decide +kernel)
theorem tw_16 : Cond.selects RX6 yX6_hasCuts yX6_hasCuts ∈ TB := tb_of 16 (by decide +kernel) (by decide +kernel)
theorem cv_X6_222 {M : MI} {d pc : Nat} {Q : Int → St → Prop} {ls : List (Option PV)} {st : List PV} {σ : St} {d' : Nat} {a1 : PV} (hM : M.1.cls = RX6) (hd : decode M.2.1 pc = .ok (.invokevirtual 222, 3)) (hdd : d' < d) (hst : st.length ≤ 8) (h : Wp mX6_hasCuts d' (fun z τ => Wp M d Q (pc + 3) ls (.inl z :: st) τ) 0 [some (.inr 6), some a1] [] σ) : Wp M d Q pc ls (a1 :: .inr 6 :: st) σ := w_cv (M' := mX6_hasCuts) (k := 6) (vs := [a1]) hd (by rw [hM]; exact tw_501) tw_503 tw_16 cw_X6_hasCuts rfl rfl rfl (Nat.le_of_ble_eq_true rfl) hdd hst h
theorem tw_176 : Cond.fieldLink RX6 225 "ShelfShift$Cutter" "taken" "[I" ∈ TB := tb_of 176 (by decide +kernel) (by decide +kernel)
theorem gf_X6_225 {M : MI} {d pc : Nat} {Q : Int → St → Prop} {ls : List (Option PV)} {st : List PV} {σ : St} (hM : M.1.cls = RX6) (hd : decode M.2.1 pc = .ok (.getfield 225, 3)) (h : Wp M d Q (pc + 3) ls (.inr 15 :: st) σ) : Wp M d Q pc ls (.inr 1 :: st) σ := w_get (k := 1) (j := 1) (v := .inr 15) rfl inTB1 rfl (by decide) (by rw [hM]; exact tw_176) (fun _ => rfl) hd h
theorem tw_509 : Cond.methodLink RX6 228 yX1_partOfPrice ∈ TB := tb_of 509 (by decide +kernel) (by decide +kernel)
theorem tw_510 : Cond.instanceMethod yX1_partOfPrice ∈ TB := tb_of 510 (by decide +kernel) (by decide +kernel)
theorem tw_511 : Cond.selects RX1 yX1_partOfPrice yX1_partOfPrice ∈ TB := tb_of 511 (by decide +kernel) (by decide +kernel)
theorem cv_X6_228 {M : MI} {d pc : Nat} {Q : Int → St → Prop} {ls : List (Option PV)} {st : List PV} {σ : St} {d' : Nat} {a1 : PV} (hM : M.1.cls = RX6) (hd : decode M.2.1 pc = .ok (.invokevirtual 228, 3)) (hdd : d' < d) (hst : st.length ≤ 8) (h : Wp mX1_partOfPrice d' (fun z τ => Wp M d Q (pc + 3) ls (.inl z :: st) τ) 0 [some (.inr 1), some a1] [] σ) : Wp M d Q pc ls (a1 :: .inr 1 :: st) σ := w_cv (M' := mX1_partOfPrice) (k := 1) (vs := [a1]) hd (by rw [hM]; exact tw_509) tw_510 tw_511 cw_X1_partOfPrice rfl rfl rfl (Nat.le_of_ble_eq_true rfl) hdd hst h
theorem tw_517 : Cond.methodLink RX6 231 yX6_isRoomFor ∈ TB := tb_of 517 (by decide +kernel) (by decide +kernel)
theorem tw_519 : Cond.instanceMethod yX6_isRoomFor ∈ TB := tb_of 519 (by decide +kernel) (by decide +kernel)
theorem tw_17 : Cond.selects RX6 yX6_isRoomFor yX6_isRoomFor ∈ TB := tb_of 17 (by decide +kernel) (by decide +kernel)
theorem cv_X6_231 {M : MI} {d pc : Nat} {Q : Int → St → Prop} {ls : List (Option PV)} {st : List PV} {σ : St} {d' : Nat} {a1 a2 : PV} (hM : M.1.cls = RX6) (hd : decode M.2.1 pc = .ok (.invokevirtual 231, 3)) (hdd : d' < d) (hst : st.length ≤ 8) (h : Wp mX6_isRoomFor d' (fun z τ => Wp M d Q (pc + 3) ls (.inl z :: st) τ) 0 [some (.inr 6), some a1, some a2] [] σ) : Wp M d Q pc ls (a2 :: a1 :: .inr 6 :: st) σ := w_cv (M' := mX6_isRoomFor) (k := 6) (vs := [a1, a2]) hd (by rw [hM]; exact tw_517) tw_519 tw_17 cw_X6_isRoomFor rfl rfl rfl (Nat.le_of_ble_eq_true rfl) hdd hst h
theorem tw_521 : Cond.methodLink RX6 235 yX1_shelvesFilled ∈ TB := tb_of 521 (by decide +kernel) (by decide +kernel)
theorem tw_522 : Cond.instanceMethod yX1_shelvesFilled ∈ TB := tb_of 522 (by decide +kernel) (by decide +kernel)
theorem tw_523 : Cond.selects RX1 yX1_shelvesFilled yX1_shelvesFilled ∈ TB := tb_of 523 (by decide +kernel) (by decide +kernel)
theorem cv_X6_235 {M : MI} {d pc : Nat} {Q : Int → St → Prop} {ls : List (Option PV)} {st : List PV} {σ : St} {d' : Nat} {a1 : PV} (hM : M.1.cls = RX6) (hd : decode M.2.1 pc = .ok (.invokevirtual 235, 3)) (hdd : d' < d) (hst : st.length ≤ 8) (h : Wp mX1_shelvesFilled d' (fun z τ => Wp M d Q (pc + 3) ls (.inl z :: st) τ) 0 [some (.inr 1), some a1, none, none] [] σ) : Wp M d Q pc ls (a1 :: .inr 1 :: st) σ := w_cv (M' := mX1_shelvesFilled) (k := 1) (vs := [a1]) hd (by rw [hM]; exact tw_521) tw_522 tw_523 cw_X1_shelvesFilled rfl rfl rfl (Nat.le_of_ble_eq_true rfl) hdd hst h
theorem tw_390 : Cond.methodLink RX6 238 yX4_make ∈ TB := tb_of 390 (by decide +kernel) (by decide +kernel)
theorem tw_391 : Cond.instanceMethod yX4_make ∈ TB := tb_of 391 (by decide +kernel) (by decide +kernel)
theorem tw_392 : Cond.selects RX4 yX4_make yX4_make ∈ TB := tb_of 392 (by decide +kernel) (by decide +kernel)
theorem cv_X6_238 {M : MI} {d pc : Nat} {Q : Int → St → Prop} {ls : List (Option PV)} {st : List PV} {σ : St} {d' : Nat} {a1 a2 a3 : PV} (hM : M.1.cls = RX6) (hd : decode M.2.1 pc = .ok (.invokevirtual 238, 3)) (hdd : d' < d) (hst : st.length ≤ 8) (h : Wp mX4_make d' (fun z τ => Wp M d Q (pc + 3) ls (st) τ) 0 [some (.inr 4), some a1, some a2, some a3, none] [] σ) : Wp M d Q pc ls (a3 :: a2 :: a1 :: .inr 4 :: st) σ := w_cv (M' := mX4_make) (k := 4) (vs := [a1, a2, a3]) hd (by rw [hM]; exact tw_390) tw_391 tw_392 cw_X4_make rfl rfl rfl (Nat.le_of_ble_eq_true rfl) hdd hst h
theorem tw_400 : Cond.methodLink RX6 242 yX6_makeNextMove ∈ TB := tb_of 400 (by decide +kernel) (by decide +kernel)
theorem tw_402 : Cond.instanceMethod yX6_makeNextMove ∈ TB := tb_of 402 (by decide +kernel) (by decide +kernel)
theorem tw_9 : Cond.selects RX6 yX6_makeNextMove yX6_makeNextMove ∈ TB := tb_of 9 (by decide +kernel) (by decide +kernel)
theorem cv_X6_242 {M : MI} {d pc : Nat} {Q : Int → St → Prop} {ls : List (Option PV)} {st : List PV} {σ : St} {d' : Nat} (hM : M.1.cls = RX6) (hd : decode M.2.1 pc = .ok (.invokevirtual 242, 3)) (hdd : d' < d) (hst : st.length ≤ 8) (h : Wp mX6_makeNextMove d' (fun z τ => Wp M d Q (pc + 3) ls (.inl z :: st) τ) 0 [some (.inr 6), none, none] [] σ) : Wp M d Q pc ls (.inr 6 :: st) σ := w_cv (M' := mX6_makeNextMove) (k := 6) (vs := []) hd (by rw [hM]; exact tw_400) tw_402 tw_9 cw_X6_makeNextMove rfl rfl rfl (Nat.le_of_ble_eq_true rfl) hdd hst h
theorem tw_553 : Cond.methodLink RX6 245 yX4_movesOfNextDay ∈ TB := tb_of 553 (by decide +kernel) (by decide +kernel)
theorem tw_554 : Cond.instanceMethod yX4_movesOfNextDay ∈ TB := tb_of 554 (by decide +kernel) (by decide +kernel)
theorem tw_555 : Cond.selects RX4 yX4_movesOfNextDay yX4_movesOfNextDay ∈ TB := tb_of 555 (by decide +kernel) (by decide +kernel)
theorem cv_X6_245 {M : MI} {d pc : Nat} {Q : Int → St → Prop} {ls : List (Option PV)} {st : List PV} {σ : St} {d' : Nat} {a1 : PV} (hM : M.1.cls = RX6) (hd : decode M.2.1 pc = .ok (.invokevirtual 245, 3)) (hdd : d' < d) (hst : st.length ≤ 8) (h : Wp mX4_movesOfNextDay d' (fun z τ => Wp M d Q (pc + 3) ls (.inl z :: st) τ) 0 [some (.inr 4), some a1, none, none] [] σ) : Wp M d Q pc ls (a1 :: .inr 4 :: st) σ := w_cv (M' := mX4_movesOfNextDay) (k := 4) (vs := [a1]) hd (by rw [hM]; exact tw_553) tw_554 tw_555 cw_X4_movesOfNextDay rfl rfl rfl (Nat.le_of_ble_eq_true rfl) hdd hst h
theorem tw_221 : Cond.fieldLink RX6 248 "ShelfShift$Plan" "book" "[I" ∈ TB := tb_of 221 (by decide +kernel) (by decide +kernel)
theorem gf_X6_248 {M : MI} {d pc : Nat} {Q : Int → St → Prop} {ls : List (Option PV)} {st : List PV} {σ : St} (hM : M.1.cls = RX6) (hd : decode M.2.1 pc = .ok (.getfield 248, 3)) (h : Wp M d Q (pc + 3) ls (.inr 51 :: st) σ) : Wp M d Q pc ls (.inr 4 :: st) σ := w_get (k := 4) (j := 1) (v := .inr 51) rfl inTB4 rfl (by decide) (by rw [hM]; exact tw_221) (fun _ => rfl) hd h
theorem tw_225 : Cond.fieldLink RX6 251 "ShelfShift$Plan" "from" "[I" ∈ TB := tb_of 225 (by decide +kernel) (by decide +kernel)
theorem gf_X6_251 {M : MI} {d pc : Nat} {Q : Int → St → Prop} {ls : List (Option PV)} {st : List PV} {σ : St} (hM : M.1.cls = RX6) (hd : decode M.2.1 pc = .ok (.getfield 251, 3)) (h : Wp M d Q (pc + 3) ls (.inr 53 :: st) σ) : Wp M d Q pc ls (.inr 4 :: st) σ := w_get (k := 4) (j := 3) (v := .inr 53) rfl inTB4 rfl (by decide) (by rw [hM]; exact tw_225) (fun _ => rfl) hd h
theorem tw_227 : Cond.fieldLink RX6 254 "ShelfShift$Plan" "to" "[I" ∈ TB := tb_of 227 (by decide +kernel) (by decide +kernel)
theorem gf_X6_254 {M : MI} {d pc : Nat} {Q : Int → St → Prop} {ls : List (Option PV)} {st : List PV} {σ : St} (hM : M.1.cls = RX6) (hd : decode M.2.1 pc = .ok (.getfield 254, 3)) (h : Wp M d Q (pc + 3) ls (.inr 54 :: st) σ) : Wp M d Q pc ls (.inr 4 :: st) σ := w_get (k := 4) (j := 4) (v := .inr 54) rfl inTB4 rfl (by decide) (by rw [hM]; exact tw_227) (fun _ => rfl) hd h
theorem tw_404 : Cond.methodLink RX6 257 yX4_direction ∈ TB := tb_of 404 (by decide +kernel) (by decide +kernel)
theorem cv_X6_257 {M : MI} {d pc : Nat} {Q : Int → St → Prop} {ls : List (Option PV)} {st : List PV} {σ : St} {d' : Nat} {a1 : PV} (hM : M.1.cls = RX6) (hd : decode M.2.1 pc = .ok (.invokevirtual 257, 3)) (hdd : d' < d) (hst : st.length ≤ 8) (h : Wp mX4_direction d' (fun z τ => Wp M d Q (pc + 3) ls (.inl z :: st) τ) 0 [some (.inr 4), some a1] [] σ) : Wp M d Q pc ls (a1 :: .inr 4 :: st) σ := w_cv (M' := mX4_direction) (k := 4) (vs := [a1]) hd (by rw [hM]; exact tw_404) tw_405 tw_406 cw_X4_direction rfl rfl rfl (Nat.le_of_ble_eq_true rfl) hdd hst h
theorem tw_561 : Cond.methodLink RX6 260 yX4_days ∈ TB := tb_of 561 (by decide +kernel) (by decide +kernel)
theorem tw_562 : Cond.instanceMethod yX4_days ∈ TB := tb_of 562 (by decide +kernel) (by decide +kernel)
theorem tw_563 : Cond.selects RX4 yX4_days yX4_days ∈ TB := tb_of 563 (by decide +kernel) (by decide +kernel)
theorem cv_X6_260 {M : MI} {d pc : Nat} {Q : Int → St → Prop} {ls : List (Option PV)} {st : List PV} {σ : St} {d' : Nat} {a1 a2 a3 : PV} (hM : M.1.cls = RX6) (hd : decode M.2.1 pc = .ok (.invokevirtual 260, 3)) (hdd : d' < d) (hst : st.length ≤ 8) (h : Wp mX4_days d' (fun z τ => Wp M d Q (pc + 3) ls (.inl z :: st) τ) 0 [some (.inr 4), some a1, some a2, some a3, none, none, none] [] σ) : Wp M d Q pc ls (a3 :: a2 :: a1 :: .inr 4 :: st) σ := w_cv (M' := mX4_days) (k := 4) (vs := [a1, a2, a3]) hd (by rw [hM]; exact tw_561) tw_562 tw_563 cw_X4_days rfl rfl rfl (Nat.le_of_ble_eq_true rfl) hdd hst h
theorem tw_565 : Cond.methodLink RX6 264 yX4_trips ∈ TB := tb_of 565 (by decide +kernel) (by decide +kernel)
theorem tw_566 : Cond.instanceMethod yX4_trips ∈ TB := tb_of 566 (by decide +kernel) (by decide +kernel)
theorem tw_567 : Cond.selects RX4 yX4_trips yX4_trips ∈ TB := tb_of 567 (by decide +kernel) (by decide +kernel)
theorem cv_X6_264 {M : MI} {d pc : Nat} {Q : Int → St → Prop} {ls : List (Option PV)} {st : List PV} {σ : St} {d' : Nat} {a1 a2 : PV} (hM : M.1.cls = RX6) (hd : decode M.2.1 pc = .ok (.invokevirtual 264, 3)) (hdd : d' < d) (hst : st.length ≤ 8) (h : Wp mX4_trips d' (fun z τ => Wp M d Q (pc + 3) ls (.inl z :: st) τ) 0 [some (.inr 4), some a1, some a2, none, none] [] σ) : Wp M d Q pc ls (a2 :: a1 :: .inr 4 :: st) σ := w_cv (M' := mX4_trips) (k := 4) (vs := [a1, a2]) hd (by rw [hM]; exact tw_565) tw_566 tw_567 cw_X4_trips rfl rfl rfl (Nat.le_of_ble_eq_true rfl) hdd hst h
theorem tw_569 : Cond.methodLink RX6 267 yX4_takenAheadOf ∈ TB := tb_of 569 (by decide +kernel) (by decide +kernel)
theorem tw_570 : Cond.instanceMethod yX4_takenAheadOf ∈ TB := tb_of 570 (by decide +kernel) (by decide +kernel)
theorem tw_571 : Cond.selects RX4 yX4_takenAheadOf yX4_takenAheadOf ∈ TB := tb_of 571 (by decide +kernel) (by decide +kernel)
theorem cv_X6_267 {M : MI} {d pc : Nat} {Q : Int → St → Prop} {ls : List (Option PV)} {st : List PV} {σ : St} {d' : Nat} {a1 : PV} (hM : M.1.cls = RX6) (hd : decode M.2.1 pc = .ok (.invokevirtual 267, 3)) (hdd : d' < d) (hst : st.length ≤ 8) (h : Wp mX4_takenAheadOf d' (fun z τ => Wp M d Q (pc + 3) ls (.inl z :: st) τ) 0 [some (.inr 4), some a1, none, none] [] σ) : Wp M d Q pc ls (a1 :: .inr 4 :: st) σ := w_cv (M' := mX4_takenAheadOf) (k := 4) (vs := [a1]) hd (by rw [hM]; exact tw_569) tw_570 tw_571 cw_X4_takenAheadOf rfl rfl rfl (Nat.le_of_ble_eq_true rfl) hdd hst h
theorem tw_577 : Cond.methodLink RX6 270 yX4_widthsLeft ∈ TB := tb_of 577 (by decide +kernel) (by decide +kernel)
theorem tw_578 : Cond.instanceMethod yX4_widthsLeft ∈ TB := tb_of 578 (by decide +kernel) (by decide +kernel)
theorem tw_579 : Cond.selects RX4 yX4_widthsLeft yX4_widthsLeft ∈ TB := tb_of 579 (by decide +kernel) (by decide +kernel)
theorem cv_X6_270 {M : MI} {d pc : Nat} {Q : Int → St → Prop} {ls : List (Option PV)} {st : List PV} {σ : St} {d' : Nat} (hM : M.1.cls = RX6) (hd : decode M.2.1 pc = .ok (.invokevirtual 270, 3)) (hdd : d' < d) (hst : st.length ≤ 8) (h : Wp mX4_widthsLeft d' (fun z τ => Wp M d Q (pc + 3) ls (.inl z :: st) τ) 0 [some (.inr 4), none, none] [] σ) : Wp M d Q pc ls (.inr 4 :: st) σ := w_cv (M' := mX4_widthsLeft) (k := 4) (vs := []) hd (by rw [hM]; exact tw_577) tw_578 tw_579 cw_X4_widthsLeft rfl rfl rfl (Nat.le_of_ble_eq_true rfl) hdd hst h
theorem tw_581 : Cond.methodLink RX6 273 yX4_rightsLeft ∈ TB := tb_of 581 (by decide +kernel) (by decide +kernel)
theorem tw_582 : Cond.instanceMethod yX4_rightsLeft ∈ TB := tb_of 582 (by decide +kernel) (by decide +kernel)
theorem tw_583 : Cond.selects RX4 yX4_rightsLeft yX4_rightsLeft ∈ TB := tb_of 583 (by decide +kernel) (by decide +kernel)
theorem cv_X6_273 {M : MI} {d pc : Nat} {Q : Int → St → Prop} {ls : List (Option PV)} {st : List PV} {σ : St} {d' : Nat} (hM : M.1.cls = RX6) (hd : decode M.2.1 pc = .ok (.invokevirtual 273, 3)) (hdd : d' < d) (hst : st.length ≤ 8) (h : Wp mX4_rightsLeft d' (fun z τ => Wp M d Q (pc + 3) ls (.inl z :: st) τ) 0 [some (.inr 4), none, none] [] σ) : Wp M d Q pc ls (.inr 4 :: st) σ := w_cv (M' := mX4_rightsLeft) (k := 4) (vs := []) hd (by rw [hM]; exact tw_581) tw_582 tw_583 cw_X4_rightsLeft rfl rfl rfl (Nat.le_of_ble_eq_true rfl) hdd hst h
theorem tw_594 : Cond.methodLink RX6 276 yX3_read ∈ TB := tb_of 594 (by decide +kernel) (by decide +kernel)
theorem tw_595 : Cond.instanceMethod yX3_read ∈ TB := tb_of 595 (by decide +kernel) (by decide +kernel)
theorem tw_596 : Cond.selects RX3 yX3_read yX3_read ∈ TB := tb_of 596 (by decide +kernel) (by decide +kernel)
theorem cv_X6_276 {M : MI} {d pc : Nat} {Q : Int → St → Prop} {ls : List (Option PV)} {st : List PV} {σ : St} {d' : Nat} {a1 a2 : PV} (hM : M.1.cls = RX6) (hd : decode M.2.1 pc = .ok (.invokevirtual 276, 3)) (hdd : d' < d) (hst : st.length ≤ 8) (h : Wp mX3_read d' (fun z τ => Wp M d Q (pc + 3) ls (.inl z :: st) τ) 0 [some (.inr 3), some a1, some a2, none] [] σ) : Wp M d Q pc ls (a2 :: a1 :: .inr 3 :: st) σ := w_cv (M' := mX3_read) (k := 3) (vs := [a1, a2]) hd (by rw [hM]; exact tw_594) tw_595 tw_596 cw_X3_read rfl rfl rfl (Nat.le_of_ble_eq_true rfl) hdd hst h
theorem tw_223 : Cond.fieldLink RX6 279 "ShelfShift$Plan" "width" "[I" ∈ TB := tb_of 223 (by decide +kernel) (by decide +kernel)
theorem gf_X6_279 {M : MI} {d pc : Nat} {Q : Int → St → Prop} {ls : List (Option PV)} {st : List PV} {σ : St} (hM : M.1.cls = RX6) (hd : decode M.2.1 pc = .ok (.getfield 279, 3)) (h : Wp M d Q (pc + 3) ls (.inr 52 :: st) σ) : Wp M d Q pc ls (.inr 4 :: st) σ := w_get (k := 4) (j := 2) (v := .inr 52) rfl inTB4 rfl (by decide) (by rw [hM]; exact tw_223) (fun _ => rfl) hd h
theorem tw_415 : Cond.methodLink RX6 280 yX0_carry ∈ TB := tb_of 415 (by decide +kernel) (by decide +kernel)
theorem tw_416 : Cond.instanceMethod yX0_carry ∈ TB := tb_of 416 (by decide +kernel) (by decide +kernel)
theorem tw_417 : Cond.selects RX0 yX0_carry yX0_carry ∈ TB := tb_of 417 (by decide +kernel) (by decide +kernel)
theorem cv_X6_280 {M : MI} {d pc : Nat} {Q : Int → St → Prop} {ls : List (Option PV)} {st : List PV} {σ : St} {d' : Nat} {a1 a2 : PV} (hM : M.1.cls = RX6) (hd : decode M.2.1 pc = .ok (.invokevirtual 280, 3)) (hdd : d' < d) (hst : st.length ≤ 8) (h : Wp mX0_carry d' (fun z τ => Wp M d Q (pc + 3) ls (st) τ) 0 [some (.inr 0), some a1, some a2] [] σ) : Wp M d Q pc ls (a2 :: a1 :: .inr 0 :: st) σ := w_cv (M' := mX0_carry) (k := 0) (vs := [a1, a2]) hd (by rw [hM]; exact tw_415) tw_416 tw_417 cw_X0_carry rfl rfl rfl (Nat.le_of_ble_eq_true rfl) hdd hst h
theorem tw_419 : Cond.methodLink RX6 283 yX4_stepOn ∈ TB := tb_of 419 (by decide +kernel) (by decide +kernel)
theorem tw_420 : Cond.instanceMethod yX4_stepOn ∈ TB := tb_of 420 (by decide +kernel) (by decide +kernel)
theorem tw_421 : Cond.selects RX4 yX4_stepOn yX4_stepOn ∈ TB := tb_of 421 (by decide +kernel) (by decide +kernel)
theorem cv_X6_283 {M : MI} {d pc : Nat} {Q : Int → St → Prop} {ls : List (Option PV)} {st : List PV} {σ : St} {d' : Nat} (hM : M.1.cls = RX6) (hd : decode M.2.1 pc = .ok (.invokevirtual 283, 3)) (hdd : d' < d) (hst : st.length ≤ 8) (h : Wp mX4_stepOn d' (fun z τ => Wp M d Q (pc + 3) ls (st) τ) 0 [some (.inr 4)] [] σ) : Wp M d Q pc ls (.inr 4 :: st) σ := w_cv (M' := mX4_stepOn) (k := 4) (vs := []) hd (by rw [hM]; exact tw_419) tw_420 tw_421 cw_X4_stepOn rfl rfl rfl (Nat.le_of_ble_eq_true rfl) hdd hst h
theorem tw_720 : Cond.fieldLink RX7 68 "ShelfShiftModel" "raised" "I" ∈ TB := tb_of 720 (by decide +kernel) (by decide +kernel)
theorem gf_X7_68 {M : MI} {d pc : Nat} {Q : Int → St → Prop} {ls : List (Option PV)} {st : List PV} {σ : St} (hM : M.1.cls = RX7) (hd : decode M.2.1 pc = .ok (.getfield 68, 3)) (h : Wp M d Q (pc + 3) ls (.inl (σ 7 0) :: st) σ) : Wp M d Q pc ls (.inr 7 :: st) σ := w_get (k := 7) (j := 0) (v := .inl (σ 7 0)) rfl inTB7 rfl (by decide) (by rw [hM]; exact tw_720) (fun _ => rfl) hd h
theorem tw_721 : Cond.fieldLink RX7 71 "ShelfShiftModel" "shelves" "I" ∈ TB := tb_of 721 (by decide +kernel) (by decide +kernel)
theorem gf_X7_71 {M : MI} {d pc : Nat} {Q : Int → St → Prop} {ls : List (Option PV)} {st : List PV} {σ : St} (hM : M.1.cls = RX7) (hd : decode M.2.1 pc = .ok (.getfield 71, 3)) (h : Wp M d Q (pc + 3) ls (.inl (σ 7 1) :: st) σ) : Wp M d Q pc ls (.inr 7 :: st) σ := w_get (k := 7) (j := 1) (v := .inl (σ 7 1)) rfl inTB7 rfl (by decide) (by rw [hM]; exact tw_721) (fun _ => rfl) hd h
theorem tw_816 : Cond.methodLink RX7 74 yX7_isIn ∈ TB := tb_of 816 (by decide +kernel) (by decide +kernel)
theorem tw_817 : Cond.static yX7_isIn ∈ TB := tb_of 817 (by decide +kernel) (by decide +kernel)
theorem cv_X7_74 {M : MI} {d pc : Nat} {Q : Int → St → Prop} {ls : List (Option PV)} {st : List PV} {σ : St} {d' : Nat} {a1 a2 a3 : PV} (hM : M.1.cls = RX7) (hd : decode M.2.1 pc = .ok (.invokestatic 74, 3)) (hdd : d' < d) (hst : st.length ≤ 8) (h : Wp mX7_isIn d' (fun z τ => Wp M d Q (pc + 3) ls (.inl z :: st) τ) 0 [some a1, some a2, some a3] [] σ) : Wp M d Q pc ls (a3 :: a2 :: a1 :: st) σ := w_cs (M' := mX7_isIn) (vs := [a1, a2, a3]) hd (by rw [hM]; exact tw_816) tw_817 cw_X7_isIn (by rw [hM]; rfl) (Nat.le_of_ble_eq_true rfl) hdd hst h
theorem tw_724 : Cond.fieldLink RX7 78 "ShelfShiftModel" "groups" "I" ∈ TB := tb_of 724 (by decide +kernel) (by decide +kernel)
theorem gf_X7_78 {M : MI} {d pc : Nat} {Q : Int → St → Prop} {ls : List (Option PV)} {st : List PV} {σ : St} (hM : M.1.cls = RX7) (hd : decode M.2.1 pc = .ok (.getfield 78, 3)) (h : Wp M d Q (pc + 3) ls (.inl (σ 7 4) :: st) σ) : Wp M d Q pc ls (.inr 7 :: st) σ := w_get (k := 7) (j := 4) (v := .inl (σ 7 4)) rfl inTB7 rfl (by decide) (by rw [hM]; exact tw_724) (fun _ => rfl) hd h
theorem tw_726 : Cond.fieldLink RX7 81 "ShelfShiftModel" "books" "I" ∈ TB := tb_of 726 (by decide +kernel) (by decide +kernel)
theorem gf_X7_81 {M : MI} {d pc : Nat} {Q : Int → St → Prop} {ls : List (Option PV)} {st : List PV} {σ : St} (hM : M.1.cls = RX7) (hd : decode M.2.1 pc = .ok (.getfield 81, 3)) (h : Wp M d Q (pc + 3) ls (.inl (σ 7 6) :: st) σ) : Wp M d Q pc ls (.inr 7 :: st) σ := w_get (k := 7) (j := 6) (v := .inl (σ 7 6)) rfl inTB7 rfl (by decide) (by rw [hM]; exact tw_726) (fun _ => rfl) hd h
theorem tw_734 : Cond.fieldLink RX7 84 "ShelfShiftModel" "logMany" "I" ∈ TB := tb_of 734 (by decide +kernel) (by decide +kernel)
theorem gf_X7_84 {M : MI} {d pc : Nat} {Q : Int → St → Prop} {ls : List (Option PV)} {st : List PV} {σ : St} (hM : M.1.cls = RX7) (hd : decode M.2.1 pc = .ok (.getfield 84, 3)) (h : Wp M d Q (pc + 3) ls (.inl (σ 7 14) :: st) σ) : Wp M d Q pc ls (.inr 7 :: st) σ := w_get (k := 7) (j := 14) (v := .inl (σ 7 14)) rfl inTB7 rfl (by decide) (by rw [hM]; exact tw_734) (fun _ => rfl) hd h
theorem tw_733 : Cond.fieldLink RX7 35 "ShelfShiftModel" "logs" "[I" ∈ TB := tb_of 733 (by decide +kernel) (by decide +kernel)
theorem gf_X7_35 {M : MI} {d pc : Nat} {Q : Int → St → Prop} {ls : List (Option PV)} {st : List PV} {σ : St} (hM : M.1.cls = RX7) (hd : decode M.2.1 pc = .ok (.getfield 35, 3)) (h : Wp M d Q (pc + 3) ls (.inr 64 :: st) σ) : Wp M d Q pc ls (.inr 7 :: st) σ := w_get (k := 7) (j := 13) (v := .inr 64) rfl inTB7 rfl (by decide) (by rw [hM]; exact tw_733) (fun _ => rfl) hd h
theorem pf_X7_84 {M : MI} {d pc : Nat} {Q : Int → St → Prop} {ls : List (Option PV)} {st : List PV} {σ : St} {z : Int} (hM : M.1.cls = RX7) (hz : InR z) (hd : decode M.2.1 pc = .ok (.putfield 84, 3)) (h : Wp M d Q (pc + 3) ls st (put σ 7 14 z)) : Wp M d Q pc ls (.inl z :: .inr 7 :: st) σ := w_put (k := 7) (j := 14) (ty := .int) rfl inTB7 tyX7 tyX7_ok nmX7 rfl (by decide) rfl rfl (by rw [hM]; exact tw_734) (by decide +kernel) rfl rfl hz hd h
theorem tw_728 : Cond.fieldLink RX7 22 "ShelfShiftModel" "width" "[I" ∈ TB := tb_of 728 (by decide +kernel) (by decide +kernel)
theorem gf_X7_22 {M : MI} {d pc : Nat} {Q : Int → St → Prop} {ls : List (Option PV)} {st : List PV} {σ : St} (hM : M.1.cls = RX7) (hd : decode M.2.1 pc = .ok (.getfield 22, 3)) (h : Wp M d Q (pc + 3) ls (.inr 61 :: st) σ) : Wp M d Q pc ls (.inr 7 :: st) σ := w_get (k := 7) (j := 8) (v := .inr 61) rfl inTB7 rfl (by decide) (by rw [hM]; exact tw_728) (fun _ => rfl) hd h
theorem pf_X7_68 {M : MI} {d pc : Nat} {Q : Int → St → Prop} {ls : List (Option PV)} {st : List PV} {σ : St} {z : Int} (hM : M.1.cls = RX7) (hz : InR z) (hd : decode M.2.1 pc = .ok (.putfield 68, 3)) (h : Wp M d Q (pc + 3) ls st (put σ 7 0 z)) : Wp M d Q pc ls (.inl z :: .inr 7 :: st) σ := w_put (k := 7) (j := 0) (ty := .int) rfl inTB7 tyX7 tyX7_ok nmX7 rfl (by decide) rfl rfl (by rw [hM]; exact tw_720) (by decide +kernel) rfl rfl hz hd h
theorem tw_727 : Cond.fieldLink RX7 19 "ShelfShiftModel" "group" "[I" ∈ TB := tb_of 727 (by decide +kernel) (by decide +kernel)
theorem gf_X7_19 {M : MI} {d pc : Nat} {Q : Int → St → Prop} {ls : List (Option PV)} {st : List PV} {σ : St} (hM : M.1.cls = RX7) (hd : decode M.2.1 pc = .ok (.getfield 19, 3)) (h : Wp M d Q (pc + 3) ls (.inr 60 :: st) σ) : Wp M d Q pc ls (.inr 7 :: st) σ := w_get (k := 7) (j := 7) (v := .inr 60) rfl inTB7 rfl (by decide) (by rw [hM]; exact tw_727) (fun _ => rfl) hd h
theorem tw_838 : Cond.methodLink RX7 87 yX7_widthOf ∈ TB := tb_of 838 (by decide +kernel) (by decide +kernel)
theorem tw_840 : Cond.instanceMethod yX7_widthOf ∈ TB := tb_of 840 (by decide +kernel) (by decide +kernel)
theorem tw_24 : Cond.selects RX7 yX7_widthOf yX7_widthOf ∈ TB := tb_of 24 (by decide +kernel) (by decide +kernel)
theorem cv_X7_87 {M : MI} {d pc : Nat} {Q : Int → St → Prop} {ls : List (Option PV)} {st : List PV} {σ : St} {d' : Nat} {a1 : PV} (hM : M.1.cls = RX7) (hd : decode M.2.1 pc = .ok (.invokevirtual 87, 3)) (hdd : d' < d) (hst : st.length ≤ 8) (h : Wp mX7_widthOf d' (fun z τ => Wp M d Q (pc + 3) ls (.inl z :: st) τ) 0 [some (.inr 7), some a1, none, none] [] σ) : Wp M d Q pc ls (a1 :: .inr 7 :: st) σ := w_cv (M' := mX7_widthOf) (k := 7) (vs := [a1]) hd (by rw [hM]; exact tw_838) tw_840 tw_24 cw_X7_widthOf rfl rfl rfl (Nat.le_of_ble_eq_true rfl) hdd hst h
theorem tw_725 : Cond.fieldLink RX7 16 "ShelfShiftModel" "growth" "[I" ∈ TB := tb_of 725 (by decide +kernel) (by decide +kernel)
theorem gf_X7_16 {M : MI} {d pc : Nat} {Q : Int → St → Prop} {ls : List (Option PV)} {st : List PV} {σ : St} (hM : M.1.cls = RX7) (hd : decode M.2.1 pc = .ok (.getfield 16, 3)) (h : Wp M d Q (pc + 3) ls (.inr 59 :: st) σ) : Wp M d Q pc ls (.inr 7 :: st) σ := w_get (k := 7) (j := 5) (v := .inr 59) rfl inTB7 rfl (by decide) (by rw [hM]; exact tw_725) (fun _ => rfl) hd h
theorem tw_735 : Cond.fieldLink RX7 38 "ShelfShiftModel" "need" "[I" ∈ TB := tb_of 735 (by decide +kernel) (by decide +kernel)
theorem gf_X7_38 {M : MI} {d pc : Nat} {Q : Int → St → Prop} {ls : List (Option PV)} {st : List PV} {σ : St} (hM : M.1.cls = RX7) (hd : decode M.2.1 pc = .ok (.getfield 38, 3)) (h : Wp M d Q (pc + 3) ls (.inr 65 :: st) σ) : Wp M d Q pc ls (.inr 7 :: st) σ := w_get (k := 7) (j := 15) (v := .inr 65) rfl inTB7 rfl (by decide) (by rw [hM]; exact tw_735) (fun _ => rfl) hd h
theorem tw_736 : Cond.fieldLink RX7 41 "ShelfShiftModel" "lost" "[I" ∈ TB := tb_of 736 (by decide +kernel) (by decide +kernel)
theorem gf_X7_41 {M : MI} {d pc : Nat} {Q : Int → St → Prop} {ls : List (Option PV)} {st : List PV} {σ : St} (hM : M.1.cls = RX7) (hd : decode M.2.1 pc = .ok (.getfield 41, 3)) (h : Wp M d Q (pc + 3) ls (.inr 66 :: st) σ) : Wp M d Q pc ls (.inr 7 :: st) σ := w_get (k := 7) (j := 16) (v := .inr 66) rfl inTB7 rfl (by decide) (by rw [hM]; exact tw_736) (fun _ => rfl) hd h
theorem tw_729 : Cond.fieldLink RX7 25 "ShelfShiftModel" "shelf" "[I" ∈ TB := tb_of 729 (by decide +kernel) (by decide +kernel)
theorem gf_X7_25 {M : MI} {d pc : Nat} {Q : Int → St → Prop} {ls : List (Option PV)} {st : List PV} {σ : St} (hM : M.1.cls = RX7) (hd : decode M.2.1 pc = .ok (.getfield 25, 3)) (h : Wp M d Q (pc + 3) ls (.inr 62 :: st) σ) : Wp M d Q pc ls (.inr 7 :: st) σ := w_get (k := 7) (j := 9) (v := .inr 62) rfl inTB7 rfl (by decide) (by rw [hM]; exact tw_729) (fun _ => rfl) hd h
theorem tw_834 : Cond.methodLink RX7 91 yX7_laysNeeds ∈ TB := tb_of 834 (by decide +kernel) (by decide +kernel)
theorem tw_836 : Cond.instanceMethod yX7_laysNeeds ∈ TB := tb_of 836 (by decide +kernel) (by decide +kernel)
theorem tw_23 : Cond.selects RX7 yX7_laysNeeds yX7_laysNeeds ∈ TB := tb_of 23 (by decide +kernel) (by decide +kernel)
theorem cv_X7_91 {M : MI} {d pc : Nat} {Q : Int → St → Prop} {ls : List (Option PV)} {st : List PV} {σ : St} {d' : Nat} (hM : M.1.cls = RX7) (hd : decode M.2.1 pc = .ok (.invokevirtual 91, 3)) (hdd : d' < d) (hst : st.length ≤ 8) (h : Wp mX7_laysNeeds d' (fun z τ => Wp M d Q (pc + 3) ls (st) τ) 0 [some (.inr 7), none, none, none, none, none] [] σ) : Wp M d Q pc ls (.inr 7 :: st) σ := w_cv (M' := mX7_laysNeeds) (k := 7) (vs := []) hd (by rw [hM]; exact tw_834) tw_836 tw_23 cw_X7_laysNeeds rfl rfl rfl (Nat.le_of_ble_eq_true rfl) hdd hst h
theorem tw_1024 : Cond.methodLink RX7 94 yX7_rateOf ∈ TB := tb_of 1024 (by decide +kernel) (by decide +kernel)
theorem tw_1026 : Cond.instanceMethod yX7_rateOf ∈ TB := tb_of 1026 (by decide +kernel) (by decide +kernel)
theorem tw_50 : Cond.selects RX7 yX7_rateOf yX7_rateOf ∈ TB := tb_of 50 (by decide +kernel) (by decide +kernel)
theorem cv_X7_94 {M : MI} {d pc : Nat} {Q : Int → St → Prop} {ls : List (Option PV)} {st : List PV} {σ : St} {d' : Nat} {a1 : PV} (hM : M.1.cls = RX7) (hd : decode M.2.1 pc = .ok (.invokevirtual 94, 3)) (hdd : d' < d) (hst : st.length ≤ 8) (h : Wp mX7_rateOf d' (fun z τ => Wp M d Q (pc + 3) ls (.inl z :: st) τ) 0 [some (.inr 7), some a1, none, none] [] σ) : Wp M d Q pc ls (a1 :: .inr 7 :: st) σ := w_cv (M' := mX7_rateOf) (k := 7) (vs := [a1]) hd (by rw [hM]; exact tw_1024) tw_1026 tw_50 cw_X7_rateOf rfl rfl rfl (Nat.le_of_ble_eq_true rfl) hdd hst h
theorem tw_722 : Cond.fieldLink RX7 7 "ShelfShiftModel" "length" "[I" ∈ TB := tb_of 722 (by decide +kernel) (by decide +kernel)
theorem gf_X7_7 {M : MI} {d pc : Nat} {Q : Int → St → Prop} {ls : List (Option PV)} {st : List PV} {σ : St} (hM : M.1.cls = RX7) (hd : decode M.2.1 pc = .ok (.getfield 7, 3)) (h : Wp M d Q (pc + 3) ls (.inr 57 :: st) σ) : Wp M d Q pc ls (.inr 7 :: st) σ := w_get (k := 7) (j := 2) (v := .inr 57) rfl inTB7 rfl (by decide) (by rw [hM]; exact tw_722) (fun _ => rfl) hd h
theorem tw_1020 : Cond.methodLink RX7 97 yX7_loadOf ∈ TB := tb_of 1020 (by decide +kernel) (by decide +kernel)
theorem tw_1022 : Cond.instanceMethod yX7_loadOf ∈ TB := tb_of 1022 (by decide +kernel) (by decide +kernel)
theorem tw_49 : Cond.selects RX7 yX7_loadOf yX7_loadOf ∈ TB := tb_of 49 (by decide +kernel) (by decide +kernel)
theorem cv_X7_97 {M : MI} {d pc : Nat} {Q : Int → St → Prop} {ls : List (Option PV)} {st : List PV} {σ : St} {d' : Nat} {a1 : PV} (hM : M.1.cls = RX7) (hd : decode M.2.1 pc = .ok (.invokevirtual 97, 3)) (hdd : d' < d) (hst : st.length ≤ 8) (h : Wp mX7_loadOf d' (fun z τ => Wp M d Q (pc + 3) ls (.inl z :: st) τ) 0 [some (.inr 7), some a1, none, none] [] σ) : Wp M d Q pc ls (a1 :: .inr 7 :: st) σ := w_cv (M' := mX7_loadOf) (k := 7) (vs := [a1]) hd (by rw [hM]; exact tw_1020) tw_1022 tw_49 cw_X7_loadOf rfl rfl rfl (Nat.le_of_ble_eq_true rfl) hdd hst h
theorem tw_723 : Cond.fieldLink RX7 13 "ShelfShiftModel" "kind" "[I" ∈ TB := tb_of 723 (by decide +kernel) (by decide +kernel)
theorem gf_X7_13 {M : MI} {d pc : Nat} {Q : Int → St → Prop} {ls : List (Option PV)} {st : List PV} {σ : St} (hM : M.1.cls = RX7) (hd : decode M.2.1 pc = .ok (.getfield 13, 3)) (h : Wp M d Q (pc + 3) ls (.inr 58 :: st) σ) : Wp M d Q pc ls (.inr 7 :: st) σ := w_get (k := 7) (j := 3) (v := .inr 58) rfl inTB7 rfl (by decide) (by rw [hM]; exact tw_723) (fun _ => rfl) hd h
theorem tw_859 : Cond.constant RX7 100 (Int32.ofInt 1000000) ∈ TB := tb_of 859 (by decide +kernel) (by decide +kernel)
theorem tw_739 : Cond.fieldLink RX7 50 "ShelfShiftModel" "takes" "[I" ∈ TB := tb_of 739 (by decide +kernel) (by decide +kernel)
theorem gf_X7_50 {M : MI} {d pc : Nat} {Q : Int → St → Prop} {ls : List (Option PV)} {st : List PV} {σ : St} (hM : M.1.cls = RX7) (hd : decode M.2.1 pc = .ok (.getfield 50, 3)) (h : Wp M d Q (pc + 3) ls (.inr 69 :: st) σ) : Wp M d Q pc ls (.inr 7 :: st) σ := w_get (k := 7) (j := 19) (v := .inr 69) rfl inTB7 rfl (by decide) (by rw [hM]; exact tw_739) (fun _ => rfl) hd h
theorem tw_737 : Cond.fieldLink RX7 44 "ShelfShiftModel" "least" "[I" ∈ TB := tb_of 737 (by decide +kernel) (by decide +kernel)
theorem gf_X7_44 {M : MI} {d pc : Nat} {Q : Int → St → Prop} {ls : List (Option PV)} {st : List PV} {σ : St} (hM : M.1.cls = RX7) (hd : decode M.2.1 pc = .ok (.getfield 44, 3)) (h : Wp M d Q (pc + 3) ls (.inr 67 :: st) σ) : Wp M d Q pc ls (.inr 7 :: st) σ := w_get (k := 7) (j := 17) (v := .inr 67) rfl inTB7 rfl (by decide) (by rw [hM]; exact tw_737) (fun _ => rfl) hd h
theorem tw_842 : Cond.methodLink RX7 101 yX7_cell ∈ TB := tb_of 842 (by decide +kernel) (by decide +kernel)
theorem tw_844 : Cond.instanceMethod yX7_cell ∈ TB := tb_of 844 (by decide +kernel) (by decide +kernel)
theorem tw_25 : Cond.selects RX7 yX7_cell yX7_cell ∈ TB := tb_of 25 (by decide +kernel) (by decide +kernel)
theorem cv_X7_101 {M : MI} {d pc : Nat} {Q : Int → St → Prop} {ls : List (Option PV)} {st : List PV} {σ : St} {d' : Nat} {a1 a2 : PV} (hM : M.1.cls = RX7) (hd : decode M.2.1 pc = .ok (.invokevirtual 101, 3)) (hdd : d' < d) (hst : st.length ≤ 8) (h : Wp mX7_cell d' (fun z τ => Wp M d Q (pc + 3) ls (.inl z :: st) τ) 0 [some (.inr 7), some a1, some a2] [] σ) : Wp M d Q pc ls (a2 :: a1 :: .inr 7 :: st) σ := w_cv (M' := mX7_cell) (k := 7) (vs := [a1, a2]) hd (by rw [hM]; exact tw_842) tw_844 tw_25 cw_X7_cell rfl rfl rfl (Nat.le_of_ble_eq_true rfl) hdd hst h
theorem tw_846 : Cond.constant RX7 105 (Int32.ofInt 1000000000) ∈ TB := tb_of 846 (by decide +kernel) (by decide +kernel)
theorem tw_847 : Cond.methodLink RX7 106 yX7_laysLeast ∈ TB := tb_of 847 (by decide +kernel) (by decide +kernel)
theorem tw_849 : Cond.instanceMethod yX7_laysLeast ∈ TB := tb_of 849 (by decide +kernel) (by decide +kernel)
theorem tw_26 : Cond.selects RX7 yX7_laysLeast yX7_laysLeast ∈ TB := tb_of 26 (by decide +kernel) (by decide +kernel)
theorem cv_X7_106 {M : MI} {d pc : Nat} {Q : Int → St → Prop} {ls : List (Option PV)} {st : List PV} {σ : St} {d' : Nat} {a1 a2 : PV} (hM : M.1.cls = RX7) (hd : decode M.2.1 pc = .ok (.invokevirtual 106, 3)) (hdd : d' < d) (hst : st.length ≤ 8) (h : Wp mX7_laysLeast d' (fun z τ => Wp M d Q (pc + 3) ls (st) τ) 0 [some (.inr 7), some a1, some a2, none, none, none] [] σ) : Wp M d Q pc ls (a2 :: a1 :: .inr 7 :: st) σ := w_cv (M' := mX7_laysLeast) (k := 7) (vs := [a1, a2]) hd (by rw [hM]; exact tw_847) tw_849 tw_26 cw_X7_laysLeast rfl rfl rfl (Nat.le_of_ble_eq_true rfl) hdd hst h
theorem tw_851 : Cond.methodLink RX7 110 yX7_mostOn ∈ TB := tb_of 851 (by decide +kernel) (by decide +kernel)
theorem tw_853 : Cond.instanceMethod yX7_mostOn ∈ TB := tb_of 853 (by decide +kernel) (by decide +kernel)
theorem tw_27 : Cond.selects RX7 yX7_mostOn yX7_mostOn ∈ TB := tb_of 27 (by decide +kernel) (by decide +kernel)
theorem cv_X7_110 {M : MI} {d pc : Nat} {Q : Int → St → Prop} {ls : List (Option PV)} {st : List PV} {σ : St} {d' : Nat} {a1 a2 : PV} (hM : M.1.cls = RX7) (hd : decode M.2.1 pc = .ok (.invokevirtual 110, 3)) (hdd : d' < d) (hst : st.length ≤ 8) (h : Wp mX7_mostOn d' (fun z τ => Wp M d Q (pc + 3) ls (.inl z :: st) τ) 0 [some (.inr 7), some a1, some a2, none, none] [] σ) : Wp M d Q pc ls (a2 :: a1 :: .inr 7 :: st) σ := w_cv (M' := mX7_mostOn) (k := 7) (vs := [a1, a2]) hd (by rw [hM]; exact tw_851) tw_853 tw_27 cw_X7_mostOn rfl rfl rfl (Nat.le_of_ble_eq_true rfl) hdd hst h
theorem tw_855 : Cond.methodLink RX7 113 yX7_costOf ∈ TB := tb_of 855 (by decide +kernel) (by decide +kernel)
theorem tw_857 : Cond.instanceMethod yX7_costOf ∈ TB := tb_of 857 (by decide +kernel) (by decide +kernel)
theorem tw_28 : Cond.selects RX7 yX7_costOf yX7_costOf ∈ TB := tb_of 28 (by decide +kernel) (by decide +kernel)
theorem cv_X7_113 {M : MI} {d pc : Nat} {Q : Int → St → Prop} {ls : List (Option PV)} {st : List PV} {σ : St} {d' : Nat} {a1 a2 a3 : PV} (hM : M.1.cls = RX7) (hd : decode M.2.1 pc = .ok (.invokevirtual 113, 3)) (hdd : d' < d) (hst : st.length ≤ 8) (h : Wp mX7_costOf d' (fun z τ => Wp M d Q (pc + 3) ls (.inl z :: st) τ) 0 [some (.inr 7), some a1, some a2, some a3, none, none] [] σ) : Wp M d Q pc ls (a3 :: a2 :: a1 :: .inr 7 :: st) σ := w_cv (M' := mX7_costOf) (k := 7) (vs := [a1, a2, a3]) hd (by rw [hM]; exact tw_855) tw_857 tw_28 cw_X7_costOf rfl rfl rfl (Nat.le_of_ble_eq_true rfl) hdd hst h
theorem tw_738 : Cond.fieldLink RX7 47 "ShelfShiftModel" "cutMany" "[I" ∈ TB := tb_of 738 (by decide +kernel) (by decide +kernel)
theorem gf_X7_47 {M : MI} {d pc : Nat} {Q : Int → St → Prop} {ls : List (Option PV)} {st : List PV} {σ : St} (hM : M.1.cls = RX7) (hd : decode M.2.1 pc = .ok (.getfield 47, 3)) (h : Wp M d Q (pc + 3) ls (.inr 68 :: st) σ) : Wp M d Q pc ls (.inr 7 :: st) σ := w_get (k := 7) (j := 18) (v := .inr 68) rfl inTB7 rfl (by decide) (by rw [hM]; exact tw_738) (fun _ => rfl) hd h
theorem tw_823 : Cond.methodLink RX7 117 yX7_isShelf ∈ TB := tb_of 823 (by decide +kernel) (by decide +kernel)
theorem tw_825 : Cond.instanceMethod yX7_isShelf ∈ TB := tb_of 825 (by decide +kernel) (by decide +kernel)
theorem tw_21 : Cond.selects RX7 yX7_isShelf yX7_isShelf ∈ TB := tb_of 21 (by decide +kernel) (by decide +kernel)
theorem cv_X7_117 {M : MI} {d pc : Nat} {Q : Int → St → Prop} {ls : List (Option PV)} {st : List PV} {σ : St} {d' : Nat} {a1 : PV} (hM : M.1.cls = RX7) (hd : decode M.2.1 pc = .ok (.invokevirtual 117, 3)) (hdd : d' < d) (hst : st.length ≤ 8) (h : Wp mX7_isShelf d' (fun z τ => Wp M d Q (pc + 3) ls (.inl z :: st) τ) 0 [some (.inr 7), some a1] [] σ) : Wp M d Q pc ls (a1 :: .inr 7 :: st) σ := w_cv (M' := mX7_isShelf) (k := 7) (vs := [a1]) hd (by rw [hM]; exact tw_823) tw_825 tw_21 cw_X7_isShelf rfl rfl rfl (Nat.le_of_ble_eq_true rfl) hdd hst h
theorem tw_827 : Cond.methodLink RX7 121 yX7_isYears ∈ TB := tb_of 827 (by decide +kernel) (by decide +kernel)
theorem tw_828 : Cond.static yX7_isYears ∈ TB := tb_of 828 (by decide +kernel) (by decide +kernel)
theorem cv_X7_121 {M : MI} {d pc : Nat} {Q : Int → St → Prop} {ls : List (Option PV)} {st : List PV} {σ : St} {d' : Nat} {a1 : PV} (hM : M.1.cls = RX7) (hd : decode M.2.1 pc = .ok (.invokestatic 121, 3)) (hdd : d' < d) (hst : st.length ≤ 8) (h : Wp mX7_isYears d' (fun z τ => Wp M d Q (pc + 3) ls (.inl z :: st) τ) 0 [some a1] [] σ) : Wp M d Q pc ls (a1 :: st) σ := w_cs (M' := mX7_isYears) (vs := [a1]) hd (by rw [hM]; exact tw_827) tw_828 cw_X7_isYears (by rw [hM]; rfl) (Nat.le_of_ble_eq_true rfl) hdd hst h
theorem tw_830 : Cond.methodLink RX7 124 yX7_cuts ∈ TB := tb_of 830 (by decide +kernel) (by decide +kernel)
theorem tw_832 : Cond.instanceMethod yX7_cuts ∈ TB := tb_of 832 (by decide +kernel) (by decide +kernel)
theorem tw_22 : Cond.selects RX7 yX7_cuts yX7_cuts ∈ TB := tb_of 22 (by decide +kernel) (by decide +kernel)
theorem cv_X7_124 {M : MI} {d pc : Nat} {Q : Int → St → Prop} {ls : List (Option PV)} {st : List PV} {σ : St} {d' : Nat} {a1 : PV} (hM : M.1.cls = RX7) (hd : decode M.2.1 pc = .ok (.invokevirtual 124, 3)) (hdd : d' < d) (hst : st.length ≤ 8) (h : Wp mX7_cuts d' (fun z τ => Wp M d Q (pc + 3) ls (.inl z :: st) τ) 0 [some (.inr 7), some a1, none, none, none] [] σ) : Wp M d Q pc ls (a1 :: .inr 7 :: st) σ := w_cv (M' := mX7_cuts) (k := 7) (vs := [a1]) hd (by rw [hM]; exact tw_830) tw_832 tw_22 cw_X7_cuts rfl rfl rfl (Nat.le_of_ble_eq_true rfl) hdd hst h
theorem tw_868 : Cond.methodLink RX7 127 yX7_fits ∈ TB := tb_of 868 (by decide +kernel) (by decide +kernel)
theorem tw_870 : Cond.instanceMethod yX7_fits ∈ TB := tb_of 870 (by decide +kernel) (by decide +kernel)
theorem tw_29 : Cond.selects RX7 yX7_fits yX7_fits ∈ TB := tb_of 29 (by decide +kernel) (by decide +kernel)
theorem cv_X7_127 {M : MI} {d pc : Nat} {Q : Int → St → Prop} {ls : List (Option PV)} {st : List PV} {σ : St} {d' : Nat} {a1 a2 : PV} (hM : M.1.cls = RX7) (hd : decode M.2.1 pc = .ok (.invokevirtual 127, 3)) (hdd : d' < d) (hst : st.length ≤ 8) (h : Wp mX7_fits d' (fun z τ => Wp M d Q (pc + 3) ls (.inl z :: st) τ) 0 [some (.inr 7), some a1, some a2, none, none, none] [] σ) : Wp M d Q pc ls (a2 :: a1 :: .inr 7 :: st) σ := w_cv (M' := mX7_fits) (k := 7) (vs := [a1, a2]) hd (by rw [hM]; exact tw_868) tw_870 tw_29 cw_X7_fits rfl rfl rfl (Nat.le_of_ble_eq_true rfl) hdd hst h
theorem tw_730 : Cond.fieldLink RX7 28 "ShelfShiftModel" "handled" "[I" ∈ TB := tb_of 730 (by decide +kernel) (by decide +kernel)
theorem gf_X7_28 {M : MI} {d pc : Nat} {Q : Int → St → Prop} {ls : List (Option PV)} {st : List PV} {σ : St} (hM : M.1.cls = RX7) (hd : decode M.2.1 pc = .ok (.getfield 28, 3)) (h : Wp M d Q (pc + 3) ls (.inr 63 :: st) σ) : Wp M d Q pc ls (.inr 7 :: st) σ := w_get (k := 7) (j := 10) (v := .inr 63) rfl inTB7 rfl (by decide) (by rw [hM]; exact tw_730) (fun _ => rfl) hd h
theorem pf_X7_81 {M : MI} {d pc : Nat} {Q : Int → St → Prop} {ls : List (Option PV)} {st : List PV} {σ : St} {z : Int} (hM : M.1.cls = RX7) (hz : InR z) (hd : decode M.2.1 pc = .ok (.putfield 81, 3)) (h : Wp M d Q (pc + 3) ls st (put σ 7 6 z)) : Wp M d Q pc ls (.inl z :: .inr 7 :: st) σ := w_put (k := 7) (j := 6) (ty := .int) rfl inTB7 tyX7 tyX7_ok nmX7 rfl (by decide) rfl rfl (by rw [hM]; exact tw_726) (by decide +kernel) rfl rfl hz hd h
theorem tw_892 : Cond.methodLink RX7 131 yX7_opens ∈ TB := tb_of 892 (by decide +kernel) (by decide +kernel)
theorem tw_894 : Cond.instanceMethod yX7_opens ∈ TB := tb_of 894 (by decide +kernel) (by decide +kernel)
theorem tw_33 : Cond.selects RX7 yX7_opens yX7_opens ∈ TB := tb_of 33 (by decide +kernel) (by decide +kernel)
theorem cv_X7_131 {M : MI} {d pc : Nat} {Q : Int → St → Prop} {ls : List (Option PV)} {st : List PV} {σ : St} {d' : Nat} {a1 : PV} (hM : M.1.cls = RX7) (hd : decode M.2.1 pc = .ok (.invokevirtual 131, 3)) (hdd : d' < d) (hst : st.length ≤ 8) (h : Wp mX7_opens d' (fun z τ => Wp M d Q (pc + 3) ls (st) τ) 0 [some (.inr 7), some a1, none] [] σ) : Wp M d Q pc ls (a1 :: .inr 7 :: st) σ := w_cv (M' := mX7_opens) (k := 7) (vs := [a1]) hd (by rw [hM]; exact tw_892) tw_894 tw_33 cw_X7_opens rfl rfl rfl (Nat.le_of_ble_eq_true rfl) hdd hst h
theorem tw_740 : Cond.fieldLink RX7 53 "ShelfShiftModel" "goal" "[I" ∈ TB := tb_of 740 (by decide +kernel) (by decide +kernel)
theorem gf_X7_53 {M : MI} {d pc : Nat} {Q : Int → St → Prop} {ls : List (Option PV)} {st : List PV} {σ : St} (hM : M.1.cls = RX7) (hd : decode M.2.1 pc = .ok (.getfield 53, 3)) (h : Wp M d Q (pc + 3) ls (.inr 70 :: st) σ) : Wp M d Q pc ls (.inr 7 :: st) σ := w_get (k := 7) (j := 20) (v := .inr 70) rfl inTB7 rfl (by decide) (by rw [hM]; exact tw_740) (fun _ => rfl) hd h
theorem tw_880 : Cond.methodLink RX7 135 yX7_isGroup ∈ TB := tb_of 880 (by decide +kernel) (by decide +kernel)
theorem tw_882 : Cond.instanceMethod yX7_isGroup ∈ TB := tb_of 882 (by decide +kernel) (by decide +kernel)
theorem tw_30 : Cond.selects RX7 yX7_isGroup yX7_isGroup ∈ TB := tb_of 30 (by decide +kernel) (by decide +kernel)
theorem cv_X7_135 {M : MI} {d pc : Nat} {Q : Int → St → Prop} {ls : List (Option PV)} {st : List PV} {σ : St} {d' : Nat} {a1 : PV} (hM : M.1.cls = RX7) (hd : decode M.2.1 pc = .ok (.invokevirtual 135, 3)) (hdd : d' < d) (hst : st.length ≤ 8) (h : Wp mX7_isGroup d' (fun z τ => Wp M d Q (pc + 3) ls (.inl z :: st) τ) 0 [some (.inr 7), some a1] [] σ) : Wp M d Q pc ls (a1 :: .inr 7 :: st) σ := w_cv (M' := mX7_isGroup) (k := 7) (vs := [a1]) hd (by rw [hM]; exact tw_880) tw_882 tw_30 cw_X7_isGroup rfl rfl rfl (Nat.le_of_ble_eq_true rfl) hdd hst h
theorem tw_884 : Cond.methodLink RX7 138 yX7_behind ∈ TB := tb_of 884 (by decide +kernel) (by decide +kernel)
theorem tw_886 : Cond.instanceMethod yX7_behind ∈ TB := tb_of 886 (by decide +kernel) (by decide +kernel)
theorem tw_31 : Cond.selects RX7 yX7_behind yX7_behind ∈ TB := tb_of 31 (by decide +kernel) (by decide +kernel)
theorem cv_X7_138 {M : MI} {d pc : Nat} {Q : Int → St → Prop} {ls : List (Option PV)} {st : List PV} {σ : St} {d' : Nat} {a1 : PV} (hM : M.1.cls = RX7) (hd : decode M.2.1 pc = .ok (.invokevirtual 138, 3)) (hdd : d' < d) (hst : st.length ≤ 8) (h : Wp mX7_behind d' (fun z τ => Wp M d Q (pc + 3) ls (.inl z :: st) τ) 0 [some (.inr 7), some a1, none] [] σ) : Wp M d Q pc ls (a1 :: .inr 7 :: st) σ := w_cv (M' := mX7_behind) (k := 7) (vs := [a1]) hd (by rw [hM]; exact tw_884) tw_886 tw_31 cw_X7_behind rfl rfl rfl (Nat.le_of_ble_eq_true rfl) hdd hst h
theorem tw_888 : Cond.methodLink RX7 141 yX7_comes ∈ TB := tb_of 888 (by decide +kernel) (by decide +kernel)
theorem tw_890 : Cond.instanceMethod yX7_comes ∈ TB := tb_of 890 (by decide +kernel) (by decide +kernel)
theorem tw_32 : Cond.selects RX7 yX7_comes yX7_comes ∈ TB := tb_of 32 (by decide +kernel) (by decide +kernel)
theorem cv_X7_141 {M : MI} {d pc : Nat} {Q : Int → St → Prop} {ls : List (Option PV)} {st : List PV} {σ : St} {d' : Nat} {a1 a2 a3 : PV} (hM : M.1.cls = RX7) (hd : decode M.2.1 pc = .ok (.invokevirtual 141, 3)) (hdd : d' < d) (hst : st.length ≤ 8) (h : Wp mX7_comes d' (fun z τ => Wp M d Q (pc + 3) ls (st) τ) 0 [some (.inr 7), some a1, some a2, some a3] [] σ) : Wp M d Q pc ls (a3 :: a2 :: a1 :: .inr 7 :: st) σ := w_cv (M' := mX7_comes) (k := 7) (vs := [a1, a2, a3]) hd (by rw [hM]; exact tw_888) tw_890 tw_32 cw_X7_comes rfl rfl rfl (Nat.le_of_ble_eq_true rfl) hdd hst h
theorem tw_896 : Cond.methodLink RX7 145 yX7_closes ∈ TB := tb_of 896 (by decide +kernel) (by decide +kernel)
theorem tw_898 : Cond.instanceMethod yX7_closes ∈ TB := tb_of 898 (by decide +kernel) (by decide +kernel)
theorem tw_34 : Cond.selects RX7 yX7_closes yX7_closes ∈ TB := tb_of 34 (by decide +kernel) (by decide +kernel)
theorem cv_X7_145 {M : MI} {d pc : Nat} {Q : Int → St → Prop} {ls : List (Option PV)} {st : List PV} {σ : St} {d' : Nat} {a1 : PV} (hM : M.1.cls = RX7) (hd : decode M.2.1 pc = .ok (.invokevirtual 145, 3)) (hdd : d' < d) (hst : st.length ≤ 8) (h : Wp mX7_closes d' (fun z τ => Wp M d Q (pc + 3) ls (st) τ) 0 [some (.inr 7), some a1, none] [] σ) : Wp M d Q pc ls (a1 :: .inr 7 :: st) σ := w_cv (M' := mX7_closes) (k := 7) (vs := [a1]) hd (by rw [hM]; exact tw_896) tw_898 tw_34 cw_X7_closes rfl rfl rfl (Nat.le_of_ble_eq_true rfl) hdd hst h
theorem tw_900 : Cond.methodLink RX7 148 yX7_laysGoals ∈ TB := tb_of 900 (by decide +kernel) (by decide +kernel)
theorem tw_902 : Cond.instanceMethod yX7_laysGoals ∈ TB := tb_of 902 (by decide +kernel) (by decide +kernel)
theorem tw_35 : Cond.selects RX7 yX7_laysGoals yX7_laysGoals ∈ TB := tb_of 35 (by decide +kernel) (by decide +kernel)
theorem cv_X7_148 {M : MI} {d pc : Nat} {Q : Int → St → Prop} {ls : List (Option PV)} {st : List PV} {σ : St} {d' : Nat} (hM : M.1.cls = RX7) (hd : decode M.2.1 pc = .ok (.invokevirtual 148, 3)) (hdd : d' < d) (hst : st.length ≤ 8) (h : Wp mX7_laysGoals d' (fun z τ => Wp M d Q (pc + 3) ls (st) τ) 0 [some (.inr 7), none, none, none] [] σ) : Wp M d Q pc ls (.inr 7 :: st) σ := w_cv (M' := mX7_laysGoals) (k := 7) (vs := []) hd (by rw [hM]; exact tw_900) tw_902 tw_35 cw_X7_laysGoals rfl rfl rfl (Nat.le_of_ble_eq_true rfl) hdd hst h
theorem tw_904 : Cond.methodLink RX7 151 yX7_ends ∈ TB := tb_of 904 (by decide +kernel) (by decide +kernel)
theorem tw_906 : Cond.instanceMethod yX7_ends ∈ TB := tb_of 906 (by decide +kernel) (by decide +kernel)
theorem tw_36 : Cond.selects RX7 yX7_ends yX7_ends ∈ TB := tb_of 36 (by decide +kernel) (by decide +kernel)
theorem cv_X7_151 {M : MI} {d pc : Nat} {Q : Int → St → Prop} {ls : List (Option PV)} {st : List PV} {σ : St} {d' : Nat} (hM : M.1.cls = RX7) (hd : decode M.2.1 pc = .ok (.invokevirtual 151, 3)) (hdd : d' < d) (hst : st.length ≤ 8) (h : Wp mX7_ends d' (fun z τ => Wp M d Q (pc + 3) ls (st) τ) 0 [some (.inr 7)] [] σ) : Wp M d Q pc ls (.inr 7 :: st) σ := w_cv (M' := mX7_ends) (k := 7) (vs := []) hd (by rw [hM]; exact tw_904) tw_906 tw_36 cw_X7_ends rfl rfl rfl (Nat.le_of_ble_eq_true rfl) hdd hst h
theorem tw_908 : Cond.methodLink RX7 154 yX7_moves ∈ TB := tb_of 908 (by decide +kernel) (by decide +kernel)
theorem tw_910 : Cond.instanceMethod yX7_moves ∈ TB := tb_of 910 (by decide +kernel) (by decide +kernel)
theorem tw_37 : Cond.selects RX7 yX7_moves yX7_moves ∈ TB := tb_of 37 (by decide +kernel) (by decide +kernel)
theorem cv_X7_154 {M : MI} {d pc : Nat} {Q : Int → St → Prop} {ls : List (Option PV)} {st : List PV} {σ : St} {d' : Nat} {a1 a2 : PV} (hM : M.1.cls = RX7) (hd : decode M.2.1 pc = .ok (.invokevirtual 154, 3)) (hdd : d' < d) (hst : st.length ≤ 8) (h : Wp mX7_moves d' (fun z τ => Wp M d Q (pc + 3) ls (st) τ) 0 [some (.inr 7), some a1, some a2] [] σ) : Wp M d Q pc ls (a2 :: a1 :: .inr 7 :: st) σ := w_cv (M' := mX7_moves) (k := 7) (vs := [a1, a2]) hd (by rw [hM]; exact tw_908) tw_910 tw_37 cw_X7_moves rfl rfl rfl (Nat.le_of_ble_eq_true rfl) hdd hst h
theorem tw_912 : Cond.methodLink RX7 157 yX7_notes ∈ TB := tb_of 912 (by decide +kernel) (by decide +kernel)
theorem tw_914 : Cond.instanceMethod yX7_notes ∈ TB := tb_of 914 (by decide +kernel) (by decide +kernel)
theorem tw_38 : Cond.selects RX7 yX7_notes yX7_notes ∈ TB := tb_of 38 (by decide +kernel) (by decide +kernel)
theorem cv_X7_157 {M : MI} {d pc : Nat} {Q : Int → St → Prop} {ls : List (Option PV)} {st : List PV} {σ : St} {d' : Nat} {a1 a2 a3 a4 : PV} (hM : M.1.cls = RX7) (hd : decode M.2.1 pc = .ok (.invokevirtual 157, 3)) (hdd : d' < d) (hst : st.length ≤ 8) (h : Wp mX7_notes d' (fun z τ => Wp M d Q (pc + 3) ls (st) τ) 0 [some (.inr 7), some a1, some a2, some a3, some a4, none] [] σ) : Wp M d Q pc ls (a4 :: a3 :: a2 :: a1 :: .inr 7 :: st) σ := w_cv (M' := mX7_notes) (k := 7) (vs := [a1, a2, a3, a4]) hd (by rw [hM]; exact tw_912) tw_914 tw_38 cw_X7_notes rfl rfl rfl (Nat.le_of_ble_eq_true rfl) hdd hst h
theorem tw_920 : Cond.methodLink RX7 161 yX7_isBook ∈ TB := tb_of 920 (by decide +kernel) (by decide +kernel)
theorem tw_922 : Cond.instanceMethod yX7_isBook ∈ TB := tb_of 922 (by decide +kernel) (by decide +kernel)
theorem tw_39 : Cond.selects RX7 yX7_isBook yX7_isBook ∈ TB := tb_of 39 (by decide +kernel) (by decide +kernel)
theorem cv_X7_161 {M : MI} {d pc : Nat} {Q : Int → St → Prop} {ls : List (Option PV)} {st : List PV} {σ : St} {d' : Nat} {a1 : PV} (hM : M.1.cls = RX7) (hd : decode M.2.1 pc = .ok (.invokevirtual 161, 3)) (hdd : d' < d) (hst : st.length ≤ 8) (h : Wp mX7_isBook d' (fun z τ => Wp M d Q (pc + 3) ls (.inl z :: st) τ) 0 [some (.inr 7), some a1] [] σ) : Wp M d Q pc ls (a1 :: .inr 7 :: st) σ := w_cv (M' := mX7_isBook) (k := 7) (vs := [a1]) hd (by rw [hM]; exact tw_920) tw_922 tw_39 cw_X7_isBook rfl rfl rfl (Nat.le_of_ble_eq_true rfl) hdd hst h
theorem tw_741 : Cond.fieldLink RX7 164 "ShelfShiftModel" "isPlanned" "Z" ∈ TB := tb_of 741 (by decide +kernel) (by decide +kernel)
theorem pf_X7_164 {M : MI} {d pc : Nat} {Q : Int → St → Prop} {ls : List (Option PV)} {st : List PV} {σ : St} {z : Int} (hM : M.1.cls = RX7) (hz : z = 0 ∨ z = 1) (hd : decode M.2.1 pc = .ok (.putfield 164, 3)) (h : Wp M d Q (pc + 3) ls st (put σ 7 21 z)) : Wp M d Q pc ls (.inl z :: .inr 7 :: st) σ := w_put (k := 7) (j := 21) (ty := .boolean) rfl inTB7 tyX7 tyX7_ok nmX7 rfl (by decide) rfl rfl (by rw [hM]; exact tw_741) (by decide +kernel) (by rcases hz with rfl | rfl <;> decide) (by rcases hz with rfl | rfl <;> decide) (by omega) hd h
theorem tw_731 : Cond.fieldLink RX7 168 "ShelfShiftModel" "handledAll" "I" ∈ TB := tb_of 731 (by decide +kernel) (by decide +kernel)
theorem gf_X7_168 {M : MI} {d pc : Nat} {Q : Int → St → Prop} {ls : List (Option PV)} {st : List PV} {σ : St} (hM : M.1.cls = RX7) (hd : decode M.2.1 pc = .ok (.getfield 168, 3)) (h : Wp M d Q (pc + 3) ls (.inl (σ 7 11) :: st) σ) : Wp M d Q pc ls (.inr 7 :: st) σ := w_get (k := 7) (j := 11) (v := .inl (σ 7 11)) rfl inTB7 rfl (by decide) (by rw [hM]; exact tw_731) (fun _ => rfl) hd h
theorem pf_X7_168 {M : MI} {d pc : Nat} {Q : Int → St → Prop} {ls : List (Option PV)} {st : List PV} {σ : St} {z : Int} (hM : M.1.cls = RX7) (hz : InR z) (hd : decode M.2.1 pc = .ok (.putfield 168, 3)) (h : Wp M d Q (pc + 3) ls st (put σ 7 11 z)) : Wp M d Q pc ls (.inl z :: .inr 7 :: st) σ := w_put (k := 7) (j := 11) (ty := .int) rfl inTB7 tyX7 tyX7_ok nmX7 rfl (by decide) rfl rfl (by rw [hM]; exact tw_731) (by decide +kernel) rfl rfl hz hd h
theorem tw_745 : Cond.fieldLink RX7 56 "ShelfShiftModel" "planBook" "[I" ∈ TB := tb_of 745 (by decide +kernel) (by decide +kernel)
theorem gf_X7_56 {M : MI} {d pc : Nat} {Q : Int → St → Prop} {ls : List (Option PV)} {st : List PV} {σ : St} (hM : M.1.cls = RX7) (hd : decode M.2.1 pc = .ok (.getfield 56, 3)) (h : Wp M d Q (pc + 3) ls (.inr 71 :: st) σ) : Wp M d Q pc ls (.inr 7 :: st) σ := w_get (k := 7) (j := 25) (v := .inr 71) rfl inTB7 rfl (by decide) (by rw [hM]; exact tw_745) (fun _ => rfl) hd h
theorem tw_743 : Cond.fieldLink RX7 171 "ShelfShiftModel" "planMany" "I" ∈ TB := tb_of 743 (by decide +kernel) (by decide +kernel)
theorem gf_X7_171 {M : MI} {d pc : Nat} {Q : Int → St → Prop} {ls : List (Option PV)} {st : List PV} {σ : St} (hM : M.1.cls = RX7) (hd : decode M.2.1 pc = .ok (.getfield 171, 3)) (h : Wp M d Q (pc + 3) ls (.inl (σ 7 23) :: st) σ) : Wp M d Q pc ls (.inr 7 :: st) σ := w_get (k := 7) (j := 23) (v := .inl (σ 7 23)) rfl inTB7 rfl (by decide) (by rw [hM]; exact tw_743) (fun _ => rfl) hd h
theorem tw_746 : Cond.fieldLink RX7 59 "ShelfShiftModel" "planFrom" "[I" ∈ TB := tb_of 746 (by decide +kernel) (by decide +kernel)
theorem gf_X7_59 {M : MI} {d pc : Nat} {Q : Int → St → Prop} {ls : List (Option PV)} {st : List PV} {σ : St} (hM : M.1.cls = RX7) (hd : decode M.2.1 pc = .ok (.getfield 59, 3)) (h : Wp M d Q (pc + 3) ls (.inr 72 :: st) σ) : Wp M d Q pc ls (.inr 7 :: st) σ := w_get (k := 7) (j := 26) (v := .inr 72) rfl inTB7 rfl (by decide) (by rw [hM]; exact tw_746) (fun _ => rfl) hd h
theorem tw_747 : Cond.fieldLink RX7 62 "ShelfShiftModel" "planTo" "[I" ∈ TB := tb_of 747 (by decide +kernel) (by decide +kernel)
theorem gf_X7_62 {M : MI} {d pc : Nat} {Q : Int → St → Prop} {ls : List (Option PV)} {st : List PV} {σ : St} (hM : M.1.cls = RX7) (hd : decode M.2.1 pc = .ok (.getfield 62, 3)) (h : Wp M d Q (pc + 3) ls (.inr 73 :: st) σ) : Wp M d Q pc ls (.inr 7 :: st) σ := w_get (k := 7) (j := 27) (v := .inr 73) rfl inTB7 rfl (by decide) (by rw [hM]; exact tw_747) (fun _ => rfl) hd h
theorem pf_X7_171 {M : MI} {d pc : Nat} {Q : Int → St → Prop} {ls : List (Option PV)} {st : List PV} {σ : St} {z : Int} (hM : M.1.cls = RX7) (hz : InR z) (hd : decode M.2.1 pc = .ok (.putfield 171, 3)) (h : Wp M d Q (pc + 3) ls st (put σ 7 23 z)) : Wp M d Q pc ls (.inl z :: .inr 7 :: st) σ := w_put (k := 7) (j := 23) (ty := .int) rfl inTB7 tyX7 tyX7_ok nmX7 rfl (by decide) rfl rfl (by rw [hM]; exact tw_743) (by decide +kernel) rfl rfl hz hd h
theorem tw_744 : Cond.fieldLink RX7 174 "ShelfShiftModel" "planDone" "I" ∈ TB := tb_of 744 (by decide +kernel) (by decide +kernel)
theorem pf_X7_174 {M : MI} {d pc : Nat} {Q : Int → St → Prop} {ls : List (Option PV)} {st : List PV} {σ : St} {z : Int} (hM : M.1.cls = RX7) (hz : InR z) (hd : decode M.2.1 pc = .ok (.putfield 174, 3)) (h : Wp M d Q (pc + 3) ls st (put σ 7 24 z)) : Wp M d Q pc ls (.inl z :: .inr 7 :: st) σ := w_put (k := 7) (j := 24) (ty := .int) rfl inTB7 tyX7 tyX7_ok nmX7 rfl (by decide) rfl rfl (by rw [hM]; exact tw_744) (by decide +kernel) rfl rfl hz hd h
theorem tw_742 : Cond.fieldLink RX7 177 "ShelfShiftModel" "planYears" "I" ∈ TB := tb_of 742 (by decide +kernel) (by decide +kernel)
theorem pf_X7_177 {M : MI} {d pc : Nat} {Q : Int → St → Prop} {ls : List (Option PV)} {st : List PV} {σ : St} {z : Int} (hM : M.1.cls = RX7) (hz : InR z) (hd : decode M.2.1 pc = .ok (.putfield 177, 3)) (h : Wp M d Q (pc + 3) ls st (put σ 7 22 z)) : Wp M d Q pc ls (.inl z :: .inr 7 :: st) σ := w_put (k := 7) (j := 22) (ty := .int) rfl inTB7 tyX7 tyX7_ok nmX7 rfl (by decide) rfl rfl (by rw [hM]; exact tw_742) (by decide +kernel) rfl rfl hz hd h
theorem tw_748 : Cond.fieldLink RX7 65 "ShelfShiftModel" "planGoal" "[I" ∈ TB := tb_of 748 (by decide +kernel) (by decide +kernel)
theorem gf_X7_65 {M : MI} {d pc : Nat} {Q : Int → St → Prop} {ls : List (Option PV)} {st : List PV} {σ : St} (hM : M.1.cls = RX7) (hd : decode M.2.1 pc = .ok (.getfield 65, 3)) (h : Wp M d Q (pc + 3) ls (.inr 74 :: st) σ) : Wp M d Q pc ls (.inr 7 :: st) σ := w_get (k := 7) (j := 28) (v := .inr 74) rfl inTB7 rfl (by decide) (by rw [hM]; exact tw_748) (fun _ => rfl) hd h
theorem tw_932 : Cond.methodLink RX7 180 yX7_plans ∈ TB := tb_of 932 (by decide +kernel) (by decide +kernel)
theorem tw_934 : Cond.instanceMethod yX7_plans ∈ TB := tb_of 934 (by decide +kernel) (by decide +kernel)
theorem tw_40 : Cond.selects RX7 yX7_plans yX7_plans ∈ TB := tb_of 40 (by decide +kernel) (by decide +kernel)
theorem cv_X7_180 {M : MI} {d pc : Nat} {Q : Int → St → Prop} {ls : List (Option PV)} {st : List PV} {σ : St} {d' : Nat} {a1 : PV} (hM : M.1.cls = RX7) (hd : decode M.2.1 pc = .ok (.invokevirtual 180, 3)) (hdd : d' < d) (hst : st.length ≤ 8) (h : Wp mX7_plans d' (fun z τ => Wp M d Q (pc + 3) ls (st) τ) 0 [some (.inr 7), some a1] [] σ) : Wp M d Q pc ls (a1 :: .inr 7 :: st) σ := w_cv (M' := mX7_plans) (k := 7) (vs := [a1]) hd (by rw [hM]; exact tw_932) tw_934 tw_40 cw_X7_plans rfl rfl rfl (Nat.le_of_ble_eq_true rfl) hdd hst h
theorem gf_X7_164 {M : MI} {d pc : Nat} {Q : Int → St → Prop} {ls : List (Option PV)} {st : List PV} {σ : St} (hM : M.1.cls = RX7) (hd : decode M.2.1 pc = .ok (.getfield 164, 3)) (h : Wp M d Q (pc + 3) ls (.inl (σ 7 21) :: st) σ) : Wp M d Q pc ls (.inr 7 :: st) σ := w_get (k := 7) (j := 21) (v := .inl (σ 7 21)) rfl inTB7 rfl (by decide) (by rw [hM]; exact tw_741) (fun _ => rfl) hd h
theorem gf_X7_174 {M : MI} {d pc : Nat} {Q : Int → St → Prop} {ls : List (Option PV)} {st : List PV} {σ : St} (hM : M.1.cls = RX7) (hd : decode M.2.1 pc = .ok (.getfield 174, 3)) (h : Wp M d Q (pc + 3) ls (.inl (σ 7 24) :: st) σ) : Wp M d Q pc ls (.inr 7 :: st) σ := w_get (k := 7) (j := 24) (v := .inl (σ 7 24)) rfl inTB7 rfl (by decide) (by rw [hM]; exact tw_744) (fun _ => rfl) hd h
theorem tw_944 : Cond.methodLink RX7 183 yX7_goesOn ∈ TB := tb_of 944 (by decide +kernel) (by decide +kernel)
theorem tw_946 : Cond.instanceMethod yX7_goesOn ∈ TB := tb_of 946 (by decide +kernel) (by decide +kernel)
theorem tw_41 : Cond.selects RX7 yX7_goesOn yX7_goesOn ∈ TB := tb_of 41 (by decide +kernel) (by decide +kernel)
theorem cv_X7_183 {M : MI} {d pc : Nat} {Q : Int → St → Prop} {ls : List (Option PV)} {st : List PV} {σ : St} {d' : Nat} (hM : M.1.cls = RX7) (hd : decode M.2.1 pc = .ok (.invokevirtual 183, 3)) (hdd : d' < d) (hst : st.length ≤ 8) (h : Wp mX7_goesOn d' (fun z τ => Wp M d Q (pc + 3) ls (.inl z :: st) τ) 0 [some (.inr 7), none] [] σ) : Wp M d Q pc ls (.inr 7 :: st) σ := w_cv (M' := mX7_goesOn) (k := 7) (vs := []) hd (by rw [hM]; exact tw_944) tw_946 tw_41 cw_X7_goesOn rfl rfl rfl (Nat.le_of_ble_eq_true rfl) hdd hst h
theorem tw_732 : Cond.fieldLink RX7 31 "ShelfShiftModel" "limit" "I" ∈ TB := tb_of 732 (by decide +kernel) (by decide +kernel)
theorem gf_X7_31 {M : MI} {d pc : Nat} {Q : Int → St → Prop} {ls : List (Option PV)} {st : List PV} {σ : St} (hM : M.1.cls = RX7) (hd : decode M.2.1 pc = .ok (.getfield 31, 3)) (h : Wp M d Q (pc + 3) ls (.inl (σ 7 12) :: st) σ) : Wp M d Q pc ls (.inr 7 :: st) σ := w_get (k := 7) (j := 12) (v := .inl (σ 7 12)) rfl inTB7 rfl (by decide) (by rw [hM]; exact tw_732) (fun _ => rfl) hd h
theorem tw_956 : Cond.methodLink RX7 187 yX7_dayOf ∈ TB := tb_of 956 (by decide +kernel) (by decide +kernel)
theorem tw_958 : Cond.instanceMethod yX7_dayOf ∈ TB := tb_of 958 (by decide +kernel) (by decide +kernel)
theorem tw_42 : Cond.selects RX7 yX7_dayOf yX7_dayOf ∈ TB := tb_of 42 (by decide +kernel) (by decide +kernel)
theorem cv_X7_187 {M : MI} {d pc : Nat} {Q : Int → St → Prop} {ls : List (Option PV)} {st : List PV} {σ : St} {d' : Nat} {a1 a2 a3 : PV} (hM : M.1.cls = RX7) (hd : decode M.2.1 pc = .ok (.invokevirtual 187, 3)) (hdd : d' < d) (hst : st.length ≤ 8) (h : Wp mX7_dayOf d' (fun z τ => Wp M d Q (pc + 3) ls (.inl z :: st) τ) 0 [some (.inr 7), some a1, some a2, some a3, none, none, none, none] [] σ) : Wp M d Q pc ls (a3 :: a2 :: a1 :: .inr 7 :: st) σ := w_cv (M' := mX7_dayOf) (k := 7) (vs := [a1, a2, a3]) hd (by rw [hM]; exact tw_956) tw_958 tw_42 cw_X7_dayOf rfl rfl rfl (Nat.le_of_ble_eq_true rfl) hdd hst h
theorem tw_960 : Cond.methodLink RX7 190 yX7_tripOf ∈ TB := tb_of 960 (by decide +kernel) (by decide +kernel)
theorem tw_962 : Cond.instanceMethod yX7_tripOf ∈ TB := tb_of 962 (by decide +kernel) (by decide +kernel)
theorem tw_43 : Cond.selects RX7 yX7_tripOf yX7_tripOf ∈ TB := tb_of 43 (by decide +kernel) (by decide +kernel)
theorem cv_X7_190 {M : MI} {d pc : Nat} {Q : Int → St → Prop} {ls : List (Option PV)} {st : List PV} {σ : St} {d' : Nat} {a1 a2 : PV} (hM : M.1.cls = RX7) (hd : decode M.2.1 pc = .ok (.invokevirtual 190, 3)) (hdd : d' < d) (hst : st.length ≤ 8) (h : Wp mX7_tripOf d' (fun z τ => Wp M d Q (pc + 3) ls (.inl z :: st) τ) 0 [some (.inr 7), some a1, some a2, none, none] [] σ) : Wp M d Q pc ls (a2 :: a1 :: .inr 7 :: st) σ := w_cv (M' := mX7_tripOf) (k := 7) (vs := [a1, a2]) hd (by rw [hM]; exact tw_960) tw_962 tw_43 cw_X7_tripOf rfl rfl rfl (Nat.le_of_ble_eq_true rfl) hdd hst h
theorem tw_964 : Cond.methodLink RX7 193 yX7_taken ∈ TB := tb_of 964 (by decide +kernel) (by decide +kernel)
theorem tw_966 : Cond.instanceMethod yX7_taken ∈ TB := tb_of 966 (by decide +kernel) (by decide +kernel)
theorem tw_44 : Cond.selects RX7 yX7_taken yX7_taken ∈ TB := tb_of 44 (by decide +kernel) (by decide +kernel)
theorem cv_X7_193 {M : MI} {d pc : Nat} {Q : Int → St → Prop} {ls : List (Option PV)} {st : List PV} {σ : St} {d' : Nat} {a1 : PV} (hM : M.1.cls = RX7) (hd : decode M.2.1 pc = .ok (.invokevirtual 193, 3)) (hdd : d' < d) (hst : st.length ≤ 8) (h : Wp mX7_taken d' (fun z τ => Wp M d Q (pc + 3) ls (.inl z :: st) τ) 0 [some (.inr 7), some a1, none, none] [] σ) : Wp M d Q pc ls (a1 :: .inr 7 :: st) σ := w_cv (M' := mX7_taken) (k := 7) (vs := [a1]) hd (by rw [hM]; exact tw_964) tw_966 tw_44 cw_X7_taken rfl rfl rfl (Nat.le_of_ble_eq_true rfl) hdd hst h
theorem tw_972 : Cond.methodLink RX7 196 yX7_leftWidths ∈ TB := tb_of 972 (by decide +kernel) (by decide +kernel)
theorem tw_974 : Cond.instanceMethod yX7_leftWidths ∈ TB := tb_of 974 (by decide +kernel) (by decide +kernel)
theorem tw_45 : Cond.selects RX7 yX7_leftWidths yX7_leftWidths ∈ TB := tb_of 45 (by decide +kernel) (by decide +kernel)
theorem cv_X7_196 {M : MI} {d pc : Nat} {Q : Int → St → Prop} {ls : List (Option PV)} {st : List PV} {σ : St} {d' : Nat} (hM : M.1.cls = RX7) (hd : decode M.2.1 pc = .ok (.invokevirtual 196, 3)) (hdd : d' < d) (hst : st.length ≤ 8) (h : Wp mX7_leftWidths d' (fun z τ => Wp M d Q (pc + 3) ls (.inl z :: st) τ) 0 [some (.inr 7), none, none] [] σ) : Wp M d Q pc ls (.inr 7 :: st) σ := w_cv (M' := mX7_leftWidths) (k := 7) (vs := []) hd (by rw [hM]; exact tw_972) tw_974 tw_45 cw_X7_leftWidths rfl rfl rfl (Nat.le_of_ble_eq_true rfl) hdd hst h
theorem tw_976 : Cond.methodLink RX7 199 yX7_leftRight ∈ TB := tb_of 976 (by decide +kernel) (by decide +kernel)
theorem tw_978 : Cond.instanceMethod yX7_leftRight ∈ TB := tb_of 978 (by decide +kernel) (by decide +kernel)
theorem tw_46 : Cond.selects RX7 yX7_leftRight yX7_leftRight ∈ TB := tb_of 46 (by decide +kernel) (by decide +kernel)
theorem cv_X7_199 {M : MI} {d pc : Nat} {Q : Int → St → Prop} {ls : List (Option PV)} {st : List PV} {σ : St} {d' : Nat} (hM : M.1.cls = RX7) (hd : decode M.2.1 pc = .ok (.invokevirtual 199, 3)) (hdd : d' < d) (hst : st.length ≤ 8) (h : Wp mX7_leftRight d' (fun z τ => Wp M d Q (pc + 3) ls (.inl z :: st) τ) 0 [some (.inr 7), none, none] [] σ) : Wp M d Q pc ls (.inr 7 :: st) σ := w_cv (M' := mX7_leftRight) (k := 7) (vs := []) hd (by rw [hM]; exact tw_976) tw_978 tw_46 cw_X7_leftRight rfl rfl rfl (Nat.le_of_ble_eq_true rfl) hdd hst h
theorem pf_X7_71 {M : MI} {d pc : Nat} {Q : Int → St → Prop} {ls : List (Option PV)} {st : List PV} {σ : St} {z : Int} (hM : M.1.cls = RX7) (hz : InR z) (hd : decode M.2.1 pc = .ok (.putfield 71, 3)) (h : Wp M d Q (pc + 3) ls st (put σ 7 1 z)) : Wp M d Q pc ls (.inl z :: .inr 7 :: st) σ := w_put (k := 7) (j := 1) (ty := .int) rfl inTB7 tyX7 tyX7_ok nmX7 rfl (by decide) rfl rfl (by rw [hM]; exact tw_721) (by decide +kernel) rfl rfl hz hd h
theorem pf_X7_78 {M : MI} {d pc : Nat} {Q : Int → St → Prop} {ls : List (Option PV)} {st : List PV} {σ : St} {z : Int} (hM : M.1.cls = RX7) (hz : InR z) (hd : decode M.2.1 pc = .ok (.putfield 78, 3)) (h : Wp M d Q (pc + 3) ls st (put σ 7 4 z)) : Wp M d Q pc ls (.inl z :: .inr 7 :: st) σ := w_put (k := 7) (j := 4) (ty := .int) rfl inTB7 tyX7 tyX7_ok nmX7 rfl (by decide) rfl rfl (by rw [hM]; exact tw_724) (by decide +kernel) rfl rfl hz hd h
theorem pf_X7_31 {M : MI} {d pc : Nat} {Q : Int → St → Prop} {ls : List (Option PV)} {st : List PV} {σ : St} {z : Int} (hM : M.1.cls = RX7) (hz : InR z) (hd : decode M.2.1 pc = .ok (.putfield 31, 3)) (h : Wp M d Q (pc + 3) ls st (put σ 7 12 z)) : Wp M d Q pc ls (.inl z :: .inr 7 :: st) σ := w_put (k := 7) (j := 12) (ty := .int) rfl inTB7 tyX7 tyX7_ok nmX7 rfl (by decide) rfl rfl (by rw [hM]; exact tw_732) (by decide +kernel) rfl rfl hz hd h
theorem tw_1008 : Cond.methodLink RX7 202 yX7_allWidths ∈ TB := tb_of 1008 (by decide +kernel) (by decide +kernel)
theorem tw_1010 : Cond.instanceMethod yX7_allWidths ∈ TB := tb_of 1010 (by decide +kernel) (by decide +kernel)
theorem tw_47 : Cond.selects RX7 yX7_allWidths yX7_allWidths ∈ TB := tb_of 47 (by decide +kernel) (by decide +kernel)
theorem cv_X7_202 {M : MI} {d pc : Nat} {Q : Int → St → Prop} {ls : List (Option PV)} {st : List PV} {σ : St} {d' : Nat} (hM : M.1.cls = RX7) (hd : decode M.2.1 pc = .ok (.invokevirtual 202, 3)) (hdd : d' < d) (hst : st.length ≤ 8) (h : Wp mX7_allWidths d' (fun z τ => Wp M d Q (pc + 3) ls (.inl z :: st) τ) 0 [some (.inr 7), none, none] [] σ) : Wp M d Q pc ls (.inr 7 :: st) σ := w_cv (M' := mX7_allWidths) (k := 7) (vs := []) hd (by rw [hM]; exact tw_1008) tw_1010 tw_47 cw_X7_allWidths rfl rfl rfl (Nat.le_of_ble_eq_true rfl) hdd hst h
theorem tw_1012 : Cond.methodLink RX7 205 yX7_openLengths ∈ TB := tb_of 1012 (by decide +kernel) (by decide +kernel)
theorem tw_1014 : Cond.instanceMethod yX7_openLengths ∈ TB := tb_of 1014 (by decide +kernel) (by decide +kernel)
theorem tw_48 : Cond.selects RX7 yX7_openLengths yX7_openLengths ∈ TB := tb_of 48 (by decide +kernel) (by decide +kernel)
theorem cv_X7_205 {M : MI} {d pc : Nat} {Q : Int → St → Prop} {ls : List (Option PV)} {st : List PV} {σ : St} {d' : Nat} (hM : M.1.cls = RX7) (hd : decode M.2.1 pc = .ok (.invokevirtual 205, 3)) (hdd : d' < d) (hst : st.length ≤ 8) (h : Wp mX7_openLengths d' (fun z τ => Wp M d Q (pc + 3) ls (.inl z :: st) τ) 0 [some (.inr 7), none, none] [] σ) : Wp M d Q pc ls (.inr 7 :: st) σ := w_cv (M' := mX7_openLengths) (k := 7) (vs := []) hd (by rw [hM]; exact tw_1012) tw_1014 tw_48 cw_X7_openLengths rfl rfl rfl (Nat.le_of_ble_eq_true rfl) hdd hst h
theorem gf_X7_177 {M : MI} {d pc : Nat} {Q : Int → St → Prop} {ls : List (Option PV)} {st : List PV} {σ : St} (hM : M.1.cls = RX7) (hd : decode M.2.1 pc = .ok (.getfield 177, 3)) (h : Wp M d Q (pc + 3) ls (.inl (σ 7 22) :: st) σ) : Wp M d Q pc ls (.inr 7 :: st) σ := w_get (k := 7) (j := 22) (v := .inl (σ 7 22)) rfl inTB7 rfl (by decide) (by rw [hM]; exact tw_742) (fun _ => rfl) hd h
theorem tw_1028 : Cond.methodLink RX7 208 yX7_lastsOf ∈ TB := tb_of 1028 (by decide +kernel) (by decide +kernel)
theorem tw_1030 : Cond.instanceMethod yX7_lastsOf ∈ TB := tb_of 1030 (by decide +kernel) (by decide +kernel)
theorem tw_51 : Cond.selects RX7 yX7_lastsOf yX7_lastsOf ∈ TB := tb_of 51 (by decide +kernel) (by decide +kernel)
theorem cv_X7_208 {M : MI} {d pc : Nat} {Q : Int → St → Prop} {ls : List (Option PV)} {st : List PV} {σ : St} {d' : Nat} {a1 : PV} (hM : M.1.cls = RX7) (hd : decode M.2.1 pc = .ok (.invokevirtual 208, 3)) (hdd : d' < d) (hst : st.length ≤ 8) (h : Wp mX7_lastsOf d' (fun z τ => Wp M d Q (pc + 3) ls (.inl z :: st) τ) 0 [some (.inr 7), some a1, none, none] [] σ) : Wp M d Q pc ls (a1 :: .inr 7 :: st) σ := w_cv (M' := mX7_lastsOf) (k := 7) (vs := [a1]) hd (by rw [hM]; exact tw_1028) tw_1030 tw_51 cw_X7_lastsOf rfl rfl rfl (Nat.le_of_ble_eq_true rfl) hdd hst h
theorem tw_1032 : Cond.methodLink RX7 211 yX7_firstOn ∈ TB := tb_of 1032 (by decide +kernel) (by decide +kernel)
theorem tw_1034 : Cond.instanceMethod yX7_firstOn ∈ TB := tb_of 1034 (by decide +kernel) (by decide +kernel)
theorem tw_52 : Cond.selects RX7 yX7_firstOn yX7_firstOn ∈ TB := tb_of 52 (by decide +kernel) (by decide +kernel)
theorem cv_X7_211 {M : MI} {d pc : Nat} {Q : Int → St → Prop} {ls : List (Option PV)} {st : List PV} {σ : St} {d' : Nat} {a1 : PV} (hM : M.1.cls = RX7) (hd : decode M.2.1 pc = .ok (.invokevirtual 211, 3)) (hdd : d' < d) (hst : st.length ≤ 8) (h : Wp mX7_firstOn d' (fun z τ => Wp M d Q (pc + 3) ls (.inl z :: st) τ) 0 [some (.inr 7), some a1, none] [] σ) : Wp M d Q pc ls (a1 :: .inr 7 :: st) σ := w_cv (M' := mX7_firstOn) (k := 7) (vs := [a1]) hd (by rw [hM]; exact tw_1032) tw_1034 tw_52 cw_X7_firstOn rfl rfl rfl (Nat.le_of_ble_eq_true rfl) hdd hst h
theorem tw_1036 : Cond.methodLink RX7 214 yX7_manyOn ∈ TB := tb_of 1036 (by decide +kernel) (by decide +kernel)
theorem tw_1038 : Cond.instanceMethod yX7_manyOn ∈ TB := tb_of 1038 (by decide +kernel) (by decide +kernel)
theorem tw_53 : Cond.selects RX7 yX7_manyOn yX7_manyOn ∈ TB := tb_of 53 (by decide +kernel) (by decide +kernel)
theorem cv_X7_214 {M : MI} {d pc : Nat} {Q : Int → St → Prop} {ls : List (Option PV)} {st : List PV} {σ : St} {d' : Nat} {a1 : PV} (hM : M.1.cls = RX7) (hd : decode M.2.1 pc = .ok (.invokevirtual 214, 3)) (hdd : d' < d) (hst : st.length ≤ 8) (h : Wp mX7_manyOn d' (fun z τ => Wp M d Q (pc + 3) ls (.inl z :: st) τ) 0 [some (.inr 7), some a1, none, none] [] σ) : Wp M d Q pc ls (a1 :: .inr 7 :: st) σ := w_cv (M' := mX7_manyOn) (k := 7) (vs := [a1]) hd (by rw [hM]; exact tw_1036) tw_1038 tw_53 cw_X7_manyOn rfl rfl rfl (Nat.le_of_ble_eq_true rfl) hdd hst h
theorem tw_1044 : Cond.methodLink RX7 217 yX7_booksOf ∈ TB := tb_of 1044 (by decide +kernel) (by decide +kernel)
theorem tw_1046 : Cond.instanceMethod yX7_booksOf ∈ TB := tb_of 1046 (by decide +kernel) (by decide +kernel)
theorem tw_54 : Cond.selects RX7 yX7_booksOf yX7_booksOf ∈ TB := tb_of 54 (by decide +kernel) (by decide +kernel)
theorem cv_X7_217 {M : MI} {d pc : Nat} {Q : Int → St → Prop} {ls : List (Option PV)} {st : List PV} {σ : St} {d' : Nat} {a1 : PV} (hM : M.1.cls = RX7) (hd : decode M.2.1 pc = .ok (.invokevirtual 217, 3)) (hdd : d' < d) (hst : st.length ≤ 8) (h : Wp mX7_booksOf d' (fun z τ => Wp M d Q (pc + 3) ls (.inl z :: st) τ) 0 [some (.inr 7), some a1, none, none] [] σ) : Wp M d Q pc ls (a1 :: .inr 7 :: st) σ := w_cv (M' := mX7_booksOf) (k := 7) (vs := [a1]) hd (by rw [hM]; exact tw_1044) tw_1046 tw_54 cw_X7_booksOf rfl rfl rfl (Nat.le_of_ble_eq_true rfl) hdd hst h
theorem tw_1048 : Cond.methodLink RX7 220 yX7_firstOf ∈ TB := tb_of 1048 (by decide +kernel) (by decide +kernel)
theorem tw_1050 : Cond.instanceMethod yX7_firstOf ∈ TB := tb_of 1050 (by decide +kernel) (by decide +kernel)
theorem tw_55 : Cond.selects RX7 yX7_firstOf yX7_firstOf ∈ TB := tb_of 55 (by decide +kernel) (by decide +kernel)
theorem cv_X7_220 {M : MI} {d pc : Nat} {Q : Int → St → Prop} {ls : List (Option PV)} {st : List PV} {σ : St} {d' : Nat} {a1 : PV} (hM : M.1.cls = RX7) (hd : decode M.2.1 pc = .ok (.invokevirtual 220, 3)) (hdd : d' < d) (hst : st.length ≤ 8) (h : Wp mX7_firstOf d' (fun z τ => Wp M d Q (pc + 3) ls (.inl z :: st) τ) 0 [some (.inr 7), some a1, none] [] σ) : Wp M d Q pc ls (a1 :: .inr 7 :: st) σ := w_cv (M' := mX7_firstOf) (k := 7) (vs := [a1]) hd (by rw [hM]; exact tw_1048) tw_1050 tw_55 cw_X7_firstOf rfl rfl rfl (Nat.le_of_ble_eq_true rfl) hdd hst h
theorem tw_1052 : Cond.methodLink RX7 223 yX7_shelvesOf ∈ TB := tb_of 1052 (by decide +kernel) (by decide +kernel)
theorem tw_1054 : Cond.instanceMethod yX7_shelvesOf ∈ TB := tb_of 1054 (by decide +kernel) (by decide +kernel)
theorem tw_56 : Cond.selects RX7 yX7_shelvesOf yX7_shelvesOf ∈ TB := tb_of 56 (by decide +kernel) (by decide +kernel)
theorem cv_X7_223 {M : MI} {d pc : Nat} {Q : Int → St → Prop} {ls : List (Option PV)} {st : List PV} {σ : St} {d' : Nat} {a1 : PV} (hM : M.1.cls = RX7) (hd : decode M.2.1 pc = .ok (.invokevirtual 223, 3)) (hdd : d' < d) (hst : st.length ≤ 8) (h : Wp mX7_shelvesOf d' (fun z τ => Wp M d Q (pc + 3) ls (.inl z :: st) τ) 0 [some (.inr 7), some a1, none, none, none] [] σ) : Wp M d Q pc ls (a1 :: .inr 7 :: st) σ := w_cv (M' := mX7_shelvesOf) (k := 7) (vs := [a1]) hd (by rw [hM]; exact tw_1052) tw_1054 tw_56 cw_X7_shelvesOf rfl rfl rfl (Nat.le_of_ble_eq_true rfl) hdd hst h
theorem tw_1060 : Cond.methodLink RX7 226 yX7_needOf ∈ TB := tb_of 1060 (by decide +kernel) (by decide +kernel)
theorem tw_1062 : Cond.instanceMethod yX7_needOf ∈ TB := tb_of 1062 (by decide +kernel) (by decide +kernel)
theorem tw_57 : Cond.selects RX7 yX7_needOf yX7_needOf ∈ TB := tb_of 57 (by decide +kernel) (by decide +kernel)
theorem cv_X7_226 {M : MI} {d pc : Nat} {Q : Int → St → Prop} {ls : List (Option PV)} {st : List PV} {σ : St} {d' : Nat} {a1 : PV} (hM : M.1.cls = RX7) (hd : decode M.2.1 pc = .ok (.invokevirtual 226, 3)) (hdd : d' < d) (hst : st.length ≤ 8) (h : Wp mX7_needOf d' (fun z τ => Wp M d Q (pc + 3) ls (.inl z :: st) τ) 0 [some (.inr 7), some a1] [] σ) : Wp M d Q pc ls (a1 :: .inr 7 :: st) σ := w_cv (M' := mX7_needOf) (k := 7) (vs := [a1]) hd (by rw [hM]; exact tw_1060) tw_1062 tw_57 cw_X7_needOf rfl rfl rfl (Nat.le_of_ble_eq_true rfl) hdd hst h
theorem tw_1064 : Cond.methodLink RX7 229 yX7_ahead ∈ TB := tb_of 1064 (by decide +kernel) (by decide +kernel)
theorem tw_1066 : Cond.instanceMethod yX7_ahead ∈ TB := tb_of 1066 (by decide +kernel) (by decide +kernel)
theorem tw_58 : Cond.selects RX7 yX7_ahead yX7_ahead ∈ TB := tb_of 58 (by decide +kernel) (by decide +kernel)
theorem cv_X7_229 {M : MI} {d pc : Nat} {Q : Int → St → Prop} {ls : List (Option PV)} {st : List PV} {σ : St} {d' : Nat} {a1 : PV} (hM : M.1.cls = RX7) (hd : decode M.2.1 pc = .ok (.invokevirtual 229, 3)) (hdd : d' < d) (hst : st.length ≤ 8) (h : Wp mX7_ahead d' (fun z τ => Wp M d Q (pc + 3) ls (.inl z :: st) τ) 0 [some (.inr 7), some a1, none, none] [] σ) : Wp M d Q pc ls (a1 :: .inr 7 :: st) σ := w_cv (M' := mX7_ahead) (k := 7) (vs := [a1]) hd (by rw [hM]; exact tw_1064) tw_1066 tw_58 cw_X7_ahead rfl rfl rfl (Nat.le_of_ble_eq_true rfl) hdd hst h
end
section
/-! folds and loops -/
def fo {α : Type} (f : Int → α → α) (a : α) : Nat → α
  | 0 => a
  | n + 1 => f (n : Int) (fo f a n)
def foI {α : Type} (f : Int → α → α) (a : α) (i : Int) : α := fo f a i.toNat
theorem foI_0 {α : Type} (f : Int → α → α) (a : α) : foI f a 0 = a := rfl
theorem foI_s {α : Type} (f : Int → α → α) (a : α) {i : Int} (h : 0 ≤ i) : foI f a (i + 1) = f i (foI f a i) := by
  unfold foI
  have e : (i + 1).toNat = i.toNat + 1 := by omega
  rw [e]
  show f ((i.toNat : Nat) : Int) _ = _
  rw [show ((i.toNat : Nat) : Int) = i by omega]
theorem foI_congr {α : Type} {f g : Int → α → α} {a : α} {n : Int} (h : ∀ i x, 0 ≤ i → i < n → f i x = g i x) : foI f a n = foI g a n := by
  unfold foI
  have key : ∀ k : Nat, (k : Int) ≤ n → fo f a k = fo g a k := by
    intro k
    induction k with
    | zero => intro _; rfl
    | succ k ih =>
      intro hk
      show f k (fo f a k) = g k (fo g a k)
      rw [ih (by omega), h k _ (by omega) (by omega)]
  by_cases h0 : 0 ≤ n
  · exact key n.toNat (by omega)
  · rw [show n.toNat = 0 by omega]; rfl
theorem up_to (n : Int) (P : Int → Prop) (h : ∀ i, i ≤ n → (i < n → P (i + 1)) → P i) : ∀ i, i ≤ n → P i := by
  have key : ∀ (k : Nat) (i : Int), i + k = n → P i := by
    intro k
    induction k with
    | zero => intro i hi; exact h i (by omega) (fun q => by omega)
    | succ k ih => intro i hi; exact h i (by omega) (fun _ => ih (i + 1) (by omega))
  intro i hi
  exact key (n - i).toNat i (by omega)
theorem down_to (n : Int) (P : Int → Prop) (h : ∀ i, n ≤ i → (n < i → P (i - 1)) → P i) : ∀ i, n ≤ i → P i := by
  have key : ∀ (k : Nat) (i : Int), n + k = i → P i := by
    intro k
    induction k with
    | zero => intro i hi; exact h i (by omega) (fun q => by omega)
    | succ k ih => intro i hi; exact h i (by omega) (fun _ => ih (i - 1) (by omega))
  intro i hi
  exact key (i - n).toNat i (by omega)
end
section
def wr (z : Int) : Int := (Int32.ofInt z).toInt
theorem wr_in (z : Int) : InR (wr z) := by
  have h1 := Int32.toInt_lt (Int32.ofInt z)
  have h2 := Int32.le_toInt (Int32.ofInt z)
  unfold wr
  omega
theorem wr_of {z : Int} (h : InR z) : wr z = z := oi h
theorem Wp.wrap {M : MI} {d pc : Nat} {Q : Int → St → Prop} {ls : List (Option PV)} {st : List PV} {σ : St} {z : Int} (h : Wp M d Q pc ls (.inl (wr z) :: st) σ) : Wp M d Q pc ls (.inl z :: st) σ := by
  intro p l e s m args below meth c cI cA D ad A hc H locs lsA hr hP hS hl
  have h1 := h p l e s m args below meth c cI cA D ad A hc H locs lsA hr hP hS hl
  have e1 : rv ad (.inl (wr z)) = rv ad (.inl z) := by
    show Value.int (Int32.ofInt (Int32.ofInt z).toInt) = Value.int (Int32.ofInt z)
    rw [Int32.ofInt_toInt]
  rw [List.map_cons, e1] at h1
  exact h1
/-! what loops over rows give -/
def sumW (row amt : Int → Int) (v n : Int) : Int := foI (fun b a => if row b = v then a + amt b else a) 0 n
def cntW (row : Int → Int) (v n : Int) : Int := foI (fun b a => if row b = v then a + 1 else a) 0 n
def sumA (amt : Int → Int) (n : Int) : Int := foI (fun b a => a + amt b) 0 n
/-- the first place with a value, or -1 -/
def IsFst (row : Int → Int) (v n z : Int) : Prop := (z = -1 ∧ ∀ b, 0 ≤ b → b < n → row b ≠ v) ∨ (0 ≤ z ∧ z < n ∧ row z = v ∧ ∀ b, 0 ≤ b → b < z → row b ≠ v)
theorem IsFst.uniq {row : Int → Int} {v n z y : Int} (h : IsFst row v n z) (k : IsFst row v n y) : z = y := by
  rcases h with ⟨h1, h2⟩ | ⟨h1, h2, h3, h4⟩ <;> rcases k with ⟨k1, k2⟩ | ⟨k1, k2, k3, k4⟩
  · omega
  · exact absurd k3 (h2 y k1 k2)
  · exact absurd h3 (k2 z h1 h2)
  · rcases Int.lt_trichotomy z y with q | q | q
    · exact absurd h3 (k4 z h1 q)
    · exact q
    · exact absurd k3 (h4 y k1 q)
theorem IsFst.congr {row row' : Int → Int} {v n z : Int} (h : IsFst row v n z) (e : ∀ b, 0 ≤ b → b < n → row b = row' b) : IsFst row' v n z := by
  rcases h with ⟨h1, h2⟩ | ⟨h1, h2, h3, h4⟩
  · exact Or.inl ⟨h1, fun b b1 b2 => by rw [← e b b1 b2]; exact h2 b b1 b2⟩
  · exact Or.inr ⟨h1, h2, by rw [← e z h1 h2]; exact h3, fun b b1 b2 => by rw [← e b b1 (by omega)]; exact h4 b b1 b2⟩
/-- behind all of a group and of those ahead -/
def IsNb (grp : Int → Int) (n g z : Int) : Prop := 0 ≤ z ∧ z ≤ n ∧ (∀ b, 0 ≤ b → b < z → grp b ≤ g) ∧ (z = n ∨ g < grp z)
theorem IsNb.uniq {grp : Int → Int} {n g z y : Int} (h : IsNb grp n g z) (k : IsNb grp n g y) : z = y := by
  obtain ⟨h1, h2, h3, h4⟩ := h
  obtain ⟨k1, k2, k3, k4⟩ := k
  rcases Int.lt_trichotomy z y with q | q | q
  · have := k3 z h1 q
    omega
  · exact q
  · have := h3 y k1 q
    omega
theorem IsNb.congr {grp grp' : Int → Int} {n g z : Int} (h : IsNb grp n g z) (e : ∀ b, 0 ≤ b → b < n → grp b = grp' b) : IsNb grp' n g z := by
  obtain ⟨h1, h2, h3, h4⟩ := h
  refine ⟨h1, h2, fun b b1 b2 => by rw [← e b b1 (by omega)]; exact h3 b b1 b2, ?_⟩
  rcases h4 with h4 | h4
  · exact Or.inl h4
  · by_cases q : z = n
    · exact Or.inl q
    · exact Or.inr (by rw [← e z h1 (by omega)]; exact h4)
def shlF (grp shf : Int → Int) (g n : Int) : Int × Int := foI (fun b (p : Int × Int) => if grp b = g ∧ shf b ≠ p.2 then (p.1 + 1, shf b) else p) (0, -1) n

set_option maxRecDepth 100000 in
set_option maxHeartbeats 4000000 in
theorem ct_X0_sumWith (σ : St) (r1 r2 : Nat) (v : Int) (hb : 0 ≤ σ 0 6 ∧ σ 0 6 ≤ 60) (hs1 : shT[r1]? = some (.inr (.inl 60))) (hs2 : shT[r2]? = some (.inr (.inl 60))) (hv : InR v) : Wp mX0_sumWith 0 (fun z τ => z = sumW (σ r1) (σ r2) v (σ 0 6) ∧ τ = σ) 0 [some (.inr 0), some (.inr r1), some (.inl v), some (.inr r2), none, none] [] σ := by
  refine Wp.rg (fun hR => ?_)
  refine w_iconst dX0_sumWith_0 ?_
  refine w_istore dX0_sumWith_1 (Nat.le_of_ble_eq_true rfl) ?_
  refine w_iconst dX0_sumWith_3 ?_
  refine w_istore dX0_sumWith_4 (Nat.le_of_ble_eq_true rfl) ?_
  refine up_to (σ 0 6) (fun i => 0 ≤ i → ∀ a, a = sumW (σ r1) (σ r2) v i → Wp mX0_sumWith 0 (fun z τ => z = sumW (σ r1) (σ r2) v (σ 0 6) ∧ τ = σ) 6 [some (.inr 0), some (.inr r1), some (.inl v), some (.inr r2), some (.inl a), some (.inl i)] [] σ) (fun i hi ih h0 a hinv => ?_) (0) (by omega) (by omega) 0 rfl
  refine w_iload dX0_sumWith_6 rfl ?_
  refine w_aload_n dX0_sumWith_8 rfl ?_
  refine gf_X0_30 rfl dX0_sumWith_9 ?_
  refine w_icmp_ge (tgt := 38) dX0_sumWith_12 (by decide) (by omega) (by omega) (fun c_12 => ?_) (fun c_12 => ?_)
  · refine w_iload dX0_sumWith_38 rfl ?_
    refine w_iret dX0_sumWith_40 rfl ?_
    exact ⟨by rw [hinv, show i = σ 0 6 by omega], rfl⟩
  · refine w_aload_n dX0_sumWith_15 rfl ?_
    refine w_iload dX0_sumWith_16 rfl ?_
    refine w_iald hs1 (by omega) dX0_sumWith_18 ?_
    refine w_iload_n dX0_sumWith_19 rfl ?_
    refine w_icmp_ne (tgt := 32) dX0_sumWith_20 (by decide) (hR _ _) hv (fun c_20 => ?_) (fun c_20 => ?_)
    · refine w_iinc dX0_sumWith_32 (Nat.le_of_ble_eq_true rfl) rfl ?_
      refine w_goto (tgt := 6) dX0_sumWith_35 (by decide) ?_
      exact ih (by omega) (by omega) _ (by unfold sumW; rw [foI_s _ _ h0]; unfold sumW at hinv; rw [← hinv]; simp [c_20])
    · refine w_iload dX0_sumWith_23 rfl ?_
      refine w_aload_n dX0_sumWith_25 rfl ?_
      refine w_iload dX0_sumWith_26 rfl ?_
      refine w_iald hs2 (by omega) dX0_sumWith_28 ?_
      refine w_iadd dX0_sumWith_29 ?_
      refine w_istore dX0_sumWith_30 (Nat.le_of_ble_eq_true rfl) ?_
      refine w_iinc dX0_sumWith_32 (Nat.le_of_ble_eq_true rfl) rfl ?_
      refine w_goto (tgt := 6) dX0_sumWith_35 (by decide) ?_
      exact ih (by omega) (by omega) _ (by unfold sumW; rw [foI_s _ _ h0]; unfold sumW at hinv; rw [← hinv]; simp [c_20])

set_option maxRecDepth 100000 in
set_option maxHeartbeats 4000000 in
theorem ct_X0_countWith (σ : St) (r1 : Nat) (v : Int) (hb : 0 ≤ σ 0 6 ∧ σ 0 6 ≤ 60) (hs1 : shT[r1]? = some (.inr (.inl 60))) (hv : InR v) : Wp mX0_countWith 0 (fun z τ => z = cntW (σ r1) v (σ 0 6) ∧ τ = σ) 0 [some (.inr 0), some (.inr r1), some (.inl v), none, none] [] σ := by
  refine Wp.rg (fun hR => ?_)
  refine w_iconst dX0_countWith_0 ?_
  refine w_istore_n dX0_countWith_1 (Nat.le_of_ble_eq_true rfl) ?_
  refine w_iconst dX0_countWith_2 ?_
  refine w_istore dX0_countWith_3 (Nat.le_of_ble_eq_true rfl) ?_
  refine up_to (σ 0 6) (fun i => 0 ≤ i → ∀ a, a = cntW (σ r1) v i → Wp mX0_countWith 0 (fun z τ => z = cntW (σ r1) v (σ 0 6) ∧ τ = σ) 5 [some (.inr 0), some (.inr r1), some (.inl v), some (.inl a), some (.inl i)] [] σ) (fun i hi ih h0 a hinv => ?_) (0) (by omega) (by omega) 0 rfl
  refine w_iload dX0_countWith_5 rfl ?_
  refine w_aload_n dX0_countWith_7 rfl ?_
  refine gf_X0_30 rfl dX0_countWith_8 ?_
  refine w_icmp_ge (tgt := 31) dX0_countWith_11 (by decide) (by omega) (by omega) (fun c_11 => ?_) (fun c_11 => ?_)
  · refine w_iload_n dX0_countWith_31 rfl ?_
    refine w_iret dX0_countWith_32 rfl ?_
    exact ⟨by rw [hinv, show i = σ 0 6 by omega], rfl⟩
  · refine w_aload_n dX0_countWith_14 rfl ?_
    refine w_iload dX0_countWith_15 rfl ?_
    refine w_iald hs1 (by omega) dX0_countWith_17 ?_
    refine w_iload_n dX0_countWith_18 rfl ?_
    refine w_icmp_ne (tgt := 25) dX0_countWith_19 (by decide) (hR _ _) hv (fun c_19 => ?_) (fun c_19 => ?_)
    · refine w_iinc dX0_countWith_25 (Nat.le_of_ble_eq_true rfl) rfl ?_
      refine w_goto (tgt := 5) dX0_countWith_28 (by decide) ?_
      exact ih (by omega) (by omega) _ (by unfold cntW; rw [foI_s _ _ h0]; unfold cntW at hinv; rw [← hinv]; simp [c_19])
    · refine w_iinc dX0_countWith_22 (Nat.le_of_ble_eq_true rfl) rfl ?_
      refine w_iinc dX0_countWith_25 (Nat.le_of_ble_eq_true rfl) rfl ?_
      refine w_goto (tgt := 5) dX0_countWith_28 (by decide) ?_
      exact ih (by omega) (by omega) _ (by unfold cntW; rw [foI_s _ _ h0]; unfold cntW at hinv; rw [← hinv]; simp [c_19])

set_option maxRecDepth 100000 in
set_option maxHeartbeats 4000000 in
theorem ct_X0_firstWith (σ : St) (r1 : Nat) (v : Int) (hb : 0 ≤ σ 0 6 ∧ σ 0 6 ≤ 60) (hs1 : shT[r1]? = some (.inr (.inl 60))) (hv : InR v) : Wp mX0_firstWith 0 (fun z τ => IsFst (σ r1) v (σ 0 6) z ∧ τ = σ) 0 [some (.inr 0), some (.inr r1), some (.inl v), none] [] σ := by
  refine Wp.rg (fun hR => ?_)
  refine w_iconst dX0_firstWith_0 ?_
  refine w_istore_n dX0_firstWith_1 (Nat.le_of_ble_eq_true rfl) ?_
  refine up_to (σ 0 6) (fun i => 0 ≤ i → (∀ b, 0 ≤ b → b < i → σ r1 b ≠ v) → Wp mX0_firstWith 0 (fun z τ => IsFst (σ r1) v (σ 0 6) z ∧ τ = σ) 2 [some (.inr 0), some (.inr r1), some (.inl v), some (.inl i)] [] σ) (fun i hi ih h0  hinv => ?_) (0) (by omega) (by omega)  (fun b h1 h2 => by omega)
  refine w_iload_n dX0_firstWith_2 rfl ?_
  refine w_aload_n dX0_firstWith_3 rfl ?_
  refine gf_X0_30 rfl dX0_firstWith_4 ?_
  refine w_icmp_ge (tgt := 25) dX0_firstWith_7 (by decide) (by omega) (by omega) (fun c_7 => ?_) (fun c_7 => ?_)
  · refine w_iconst dX0_firstWith_25 ?_
    refine w_iret dX0_firstWith_26 rfl ?_
    exact ⟨Or.inl ⟨rfl, fun b h1 h2 => hinv b h1 (by omega)⟩, rfl⟩
  · refine w_aload_n dX0_firstWith_10 rfl ?_
    refine w_iload_n dX0_firstWith_11 rfl ?_
    refine w_iald hs1 (by omega) dX0_firstWith_12 ?_
    refine w_iload_n dX0_firstWith_13 rfl ?_
    refine w_icmp_ne (tgt := 19) dX0_firstWith_14 (by decide) (hR _ _) hv (fun c_14 => ?_) (fun c_14 => ?_)
    · refine w_iinc dX0_firstWith_19 (Nat.le_of_ble_eq_true rfl) rfl ?_
      refine w_goto (tgt := 2) dX0_firstWith_22 (by decide) ?_
      exact ih (by omega) (by omega) (fun b h1 h2 => by
        by_cases q : b = i
        · rw [q]; exact c_14
        · exact hinv b h1 (by omega))
    · refine w_iload_n dX0_firstWith_17 rfl ?_
      refine w_iret dX0_firstWith_18 rfl ?_
      exact ⟨Or.inr ⟨h0, by omega, c_14, hinv⟩, rfl⟩

set_option maxRecDepth 100000 in
set_option maxHeartbeats 4000000 in
theorem ct_X0_allWidths (σ : St) (hb : 0 ≤ σ 0 6 ∧ σ 0 6 ≤ 60) : Wp mX0_allWidths 0 (fun z τ => z = sumA (σ 9) (σ 0 6) ∧ τ = σ) 0 [some (.inr 0), none, none] [] σ := by
  refine Wp.rg (fun hR => ?_)
  refine w_iconst dX0_allWidths_0 ?_
  refine w_istore_n dX0_allWidths_1 (Nat.le_of_ble_eq_true rfl) ?_
  refine w_iconst dX0_allWidths_2 ?_
  refine w_istore_n dX0_allWidths_3 (Nat.le_of_ble_eq_true rfl) ?_
  refine up_to (σ 0 6) (fun i => 0 ≤ i → ∀ a, a = sumA (σ 9) i → Wp mX0_allWidths 0 (fun z τ => z = sumA (σ 9) (σ 0 6) ∧ τ = σ) 4 [some (.inr 0), some (.inl a), some (.inl i)] [] σ) (fun i hi ih h0 a hinv => ?_) (0) (by omega) (by omega) 0 rfl
  refine w_iload_n dX0_allWidths_4 rfl ?_
  refine w_aload_n dX0_allWidths_5 rfl ?_
  refine gf_X0_30 rfl dX0_allWidths_6 ?_
  refine w_icmp_ge (tgt := 27) dX0_allWidths_9 (by decide) (by omega) (by omega) (fun c_9 => ?_) (fun c_9 => ?_)
  · refine w_iload_n dX0_allWidths_27 rfl ?_
    refine w_iret dX0_allWidths_28 rfl ?_
    exact ⟨by rw [hinv, show i = σ 0 6 by omega], rfl⟩
  · refine w_iload_n dX0_allWidths_12 rfl ?_
    refine w_aload_n dX0_allWidths_13 rfl ?_
    refine gf_X0_15 rfl dX0_allWidths_14 ?_
    refine w_iload_n dX0_allWidths_17 rfl ?_
    refine w_iald rfl (by omega) dX0_allWidths_18 ?_
    refine w_iadd dX0_allWidths_19 ?_
    refine w_istore_n dX0_allWidths_20 (Nat.le_of_ble_eq_true rfl) ?_
    refine w_iinc dX0_allWidths_21 (Nat.le_of_ble_eq_true rfl) rfl ?_
    refine w_goto (tgt := 4) dX0_allWidths_24 (by decide) ?_
    exact ih (by omega) (by omega) _ (by unfold sumA; rw [foI_s _ _ h0]; unfold sumA at hinv; rw [← hinv])

set_option maxRecDepth 100000 in
set_option maxHeartbeats 4000000 in
theorem ct_X0_numberBehind (σ : St) (g : Int) (hb : 0 ≤ σ 0 6 ∧ σ 0 6 ≤ 60) (hg : InR g) : Wp mX0_numberBehind 0 (fun z τ => IsNb (σ 8) (σ 0 6) g z ∧ τ = σ) 0 [some (.inr 0), some (.inl g), none] [] σ := by
  refine Wp.rg (fun hR => ?_)
  refine w_iconst dX0_numberBehind_0 ?_
  refine w_istore_n dX0_numberBehind_1 (Nat.le_of_ble_eq_true rfl) ?_
  refine up_to (σ 0 6) (fun i => 0 ≤ i → (∀ b, 0 ≤ b → b < i → σ 8 b ≤ g) → Wp mX0_numberBehind 0 (fun z τ => IsNb (σ 8) (σ 0 6) g z ∧ τ = σ) 2 [some (.inr 0), some (.inl g), some (.inl i)] [] σ) (fun i hi ih h0  hinv => ?_) (0) (by omega) (by omega)  (fun b h1 h2 => by omega)
  refine w_iload_n dX0_numberBehind_2 rfl ?_
  refine w_aload_n dX0_numberBehind_3 rfl ?_
  refine gf_X0_30 rfl dX0_numberBehind_4 ?_
  refine w_icmp_ge (tgt := 26) dX0_numberBehind_7 (by decide) (by omega) (by omega) (fun c_7 => ?_) (fun c_7 => ?_)
  · refine w_iload_n dX0_numberBehind_26 rfl ?_
    refine w_iret dX0_numberBehind_27 rfl ?_
    exact ⟨⟨h0, hi, hinv, by omega⟩, rfl⟩
  · refine w_aload_n dX0_numberBehind_10 rfl ?_
    refine gf_X0_9 rfl dX0_numberBehind_11 ?_
    refine w_iload_n dX0_numberBehind_14 rfl ?_
    refine w_iald rfl (by omega) dX0_numberBehind_15 ?_
    refine w_iload_n dX0_numberBehind_16 rfl ?_
    refine w_icmp_gt (tgt := 26) dX0_numberBehind_17 (by decide) (hR _ _) hg (fun c_17 => ?_) (fun c_17 => ?_)
    · refine w_iload_n dX0_numberBehind_26 rfl ?_
      refine w_iret dX0_numberBehind_27 rfl ?_
      exact ⟨⟨h0, hi, hinv, by omega⟩, rfl⟩
    · refine w_iinc dX0_numberBehind_20 (Nat.le_of_ble_eq_true rfl) rfl ?_
      refine w_goto (tgt := 2) dX0_numberBehind_23 (by decide) ?_
      exact ih (by omega) (by omega) (fun b h1 h2 => by
        by_cases q : b = i
        · rw [q]; exact c_17
        · exact hinv b h1 (by omega))

set_option maxRecDepth 100000 in
set_option maxHeartbeats 4000000 in
theorem ct_X0_shelvesOf (σ : St) (g : Int) (hb : 0 ≤ σ 0 6 ∧ σ 0 6 ≤ 60) (hg : InR g) : Wp mX0_shelvesOf 0 (fun z τ => z = (shlF (σ 8) (σ 11) g (σ 0 6)).1 ∧ τ = σ) 0 [some (.inr 0), some (.inl g), none, none, none] [] σ := by
  refine Wp.rg (fun hR => ?_)
  refine w_iconst dX0_shelvesOf_0 ?_
  refine w_istore_n dX0_shelvesOf_1 (Nat.le_of_ble_eq_true rfl) ?_
  refine w_iconst dX0_shelvesOf_2 ?_
  refine w_istore_n dX0_shelvesOf_3 (Nat.le_of_ble_eq_true rfl) ?_
  refine w_iconst dX0_shelvesOf_4 ?_
  refine w_istore dX0_shelvesOf_5 (Nat.le_of_ble_eq_true rfl) ?_
  refine up_to (σ 0 6) (fun i => 0 ≤ i → ∀ a l, ((a, l) = shlF (σ 8) (σ 11) g i ∧ InR l) → Wp mX0_shelvesOf 0 (fun z τ => z = (shlF (σ 8) (σ 11) g (σ 0 6)).1 ∧ τ = σ) 7 [some (.inr 0), some (.inl g), some (.inl a), some (.inl l), some (.inl i)] [] σ) (fun i hi ih h0 a l hinv => ?_) (0) (by omega) (by omega) 0 (-1) ⟨rfl, by omega⟩
  refine w_iload dX0_shelvesOf_7 rfl ?_
  refine w_aload_n dX0_shelvesOf_9 rfl ?_
  refine gf_X0_30 rfl dX0_shelvesOf_10 ?_
  refine w_icmp_ge (tgt := 55) dX0_shelvesOf_13 (by decide) (by omega) (by omega) (fun c_13 => ?_) (fun c_13 => ?_)
  · refine w_iload_n dX0_shelvesOf_55 rfl ?_
    refine w_iret dX0_shelvesOf_56 rfl ?_
    exact ⟨by rw [← show i = σ 0 6 by omega, ← hinv.1], rfl⟩
  · refine w_aload_n dX0_shelvesOf_16 rfl ?_
    refine gf_X0_9 rfl dX0_shelvesOf_17 ?_
    refine w_iload dX0_shelvesOf_20 rfl ?_
    refine w_iald rfl (by omega) dX0_shelvesOf_22 ?_
    refine w_iload_n dX0_shelvesOf_23 rfl ?_
    refine w_icmp_ne (tgt := 49) dX0_shelvesOf_24 (by decide) (hR _ _) hg (fun c_24 => ?_) (fun c_24 => ?_)
    · refine w_iinc dX0_shelvesOf_49 (Nat.le_of_ble_eq_true rfl) rfl ?_
      refine w_goto (tgt := 7) dX0_shelvesOf_52 (by decide) ?_
      exact ih (by omega) (by omega) _ _ ⟨by unfold shlF; rw [foI_s _ _ h0]; have hinv := hinv.1; unfold shlF at hinv; rw [← hinv]; simp [*], by first | exact hinv.2 | exact hR _ _⟩
    · refine w_aload_n dX0_shelvesOf_27 rfl ?_
      refine gf_X0_21 rfl dX0_shelvesOf_28 ?_
      refine w_iload dX0_shelvesOf_31 rfl ?_
      refine w_iald rfl (by omega) dX0_shelvesOf_33 ?_
      refine w_iload_n dX0_shelvesOf_34 rfl ?_
      refine w_icmp_eq (tgt := 49) dX0_shelvesOf_35 (by decide) (hR _ _) hinv.2 (fun c_35 => ?_) (fun c_35 => ?_)
      · refine w_iinc dX0_shelvesOf_49 (Nat.le_of_ble_eq_true rfl) rfl ?_
        refine w_goto (tgt := 7) dX0_shelvesOf_52 (by decide) ?_
        exact ih (by omega) (by omega) _ _ ⟨by unfold shlF; rw [foI_s _ _ h0]; have hinv := hinv.1; unfold shlF at hinv; rw [← hinv]; simp [*], by first | exact hinv.2 | exact hR _ _⟩
      · refine w_aload_n dX0_shelvesOf_38 rfl ?_
        refine gf_X0_21 rfl dX0_shelvesOf_39 ?_
        refine w_iload dX0_shelvesOf_42 rfl ?_
        refine w_iald rfl (by omega) dX0_shelvesOf_44 ?_
        refine w_istore_n dX0_shelvesOf_45 (Nat.le_of_ble_eq_true rfl) ?_
        refine w_iinc dX0_shelvesOf_46 (Nat.le_of_ble_eq_true rfl) rfl ?_
        refine w_iinc dX0_shelvesOf_49 (Nat.le_of_ble_eq_true rfl) rfl ?_
        refine w_goto (tgt := 7) dX0_shelvesOf_52 (by decide) ?_
        exact ih (by omega) (by omega) _ _ ⟨by unfold shlF; rw [foI_s _ _ h0]; have hinv := hinv.1; unfold shlF at hinv; rw [← hinv]; simp [*], by first | exact hinv.2 | exact hR _ _⟩

set_option maxRecDepth 100000 in
set_option maxHeartbeats 4000000 in
theorem ct_X0_widthsAheadOf (σ : St) (b : Int) (hb : 0 ≤ b ∧ b < 60) : Wp mX0_widthsAheadOf 0 (fun z τ => z = sumW (σ 11) (σ 9) (σ 11 b) b ∧ τ = σ) 0 [some (.inr 0), some (.inl b), none, none] [] σ := by
  refine Wp.rg (fun hR => ?_)
  refine w_iconst dX0_widthsAheadOf_0 ?_
  refine w_istore_n dX0_widthsAheadOf_1 (Nat.le_of_ble_eq_true rfl) ?_
  refine w_iconst dX0_widthsAheadOf_2 ?_
  refine w_istore_n dX0_widthsAheadOf_3 (Nat.le_of_ble_eq_true rfl) ?_
  refine up_to (b) (fun i => 0 ≤ i → ∀ a, a = sumW (σ 11) (σ 9) (σ 11 b) i → Wp mX0_widthsAheadOf 0 (fun z τ => z = sumW (σ 11) (σ 9) (σ 11 b) b ∧ τ = σ) 4 [some (.inr 0), some (.inl b), some (.inl a), some (.inl i)] [] σ) (fun i hi ih h0 a hinv => ?_) (0) (by omega) (by omega) 0 rfl
  refine w_iload_n dX0_widthsAheadOf_4 rfl ?_
  refine w_iload_n dX0_widthsAheadOf_5 rfl ?_
  refine w_icmp_ge (tgt := 39) dX0_widthsAheadOf_6 (by decide) (by omega) (by omega) (fun c_6 => ?_) (fun c_6 => ?_)
  · refine w_iload_n dX0_widthsAheadOf_39 rfl ?_
    refine w_iret dX0_widthsAheadOf_40 rfl ?_
    exact ⟨by rw [hinv, show i = b by omega], rfl⟩
  · refine w_aload_n dX0_widthsAheadOf_9 rfl ?_
    refine gf_X0_21 rfl dX0_widthsAheadOf_10 ?_
    refine w_iload_n dX0_widthsAheadOf_13 rfl ?_
    refine w_iald rfl (by omega) dX0_widthsAheadOf_14 ?_
    refine w_aload_n dX0_widthsAheadOf_15 rfl ?_
    refine gf_X0_21 rfl dX0_widthsAheadOf_16 ?_
    refine w_iload_n dX0_widthsAheadOf_19 rfl ?_
    refine w_iald rfl (by omega) dX0_widthsAheadOf_20 ?_
    refine w_icmp_ne (tgt := 33) dX0_widthsAheadOf_21 (by decide) (hR _ _) (hR _ _) (fun c_21 => ?_) (fun c_21 => ?_)
    · refine w_iinc dX0_widthsAheadOf_33 (Nat.le_of_ble_eq_true rfl) rfl ?_
      refine w_goto (tgt := 4) dX0_widthsAheadOf_36 (by decide) ?_
      exact ih (by omega) (by omega) _ (by unfold sumW; rw [foI_s _ _ h0]; unfold sumW at hinv; rw [← hinv]; simp [c_21])
    · refine w_iload_n dX0_widthsAheadOf_24 rfl ?_
      refine w_aload_n dX0_widthsAheadOf_25 rfl ?_
      refine gf_X0_15 rfl dX0_widthsAheadOf_26 ?_
      refine w_iload_n dX0_widthsAheadOf_29 rfl ?_
      refine w_iald rfl (by omega) dX0_widthsAheadOf_30 ?_
      refine w_iadd dX0_widthsAheadOf_31 ?_
      refine w_istore_n dX0_widthsAheadOf_32 (Nat.le_of_ble_eq_true rfl) ?_
      refine w_iinc dX0_widthsAheadOf_33 (Nat.le_of_ble_eq_true rfl) rfl ?_
      refine w_goto (tgt := 4) dX0_widthsAheadOf_36 (by decide) ?_
      exact ih (by omega) (by omega) _ (by unfold sumW; rw [foI_s _ _ h0]; unfold sumW at hinv; rw [← hinv]; simp [c_21])

set_option maxRecDepth 100000 in
set_option maxHeartbeats 4000000 in
theorem ct_X0_loadOn (σ : St) (v : Int) (hb : 0 ≤ σ 0 6 ∧ σ 0 6 ≤ 60) (hv : InR v) : Wp mX0_loadOn 1 (fun z τ => z = sumW (σ 11) (σ 9) v (σ 0 6) ∧ τ = σ) 0 [some (.inr 0), some (.inl v)] [] σ := by
  refine Wp.rg (fun hR => ?_)
  refine w_aload_n dX0_loadOn_0 rfl ?_
  refine w_aload_n dX0_loadOn_1 rfl ?_
  refine gf_X0_21 rfl dX0_loadOn_2 ?_
  refine w_iload_n dX0_loadOn_5 rfl ?_
  refine w_aload_n dX0_loadOn_6 rfl ?_
  refine gf_X0_15 rfl dX0_loadOn_7 ?_
  refine cv_X0_57 rfl dX0_loadOn_10 (Nat.le_of_ble_eq_true rfl) (Nat.le_of_ble_eq_true rfl) (Wp.mono (ct_X0_sumWith σ _ _ v hb rfl rfl hv) (fun z_ τ_ hq_ => ?_))
  obtain ⟨hz_, hs_⟩ := hq_
  subst z_
  subst τ_
  refine w_iret dX0_loadOn_13 rfl ?_
  exact ⟨rfl, rfl⟩

set_option maxRecDepth 100000 in
set_option maxHeartbeats 4000000 in
theorem ct_X0_rateOn (σ : St) (v : Int) (hb : 0 ≤ σ 0 6 ∧ σ 0 6 ≤ 60) (hv : InR v) : Wp mX0_rateOn 1 (fun z τ => z = sumW (σ 11) (σ 10) v (σ 0 6) ∧ τ = σ) 0 [some (.inr 0), some (.inl v)] [] σ := by
  refine Wp.rg (fun hR => ?_)
  refine w_aload_n dX0_rateOn_0 rfl ?_
  refine w_aload_n dX0_rateOn_1 rfl ?_
  refine gf_X0_21 rfl dX0_rateOn_2 ?_
  refine w_iload_n dX0_rateOn_5 rfl ?_
  refine w_aload_n dX0_rateOn_6 rfl ?_
  refine gf_X0_18 rfl dX0_rateOn_7 ?_
  refine cv_X0_57 rfl dX0_rateOn_10 (Nat.le_of_ble_eq_true rfl) (Nat.le_of_ble_eq_true rfl) (Wp.mono (ct_X0_sumWith σ _ _ v hb rfl rfl hv) (fun z_ τ_ hq_ => ?_))
  obtain ⟨hz_, hs_⟩ := hq_
  subst z_
  subst τ_
  refine w_iret dX0_rateOn_13 rfl ?_
  exact ⟨rfl, rfl⟩

set_option maxRecDepth 100000 in
set_option maxHeartbeats 4000000 in
theorem ct_X0_widthsIn (σ : St) (v : Int) (hb : 0 ≤ σ 0 6 ∧ σ 0 6 ≤ 60) (hv : InR v) : Wp mX0_widthsIn 1 (fun z τ => z = sumW (σ 8) (σ 9) v (σ 0 6) ∧ τ = σ) 0 [some (.inr 0), some (.inl v)] [] σ := by
  refine Wp.rg (fun hR => ?_)
  refine w_aload_n dX0_widthsIn_0 rfl ?_
  refine w_aload_n dX0_widthsIn_1 rfl ?_
  refine gf_X0_9 rfl dX0_widthsIn_2 ?_
  refine w_iload_n dX0_widthsIn_5 rfl ?_
  refine w_aload_n dX0_widthsIn_6 rfl ?_
  refine gf_X0_15 rfl dX0_widthsIn_7 ?_
  refine cv_X0_57 rfl dX0_widthsIn_10 (Nat.le_of_ble_eq_true rfl) (Nat.le_of_ble_eq_true rfl) (Wp.mono (ct_X0_sumWith σ _ _ v hb rfl rfl hv) (fun z_ τ_ hq_ => ?_))
  obtain ⟨hz_, hs_⟩ := hq_
  subst z_
  subst τ_
  refine w_iret dX0_widthsIn_13 rfl ?_
  exact ⟨rfl, rfl⟩

set_option maxRecDepth 100000 in
set_option maxHeartbeats 4000000 in
theorem ct_X0_firstOn (σ : St) (v : Int) (hb : 0 ≤ σ 0 6 ∧ σ 0 6 ≤ 60) (hv : InR v) : Wp mX0_firstOn 1 (fun z τ => IsFst (σ 11) v (σ 0 6) z ∧ τ = σ) 0 [some (.inr 0), some (.inl v)] [] σ := by
  refine Wp.rg (fun hR => ?_)
  refine w_aload_n dX0_firstOn_0 rfl ?_
  refine w_aload_n dX0_firstOn_1 rfl ?_
  refine gf_X0_21 rfl dX0_firstOn_2 ?_
  refine w_iload_n dX0_firstOn_5 rfl ?_
  refine cv_X0_61 rfl dX0_firstOn_6 (Nat.le_of_ble_eq_true rfl) (Nat.le_of_ble_eq_true rfl) (Wp.mono (ct_X0_firstWith σ _ v hb rfl hv) (fun z_ τ_ hq_ => ?_))
  obtain ⟨hq1, hs_⟩ := hq_
  subst τ_
  refine w_iret dX0_firstOn_9 rfl ?_
  exact ⟨hq1, rfl⟩

set_option maxRecDepth 100000 in
set_option maxHeartbeats 4000000 in
theorem ct_X0_firstIn (σ : St) (v : Int) (hb : 0 ≤ σ 0 6 ∧ σ 0 6 ≤ 60) (hv : InR v) : Wp mX0_firstIn 1 (fun z τ => IsFst (σ 8) v (σ 0 6) z ∧ τ = σ) 0 [some (.inr 0), some (.inl v)] [] σ := by
  refine Wp.rg (fun hR => ?_)
  refine w_aload_n dX0_firstIn_0 rfl ?_
  refine w_aload_n dX0_firstIn_1 rfl ?_
  refine gf_X0_9 rfl dX0_firstIn_2 ?_
  refine w_iload_n dX0_firstIn_5 rfl ?_
  refine cv_X0_61 rfl dX0_firstIn_6 (Nat.le_of_ble_eq_true rfl) (Nat.le_of_ble_eq_true rfl) (Wp.mono (ct_X0_firstWith σ _ v hb rfl hv) (fun z_ τ_ hq_ => ?_))
  obtain ⟨hq1, hs_⟩ := hq_
  subst τ_
  refine w_iret dX0_firstIn_9 rfl ?_
  exact ⟨hq1, rfl⟩

set_option maxRecDepth 100000 in
set_option maxHeartbeats 4000000 in
theorem ct_X0_countOn (σ : St) (v : Int) (hb : 0 ≤ σ 0 6 ∧ σ 0 6 ≤ 60) (hv : InR v) : Wp mX0_countOn 1 (fun z τ => z = cntW (σ 11) v (σ 0 6) ∧ τ = σ) 0 [some (.inr 0), some (.inl v)] [] σ := by
  refine Wp.rg (fun hR => ?_)
  refine w_aload_n dX0_countOn_0 rfl ?_
  refine w_aload_n dX0_countOn_1 rfl ?_
  refine gf_X0_21 rfl dX0_countOn_2 ?_
  refine w_iload_n dX0_countOn_5 rfl ?_
  refine cv_X0_65 rfl dX0_countOn_6 (Nat.le_of_ble_eq_true rfl) (Nat.le_of_ble_eq_true rfl) (Wp.mono (ct_X0_countWith σ _ v hb rfl hv) (fun z_ τ_ hq_ => ?_))
  obtain ⟨hz_, hs_⟩ := hq_
  subst z_
  subst τ_
  refine w_iret dX0_countOn_9 rfl ?_
  exact ⟨rfl, rfl⟩

set_option maxRecDepth 100000 in
set_option maxHeartbeats 4000000 in
theorem ct_X0_countIn (σ : St) (v : Int) (hb : 0 ≤ σ 0 6 ∧ σ 0 6 ≤ 60) (hv : InR v) : Wp mX0_countIn 1 (fun z τ => z = cntW (σ 8) v (σ 0 6) ∧ τ = σ) 0 [some (.inr 0), some (.inl v)] [] σ := by
  refine Wp.rg (fun hR => ?_)
  refine w_aload_n dX0_countIn_0 rfl ?_
  refine w_aload_n dX0_countIn_1 rfl ?_
  refine gf_X0_9 rfl dX0_countIn_2 ?_
  refine w_iload_n dX0_countIn_5 rfl ?_
  refine cv_X0_65 rfl dX0_countIn_6 (Nat.le_of_ble_eq_true rfl) (Nat.le_of_ble_eq_true rfl) (Wp.mono (ct_X0_countWith σ _ v hb rfl hv) (fun z_ τ_ hq_ => ?_))
  obtain ⟨hz_, hs_⟩ := hq_
  subst z_
  subst τ_
  refine w_iret dX0_countIn_9 rfl ?_
  exact ⟨rfl, rfl⟩

set_option maxRecDepth 100000 in
set_option maxHeartbeats 4000000 in
theorem ct_X0_carry (σ : St) (b s : Int) (hb : 0 ≤ b ∧ b < 60) (hs : InR s) : Wp mX0_carry 0 (fun z τ => τ = put (put (put σ 11 b s) 12 b (wr (σ 12 b + 1))) 0 7 (wr (σ 0 7 + 1))) 0 [some (.inr 0), some (.inl b), some (.inl s)] [] σ := by
  refine Wp.rg (fun hR => ?_)
  refine w_aload_n dX0_carry_0 rfl ?_
  refine gf_X0_21 rfl dX0_carry_1 ?_
  refine w_iload_n dX0_carry_4 rfl ?_
  refine w_iload_n dX0_carry_5 rfl ?_
  refine w_iast rfl (by omega) hs dX0_carry_6 ?_
  refine w_aload_n dX0_carry_7 rfl ?_
  refine gf_X0_24 rfl dX0_carry_8 ?_
  refine w_iload_n dX0_carry_11 rfl ?_
  refine w_dup2 dX0_carry_12 ?_
  refine w_iald rfl (by omega) dX0_carry_13 ?_
  refine w_iconst dX0_carry_14 ?_
  refine w_iadd dX0_carry_15 ?_
  refine Wp.wrap ?_
  refine w_iast rfl (by omega) (wr_in _) dX0_carry_16 ?_
  refine w_aload_n dX0_carry_17 rfl ?_
  refine w_dup dX0_carry_18 ?_
  refine gf_X0_47 rfl dX0_carry_19 ?_
  refine w_iconst dX0_carry_22 ?_
  refine w_iadd dX0_carry_23 ?_
  refine Wp.wrap ?_
  refine pf_X0_47 rfl (wr_in _) dX0_carry_24 ?_
  refine w_ret dX0_carry_27 rfl ?_
  simp only [put_eq]; rfl

set_option maxRecDepth 100000 in
set_option maxHeartbeats 4000000 in
theorem ct_X2_add (σ : St) (g : Int) (hb : 0 ≤ σ 2 1 ∧ σ 2 1 < 8) (hg : InR g) : Wp mX2_add 0 (fun z τ => z = σ 2 1 ∧ τ = put (put σ 48 (σ 2 1) g) 2 1 (σ 2 1 + 1)) 0 [some (.inr 2), some (.inl g), none] [] σ := by
  refine Wp.rg (fun hR => ?_)
  refine w_aload_n dX2_add_0 rfl ?_
  refine gf_X2_15 rfl dX2_add_1 ?_
  refine w_istore_n dX2_add_4 (Nat.le_of_ble_eq_true rfl) ?_
  refine w_aload_n dX2_add_5 rfl ?_
  refine gf_X2_9 rfl dX2_add_6 ?_
  refine w_iload_n dX2_add_9 rfl ?_
  refine w_iload_n dX2_add_10 rfl ?_
  refine w_iast rfl (by omega) hg dX2_add_11 ?_
  refine w_aload_n dX2_add_12 rfl ?_
  refine w_dup dX2_add_13 ?_
  refine gf_X2_15 rfl dX2_add_14 ?_
  refine w_iconst dX2_add_17 ?_
  refine w_iadd dX2_add_18 ?_
  refine pf_X2_15 rfl (by simp only [put_eq]; simp; omega) dX2_add_19 ?_
  refine w_iload_n dX2_add_22 rfl ?_
  refine w_iret dX2_add_23 rfl ?_
  exact ⟨rfl, by simp [put_eq]⟩

set_option maxRecDepth 100000 in
set_option maxHeartbeats 4000000 in
theorem ct_X5_add (σ : St) (l k : Int) (hb : 0 ≤ σ 5 2 ∧ σ 5 2 < 12) (hl : InR l) (hk : InR k) : Wp mX5_add 0 (fun z τ => z = σ 5 2 ∧ τ = put (put (put σ 55 (σ 5 2) l) 56 (σ 5 2) k) 5 2 (σ 5 2 + 1)) 0 [some (.inr 5), some (.inl l), some (.inl k), none] [] σ := by
  refine Wp.rg (fun hR => ?_)
  refine w_aload_n dX5_add_0 rfl ?_
  refine gf_X5_18 rfl dX5_add_1 ?_
  refine w_istore_n dX5_add_4 (Nat.le_of_ble_eq_true rfl) ?_
  refine w_aload_n dX5_add_5 rfl ?_
  refine gf_X5_9 rfl dX5_add_6 ?_
  refine w_iload_n dX5_add_9 rfl ?_
  refine w_iload_n dX5_add_10 rfl ?_
  refine w_iast rfl (by omega) hl dX5_add_11 ?_
  refine w_aload_n dX5_add_12 rfl ?_
  refine gf_X5_15 rfl dX5_add_13 ?_
  refine w_iload_n dX5_add_16 rfl ?_
  refine w_iload_n dX5_add_17 rfl ?_
  refine w_iast rfl (by omega) hk dX5_add_18 ?_
  refine w_aload_n dX5_add_19 rfl ?_
  refine w_dup dX5_add_20 ?_
  refine gf_X5_18 rfl dX5_add_21 ?_
  refine w_iconst dX5_add_24 ?_
  refine w_iadd dX5_add_25 ?_
  refine pf_X5_18 rfl (by simp only [put_eq]; simp; omega) dX5_add_26 ?_
  refine w_iload_n dX5_add_29 rfl ?_
  refine w_iret dX5_add_30 rfl ?_
  exact ⟨rfl, by simp [put_eq]⟩

set_option maxRecDepth 100000 in
set_option maxHeartbeats 4000000 in
theorem ct_X5_openLengths (σ : St) (hb : 0 ≤ σ 5 2 ∧ σ 5 2 ≤ 12) : Wp mX5_openLengths 0 (fun z τ => z = sumW (σ 56) (σ 55) 0 (σ 5 2) ∧ τ = σ) 0 [some (.inr 5), none, none] [] σ := by
  refine Wp.rg (fun hR => ?_)
  refine w_iconst dX5_openLengths_0 ?_
  refine w_istore_n dX5_openLengths_1 (Nat.le_of_ble_eq_true rfl) ?_
  refine w_iconst dX5_openLengths_2 ?_
  refine w_istore_n dX5_openLengths_3 (Nat.le_of_ble_eq_true rfl) ?_
  refine up_to (σ 5 2) (fun i => 0 ≤ i → ∀ a, a = sumW (σ 56) (σ 55) 0 i → Wp mX5_openLengths 0 (fun z τ => z = sumW (σ 56) (σ 55) 0 (σ 5 2) ∧ τ = σ) 4 [some (.inr 5), some (.inl a), some (.inl i)] [] σ) (fun i hi ih h0 a hinv => ?_) (0) (by omega) (by omega) 0 rfl
  refine w_iload_n dX5_openLengths_4 rfl ?_
  refine w_aload_n dX5_openLengths_5 rfl ?_
  refine gf_X5_18 rfl dX5_openLengths_6 ?_
  refine w_icmp_ge (tgt := 36) dX5_openLengths_9 (by decide) (by omega) (by omega) (fun c_9 => ?_) (fun c_9 => ?_)
  · refine w_iload_n dX5_openLengths_36 rfl ?_
    refine w_iret dX5_openLengths_37 rfl ?_
    exact ⟨by rw [hinv, show i = σ 5 2 by omega], rfl⟩
  · refine w_aload_n dX5_openLengths_12 rfl ?_
    refine gf_X5_15 rfl dX5_openLengths_13 ?_
    refine w_iload_n dX5_openLengths_16 rfl ?_
    refine w_iald rfl (by omega) dX5_openLengths_17 ?_
    refine w_if_ne (tgt := 30) dX5_openLengths_18 (by decide) (hR _ _) (fun c_18 => ?_) (fun c_18 => ?_)
    · refine w_iinc dX5_openLengths_30 (Nat.le_of_ble_eq_true rfl) rfl ?_
      refine w_goto (tgt := 4) dX5_openLengths_33 (by decide) ?_
      exact ih (by omega) (by omega) _ (by unfold sumW; rw [foI_s _ _ h0]; unfold sumW at hinv; rw [← hinv]; simp [c_18])
    · refine w_iload_n dX5_openLengths_21 rfl ?_
      refine w_aload_n dX5_openLengths_22 rfl ?_
      refine gf_X5_9 rfl dX5_openLengths_23 ?_
      refine w_iload_n dX5_openLengths_26 rfl ?_
      refine w_iald rfl (by omega) dX5_openLengths_27 ?_
      refine w_iadd dX5_openLengths_28 ?_
      refine w_istore_n dX5_openLengths_29 (Nat.le_of_ble_eq_true rfl) ?_
      refine w_iinc dX5_openLengths_30 (Nat.le_of_ble_eq_true rfl) rfl ?_
      refine w_goto (tgt := 4) dX5_openLengths_33 (by decide) ?_
      exact ih (by omega) (by omega) _ (by unfold sumW; rw [foI_s _ _ h0]; unfold sumW at hinv; rw [← hinv]; simp [c_18])
end
section
set_option maxRecDepth 100000 in
set_option maxHeartbeats 4000000 in
theorem ct_X4_exists (σ : St) : Wp mX4_exists 0 (fun z τ => z = (if σ 4 6 < σ 4 5 then 1 else 0) ∧ τ = σ) 0 [some (.inr 4)] [] σ := by
  refine Wp.rg (fun hR => ?_)
  refine w_aload_n dX4_exists_0 rfl ?_
  refine gf_X4_27 rfl dX4_exists_1 ?_
  refine w_aload_n dX4_exists_4 rfl ?_
  refine gf_X4_31 rfl dX4_exists_5 ?_
  refine w_icmp_ge (tgt := 15) dX4_exists_8 (by decide) (hR _ _) (hR _ _) (fun c_8 => ?_) (fun c_8 => ?_)
  · refine w_iconst dX4_exists_15 ?_
    refine w_zret dX4_exists_16 rfl (by omega) ?_
    exact ⟨by simp; omega, rfl⟩
  · refine w_iconst dX4_exists_11 ?_
    refine w_goto (tgt := 16) dX4_exists_12 (by decide) ?_
    refine w_zret dX4_exists_16 rfl (by omega) ?_
    exact ⟨by simp; omega, rfl⟩

set_option maxRecDepth 100000 in
set_option maxHeartbeats 4000000 in
theorem ct_X4_end (σ : St) : Wp mX4_end 0 (fun z τ => τ = put (put σ 4 5 0) 4 6 0) 0 [some (.inr 4)] [] σ := by
  refine Wp.rg (fun hR => ?_)
  refine w_aload_n dX4_end_0 rfl ?_
  refine w_iconst dX4_end_1 ?_
  refine pf_X4_31 rfl (by omega) dX4_end_2 ?_
  refine w_aload_n dX4_end_5 rfl ?_
  refine w_iconst dX4_end_6 ?_
  refine pf_X4_27 rfl (by omega) dX4_end_7 ?_
  refine w_ret dX4_end_10 rfl ?_
  rfl

set_option maxRecDepth 100000 in
set_option maxHeartbeats 4000000 in
theorem ct_X4_direction (σ : St) (k : Int) (hk : 0 ≤ k ∧ k < 60) : Wp mX4_direction 0 (fun z τ => z = (if σ 53 k < σ 54 k then 1 else 2) ∧ τ = σ) 0 [some (.inr 4), some (.inl k)] [] σ := by
  refine Wp.rg (fun hR => ?_)
  refine w_aload_n dX4_direction_0 rfl ?_
  refine gf_X4_24 rfl dX4_direction_1 ?_
  refine w_iload_n dX4_direction_4 rfl ?_
  refine w_iald rfl (by omega) dX4_direction_5 ?_
  refine w_aload_n dX4_direction_6 rfl ?_
  refine gf_X4_21 rfl dX4_direction_7 ?_
  refine w_iload_n dX4_direction_10 rfl ?_
  refine w_iald rfl (by omega) dX4_direction_11 ?_
  refine w_icmp_le (tgt := 19) dX4_direction_12 (by decide) (hR _ _) (hR _ _) (fun c_12 => ?_) (fun c_12 => ?_)
  · refine w_iconst dX4_direction_19 ?_
    refine w_iret dX4_direction_20 rfl ?_
    exact ⟨by simp; omega, rfl⟩
  · refine w_iconst dX4_direction_15 ?_
    refine w_goto (tgt := 20) dX4_direction_16 (by decide) ?_
    refine w_iret dX4_direction_20 rfl ?_
    exact ⟨by simp; omega, rfl⟩

set_option maxRecDepth 100000 in
set_option maxHeartbeats 4000000 in
theorem ct_X4_add (σ : St) (b : Int) (hb : 0 ≤ b ∧ b < 60) (ht : 0 ≤ σ 4 5 ∧ σ 4 5 < 60) : Wp mX4_add 0 (fun z τ => τ = put (put (put (put (put σ 51 (σ 4 5) b) 52 (σ 4 5) (σ 9 b)) 53 (σ 4 5) (σ 11 b)) 54 (σ 4 5) (σ 50 b)) 4 5 (σ 4 5 + 1)) 0 [some (.inr 4), some (.inr 0), some (.inl b)] [] σ := by
  refine Wp.rg (fun hR => ?_)
  refine w_aload_n dX4_add_0 rfl ?_
  refine gf_X4_31 rfl dX4_add_1 ?_
  refine w_bipush dX4_add_4 (by decide) ?_
  refine w_icmp_lt (tgt := 10) dX4_add_6 (by decide) (by omega) (by omega) (fun c_6 => ?_) (fun c_6 => ?_)
  · refine w_aload_n dX4_add_10 rfl ?_
    refine gf_X4_15 rfl dX4_add_11 ?_
    refine w_aload_n dX4_add_14 rfl ?_
    refine gf_X4_31 rfl dX4_add_15 ?_
    refine w_iload_n dX4_add_18 rfl ?_
    refine w_iast rfl (by omega) (by omega) dX4_add_19 ?_
    refine w_aload_n dX4_add_20 rfl ?_
    refine gf_X4_18 rfl dX4_add_21 ?_
    refine w_aload_n dX4_add_24 rfl ?_
    refine gf_X4_31 rfl dX4_add_25 ?_
    refine w_aload_n dX4_add_28 rfl ?_
    refine gf_X4_58 rfl dX4_add_29 ?_
    refine w_iload_n dX4_add_32 rfl ?_
    refine w_iald rfl (by omega) dX4_add_33 ?_
    refine w_iast rfl (by simp [put_eq]; omega) (by simp only [put_eq]; simp; exact hR _ _) dX4_add_34 ?_
    refine w_aload_n dX4_add_35 rfl ?_
    refine gf_X4_21 rfl dX4_add_36 ?_
    refine w_aload_n dX4_add_39 rfl ?_
    refine gf_X4_31 rfl dX4_add_40 ?_
    refine w_aload_n dX4_add_43 rfl ?_
    refine gf_X4_51 rfl dX4_add_44 ?_
    refine w_iload_n dX4_add_47 rfl ?_
    refine w_iald rfl (by omega) dX4_add_48 ?_
    refine w_iast rfl (by simp [put_eq]; omega) (by simp only [put_eq]; simp; exact hR _ _) dX4_add_49 ?_
    refine w_aload_n dX4_add_50 rfl ?_
    refine gf_X4_24 rfl dX4_add_51 ?_
    refine w_aload_n dX4_add_54 rfl ?_
    refine gf_X4_31 rfl dX4_add_55 ?_
    refine w_aload_n dX4_add_58 rfl ?_
    refine gf_X4_9 rfl dX4_add_59 ?_
    refine w_iload_n dX4_add_62 rfl ?_
    refine w_iald rfl (by omega) dX4_add_63 ?_
    refine w_iast rfl (by simp [put_eq]; omega) (by simp only [put_eq]; simp; exact hR _ _) dX4_add_64 ?_
    refine w_aload_n dX4_add_65 rfl ?_
    refine w_dup dX4_add_66 ?_
    refine gf_X4_31 rfl dX4_add_67 ?_
    refine w_iconst dX4_add_70 ?_
    refine w_iadd dX4_add_71 ?_
    refine pf_X4_31 rfl (by simp only [put_eq]; simp; omega) dX4_add_72 ?_
    refine w_ret dX4_add_75 rfl ?_
    simp [put_eq]
  · exact absurd c_6 (by omega)

set_option maxRecDepth 100000 in
set_option maxHeartbeats 4000000 in
theorem ct_X4_stepOn (σ : St) (ht : 0 ≤ σ 4 6 ∧ σ 4 6 < 60) : Wp mX4_stepOn 1 (fun z τ => τ = if σ 4 6 + 1 < σ 4 5 then put σ 4 6 (σ 4 6 + 1) else put (put (put σ 4 6 (σ 4 6 + 1)) 4 5 0) 4 6 0) 0 [some (.inr 4)] [] σ := by
  refine Wp.rg (fun hR => ?_)
  refine w_aload_n dX4_stepOn_0 rfl ?_
  refine w_dup dX4_stepOn_1 ?_
  refine gf_X4_27 rfl dX4_stepOn_2 ?_
  refine w_iconst dX4_stepOn_5 ?_
  refine w_iadd dX4_stepOn_6 ?_
  refine pf_X4_27 rfl (by omega) dX4_stepOn_7 ?_
  refine w_aload_n dX4_stepOn_10 rfl ?_
  refine gf_X4_27 rfl dX4_stepOn_11 ?_
  refine w_aload_n dX4_stepOn_14 rfl ?_
  refine gf_X4_31 rfl dX4_stepOn_15 ?_
  refine w_icmp_lt (tgt := 25) dX4_stepOn_18 (by decide) (by simp only [put_eq]; simp; omega) (by simp only [put_eq]; simp; exact hR _ _) (fun c_18 => ?_) (fun c_18 => ?_)
  · refine w_ret dX4_stepOn_25 rfl ?_
    simp [put_eq] at c_18
    first | rw [if_pos (by omega)] | rw [if_neg (by omega)]
  · refine w_aload_n dX4_stepOn_21 rfl ?_
    refine cv_X4_34 rfl dX4_stepOn_22 (Nat.le_of_ble_eq_true rfl) (Nat.le_of_ble_eq_true rfl) (Wp.mono (ct_X4_end _) (fun z_ τ_ hq_ => ?_))
    subst τ_
    refine w_ret dX4_stepOn_25 rfl ?_
    simp [put_eq] at c_18
    first | rw [if_pos (by omega)] | rw [if_neg (by omega)]

def sumF (w : Int → Int) (f z : Int) : Int := foI (fun k a => a + w (f + k)) 0 z
theorem sumF_s (w : Int → Int) (f : Int) {z : Int} (h : 0 ≤ z) : sumF w f (z + 1) = sumF w f z + w (f + z) := foI_s _ _ h
theorem sumF_0 (w : Int → Int) (f : Int) : sumF w f 0 = 0 := rfl
/-- how many fit, one behind the other -/
def IsDay (w : Int → Int) (f e lim z : Int) : Prop := 0 ≤ z ∧ f + z ≤ e ∧ sumF w f z ≤ lim ∧ (f + z = e ∨ lim < sumF w f (z + 1))
def dyF (w : Int → Int) (f lim z : Int) : Int × Int := foI (fun k (p : Int × Int) => if k = 0 ∨ lim < p.2 + w (f + k) then (p.1 + 1, w (f + k)) else (p.1, p.2 + w (f + k))) (0, 0) z
def trF (fr to : Int → Int) (f z : Int) : Int := foI (fun k a => if k = 0 ∨ fr (f + k) ≠ fr (f + k - 1) ∨ to (f + k) ≠ to (f + k - 1) then a + 1 else a) 0 z
def rgF (fr to : Int → Int) (f z : Int) : Int := foI (fun k a => if fr (f + k) < to (f + k) then a + 1 else a) 0 z
set_option maxRecDepth 100000 in
set_option maxHeartbeats 4000000 in
theorem ct_X4_movesOfNextDay (σ : St) (lim : Int) (hp : 0 ≤ σ 4 6 ∧ σ 4 6 ≤ σ 4 5 ∧ σ 4 5 ≤ 60) (hw : ∀ k, 0 ≤ k → k < σ 4 5 → 0 ≤ σ 52 k ∧ σ 52 k ≤ 40) (hl : 0 ≤ lim ∧ lim ≤ 400) : Wp mX4_movesOfNextDay 0 (fun z τ => IsDay (σ 52) (σ 4 6) (σ 4 5) lim z ∧ τ = σ) 0 [some (.inr 4), some (.inl lim), none, none] [] σ := by
  refine Wp.rg (fun hR => ?_)
  refine w_iconst dX4_movesOfNextDay_0 ?_
  refine w_istore_n dX4_movesOfNextDay_1 (Nat.le_of_ble_eq_true rfl) ?_
  refine w_aload_n dX4_movesOfNextDay_2 rfl ?_
  refine gf_X4_27 rfl dX4_movesOfNextDay_3 ?_
  refine w_istore_n dX4_movesOfNextDay_6 (Nat.le_of_ble_eq_true rfl) ?_
  refine up_to (σ 4 5) (fun i => σ 4 6 ≤ i → ∀ a, (a = sumF (σ 52) (σ 4 6) (i - σ 4 6) ∧ 0 ≤ a ∧ a ≤ lim) → Wp mX4_movesOfNextDay 0 (fun z τ => IsDay (σ 52) (σ 4 6) (σ 4 5) lim z ∧ τ = σ) 7 [some (.inr 4), some (.inl lim), some (.inl a), some (.inl i)] [] σ) (fun i hi ih h0 a hinv => ?_) (σ 4 6) (by omega) (by omega) 0 ⟨by rw [Int.sub_self]; rfl, by omega, by omega⟩
  refine w_iload_n dX4_movesOfNextDay_7 rfl ?_
  refine w_aload_n dX4_movesOfNextDay_8 rfl ?_
  refine gf_X4_31 rfl dX4_movesOfNextDay_9 ?_
  refine w_icmp_ge (tgt := 42) dX4_movesOfNextDay_12 (by decide) (by omega) (by omega) (fun c_12 => ?_) (fun c_12 => ?_)
  · refine w_iload_n dX4_movesOfNextDay_42 rfl ?_
    refine w_aload_n dX4_movesOfNextDay_43 rfl ?_
    refine gf_X4_27 rfl dX4_movesOfNextDay_44 ?_
    refine w_isub dX4_movesOfNextDay_47 ?_
    refine w_iret dX4_movesOfNextDay_48 rfl ?_
    refine ⟨⟨by omega, by omega, by rw [← hinv.1]; exact hinv.2.2, ?_⟩, rfl⟩
    rw [sumF_s _ _ (by omega), ← hinv.1, show σ 4 6 + (i - σ 4 6) = i by omega]
    omega
  · refine w_iload_n dX4_movesOfNextDay_15 rfl ?_
    refine w_aload_n dX4_movesOfNextDay_16 rfl ?_
    refine gf_X4_18 rfl dX4_movesOfNextDay_17 ?_
    have hwi := hw i (by omega) (by omega)
    refine w_iload_n dX4_movesOfNextDay_20 rfl ?_
    refine w_iald rfl (by omega) dX4_movesOfNextDay_21 ?_
    refine w_iadd dX4_movesOfNextDay_22 ?_
    refine w_iload_n dX4_movesOfNextDay_23 rfl ?_
    refine w_icmp_gt (tgt := 42) dX4_movesOfNextDay_24 (by decide) (by omega) (by omega) (fun c_24 => ?_) (fun c_24 => ?_)
    · refine w_iload_n dX4_movesOfNextDay_42 rfl ?_
      refine w_aload_n dX4_movesOfNextDay_43 rfl ?_
      refine gf_X4_27 rfl dX4_movesOfNextDay_44 ?_
      refine w_isub dX4_movesOfNextDay_47 ?_
      refine w_iret dX4_movesOfNextDay_48 rfl ?_
      refine ⟨⟨by omega, by omega, by rw [← hinv.1]; exact hinv.2.2, ?_⟩, rfl⟩
      rw [sumF_s _ _ (by omega), ← hinv.1, show σ 4 6 + (i - σ 4 6) = i by omega]
      omega
    · refine w_iload_n dX4_movesOfNextDay_27 rfl ?_
      refine w_aload_n dX4_movesOfNextDay_28 rfl ?_
      refine gf_X4_18 rfl dX4_movesOfNextDay_29 ?_
      refine w_iload_n dX4_movesOfNextDay_32 rfl ?_
      refine w_iald rfl (by omega) dX4_movesOfNextDay_33 ?_
      refine w_iadd dX4_movesOfNextDay_34 ?_
      refine w_istore_n dX4_movesOfNextDay_35 (Nat.le_of_ble_eq_true rfl) ?_
      refine w_iinc dX4_movesOfNextDay_36 (Nat.le_of_ble_eq_true rfl) rfl ?_
      refine w_goto (tgt := 7) dX4_movesOfNextDay_39 (by decide) ?_
      exact ih (by omega) (by omega) _ ⟨by rw [show i + 1 - σ 4 6 = (i - σ 4 6) + 1 by omega, sumF_s _ _ (by omega), ← hinv.1, show σ 4 6 + (i - σ 4 6) = i by omega], by omega, by omega⟩

set_option maxRecDepth 100000 in
set_option maxHeartbeats 4000000 in
theorem ct_X4_days (σ : St) (f e lim : Int) (hf : 0 ≤ f ∧ f ≤ e ∧ e ≤ 60) (hw : ∀ k, f ≤ k → k < e → 0 ≤ σ 52 k ∧ σ 52 k ≤ 40) (hl : InR lim) : Wp mX4_days 0 (fun z τ => z = (dyF (σ 52) f lim (e - f)).1 ∧ τ = σ) 0 [some (.inr 4), some (.inl f), some (.inl e), some (.inl lim), none, none, none] [] σ := by
  refine Wp.rg (fun hR => ?_)
  refine w_iconst dX4_days_0 ?_
  refine w_istore dX4_days_1 (Nat.le_of_ble_eq_true rfl) ?_
  refine w_iconst dX4_days_3 ?_
  refine w_istore dX4_days_4 (Nat.le_of_ble_eq_true rfl) ?_
  refine w_iload_n dX4_days_6 rfl ?_
  refine w_istore dX4_days_7 (Nat.le_of_ble_eq_true rfl) ?_
  refine up_to (e) (fun i => f ≤ i → ∀ a b, ((a, b) = dyF (σ 52) f lim (i - f) ∧ 0 ≤ b ∧ b ≤ 40 * (i - f)) → Wp mX4_days 0 (fun z τ => z = (dyF (σ 52) f lim (e - f)).1 ∧ τ = σ) 9 [some (.inr 4), some (.inl f), some (.inl e), some (.inl lim), some (.inl a), some (.inl b), some (.inl i)] [] σ) (fun i hi ih h0 a b hinv => ?_) (f) (by omega) (by omega) 0 0 ⟨by rw [Int.sub_self]; rfl, by omega, by omega⟩
  refine w_iload dX4_days_9 rfl ?_
  refine w_iload_n dX4_days_11 rfl ?_
  refine w_icmp_ge (tgt := 59) dX4_days_12 (by decide) (by omega) (by omega) (fun c_12 => ?_) (fun c_12 => ?_)
  · refine w_iload dX4_days_59 rfl ?_
    refine w_iret dX4_days_61 rfl ?_
    exact ⟨by rw [← show i = e by omega, ← hinv.1], rfl⟩
  · have hwi := hw i (by omega) (by omega)
    refine w_iload dX4_days_15 rfl ?_
    refine w_iload_n dX4_days_17 rfl ?_
    refine w_icmp_eq (tgt := 35) dX4_days_18 (by decide) (by omega) (by omega) (fun c_18 => ?_) (fun c_18 => ?_)
    · refine w_iinc dX4_days_35 (Nat.le_of_ble_eq_true rfl) rfl ?_
      refine w_iconst dX4_days_38 ?_
      refine w_istore dX4_days_39 (Nat.le_of_ble_eq_true rfl) ?_
      refine w_iload dX4_days_41 rfl ?_
      refine w_aload_n dX4_days_43 rfl ?_
      refine gf_X4_18 rfl dX4_days_44 ?_
      refine w_iload dX4_days_47 rfl ?_
      refine w_iald rfl (by omega) dX4_days_49 ?_
      refine w_iadd dX4_days_50 ?_
      refine w_istore dX4_days_51 (Nat.le_of_ble_eq_true rfl) ?_
      refine w_iinc dX4_days_53 (Nat.le_of_ble_eq_true rfl) rfl ?_
      refine w_goto (tgt := 9) dX4_days_56 (by decide) ?_
      refine ih (by omega) (by omega) _ _ ⟨?_, by omega, by omega⟩
      rw [show i + 1 - f = (i - f) + 1 by omega]
      unfold dyF
      rw [foI_s _ _ (by omega)]
      have hinv := hinv.1
      unfold dyF at hinv
      rw [← hinv, show f + (i - f) = i by omega]
      first | rw [if_pos (by dsimp only; omega)] | rw [if_neg (by dsimp only; omega)]
      try simp
    · refine w_iload dX4_days_21 rfl ?_
      refine w_aload_n dX4_days_23 rfl ?_
      refine gf_X4_18 rfl dX4_days_24 ?_
      refine w_iload dX4_days_27 rfl ?_
      refine w_iald rfl (by omega) dX4_days_29 ?_
      refine w_iadd dX4_days_30 ?_
      refine w_iload_n dX4_days_31 rfl ?_
      refine w_icmp_le (tgt := 41) dX4_days_32 (by decide) (by omega) hl (fun c_32 => ?_) (fun c_32 => ?_)
      · refine w_iload dX4_days_41 rfl ?_
        refine w_aload_n dX4_days_43 rfl ?_
        refine gf_X4_18 rfl dX4_days_44 ?_
        refine w_iload dX4_days_47 rfl ?_
        refine w_iald rfl (by omega) dX4_days_49 ?_
        refine w_iadd dX4_days_50 ?_
        refine w_istore dX4_days_51 (Nat.le_of_ble_eq_true rfl) ?_
        refine w_iinc dX4_days_53 (Nat.le_of_ble_eq_true rfl) rfl ?_
        refine w_goto (tgt := 9) dX4_days_56 (by decide) ?_
        refine ih (by omega) (by omega) _ _ ⟨?_, by omega, by omega⟩
        rw [show i + 1 - f = (i - f) + 1 by omega]
        unfold dyF
        rw [foI_s _ _ (by omega)]
        have hinv := hinv.1
        unfold dyF at hinv
        rw [← hinv, show f + (i - f) = i by omega]
        first | rw [if_pos (by dsimp only; omega)] | rw [if_neg (by dsimp only; omega)]
        try simp
      · refine w_iinc dX4_days_35 (Nat.le_of_ble_eq_true rfl) rfl ?_
        refine w_iconst dX4_days_38 ?_
        refine w_istore dX4_days_39 (Nat.le_of_ble_eq_true rfl) ?_
        refine w_iload dX4_days_41 rfl ?_
        refine w_aload_n dX4_days_43 rfl ?_
        refine gf_X4_18 rfl dX4_days_44 ?_
        refine w_iload dX4_days_47 rfl ?_
        refine w_iald rfl (by omega) dX4_days_49 ?_
        refine w_iadd dX4_days_50 ?_
        refine w_istore dX4_days_51 (Nat.le_of_ble_eq_true rfl) ?_
        refine w_iinc dX4_days_53 (Nat.le_of_ble_eq_true rfl) rfl ?_
        refine w_goto (tgt := 9) dX4_days_56 (by decide) ?_
        refine ih (by omega) (by omega) _ _ ⟨?_, by omega, by omega⟩
        rw [show i + 1 - f = (i - f) + 1 by omega]
        unfold dyF
        rw [foI_s _ _ (by omega)]
        have hinv := hinv.1
        unfold dyF at hinv
        rw [← hinv, show f + (i - f) = i by omega]
        first | rw [if_pos (by dsimp only; omega)] | rw [if_neg (by dsimp only; omega)]
        try simp

set_option maxRecDepth 100000 in
set_option maxHeartbeats 4000000 in
theorem ct_X4_trips (σ : St) (f e : Int) (hf : 0 ≤ f ∧ f ≤ e ∧ e ≤ 60) : Wp mX4_trips 0 (fun z τ => z = trF (σ 53) (σ 54) f (e - f) ∧ τ = σ) 0 [some (.inr 4), some (.inl f), some (.inl e), none, none] [] σ := by
  refine Wp.rg (fun hR => ?_)
  refine w_iconst dX4_trips_0 ?_
  refine w_istore_n dX4_trips_1 (Nat.le_of_ble_eq_true rfl) ?_
  refine w_iload_n dX4_trips_2 rfl ?_
  refine w_istore dX4_trips_3 (Nat.le_of_ble_eq_true rfl) ?_
  refine up_to (e) (fun i => f ≤ i → ∀ a, a = trF (σ 53) (σ 54) f (i - f) → Wp mX4_trips 0 (fun z τ => z = trF (σ 53) (σ 54) f (e - f) ∧ τ = σ) 5 [some (.inr 4), some (.inl f), some (.inl e), some (.inl a), some (.inl i)] [] σ) (fun i hi ih h0 a hinv => ?_) (f) (by omega) (by omega) 0 (by rw [Int.sub_self]; rfl)
  refine w_iload dX4_trips_5 rfl ?_
  refine w_iload_n dX4_trips_7 rfl ?_
  refine w_icmp_ge (tgt := 64) dX4_trips_8 (by decide) (by omega) (by omega) (fun c_8 => ?_) (fun c_8 => ?_)
  · refine w_iload_n dX4_trips_64 rfl ?_
    refine w_iret dX4_trips_65 rfl ?_
    exact ⟨by rw [← show i = e by omega, ← hinv], rfl⟩
  · refine w_iload dX4_trips_11 rfl ?_
    refine w_iload_n dX4_trips_13 rfl ?_
    refine w_icmp_eq (tgt := 55) dX4_trips_14 (by decide) (by omega) (by omega) (fun c_14 => ?_) (fun c_14 => ?_)
    · refine w_iinc dX4_trips_55 (Nat.le_of_ble_eq_true rfl) rfl ?_
      refine w_iinc dX4_trips_58 (Nat.le_of_ble_eq_true rfl) rfl ?_
      refine w_goto (tgt := 5) dX4_trips_61 (by decide) ?_
      refine ih (by omega) (by omega) _ ?_
      rw [show i + 1 - f = (i - f) + 1 by omega]
      unfold trF
      rw [foI_s _ _ (by omega)]
      unfold trF at hinv
      rw [← hinv, show f + (i - f) = i by omega]
      first | rw [if_pos (by first | exact Or.inl (by omega) | exact Or.inr (Or.inl c_33) | exact Or.inr (Or.inr c_52))] | rw [if_neg (by intro q; rcases q with q | q | q; exact absurd q (by omega); exact q c_33; exact q c_52)]
    · refine w_aload_n dX4_trips_17 rfl ?_
      refine gf_X4_21 rfl dX4_trips_18 ?_
      refine w_iload dX4_trips_21 rfl ?_
      refine w_iald rfl (by omega) dX4_trips_23 ?_
      refine w_aload_n dX4_trips_24 rfl ?_
      refine gf_X4_21 rfl dX4_trips_25 ?_
      refine w_iload dX4_trips_28 rfl ?_
      refine w_iconst dX4_trips_30 ?_
      refine w_isub dX4_trips_31 ?_
      refine w_iald rfl (by omega) dX4_trips_32 ?_
      refine w_icmp_ne (tgt := 55) dX4_trips_33 (by decide) (hR _ _) (hR _ _) (fun c_33 => ?_) (fun c_33 => ?_)
      · refine w_iinc dX4_trips_55 (Nat.le_of_ble_eq_true rfl) rfl ?_
        refine w_iinc dX4_trips_58 (Nat.le_of_ble_eq_true rfl) rfl ?_
        refine w_goto (tgt := 5) dX4_trips_61 (by decide) ?_
        refine ih (by omega) (by omega) _ ?_
        rw [show i + 1 - f = (i - f) + 1 by omega]
        unfold trF
        rw [foI_s _ _ (by omega)]
        unfold trF at hinv
        rw [← hinv, show f + (i - f) = i by omega]
        first | rw [if_pos (by first | exact Or.inl (by omega) | exact Or.inr (Or.inl c_33) | exact Or.inr (Or.inr c_52))] | rw [if_neg (by intro q; rcases q with q | q | q; exact absurd q (by omega); exact q c_33; exact q c_52)]
      · refine w_aload_n dX4_trips_36 rfl ?_
        refine gf_X4_24 rfl dX4_trips_37 ?_
        refine w_iload dX4_trips_40 rfl ?_
        refine w_iald rfl (by omega) dX4_trips_42 ?_
        refine w_aload_n dX4_trips_43 rfl ?_
        refine gf_X4_24 rfl dX4_trips_44 ?_
        refine w_iload dX4_trips_47 rfl ?_
        refine w_iconst dX4_trips_49 ?_
        refine w_isub dX4_trips_50 ?_
        refine w_iald rfl (by omega) dX4_trips_51 ?_
        refine w_icmp_eq (tgt := 58) dX4_trips_52 (by decide) (hR _ _) (hR _ _) (fun c_52 => ?_) (fun c_52 => ?_)
        · refine w_iinc dX4_trips_58 (Nat.le_of_ble_eq_true rfl) rfl ?_
          refine w_goto (tgt := 5) dX4_trips_61 (by decide) ?_
          refine ih (by omega) (by omega) _ ?_
          rw [show i + 1 - f = (i - f) + 1 by omega]
          unfold trF
          rw [foI_s _ _ (by omega)]
          unfold trF at hinv
          rw [← hinv, show f + (i - f) = i by omega]
          first | rw [if_pos (by first | exact Or.inl (by omega) | exact Or.inr (Or.inl c_33) | exact Or.inr (Or.inr c_52))] | rw [if_neg (by intro q; rcases q with q | q | q; exact absurd q (by omega); exact q c_33; exact q c_52)]
        · refine w_iinc dX4_trips_55 (Nat.le_of_ble_eq_true rfl) rfl ?_
          refine w_iinc dX4_trips_58 (Nat.le_of_ble_eq_true rfl) rfl ?_
          refine w_goto (tgt := 5) dX4_trips_61 (by decide) ?_
          refine ih (by omega) (by omega) _ ?_
          rw [show i + 1 - f = (i - f) + 1 by omega]
          unfold trF
          rw [foI_s _ _ (by omega)]
          unfold trF at hinv
          rw [← hinv, show f + (i - f) = i by omega]
          first | rw [if_pos (by first | exact Or.inl (by omega) | exact Or.inr (Or.inl c_33) | exact Or.inr (Or.inr c_52))] | rw [if_neg (by intro q; rcases q with q | q | q; exact absurd q (by omega); exact q c_33; exact q c_52)]

set_option maxRecDepth 100000 in
set_option maxHeartbeats 4000000 in
theorem ct_X4_takenAheadOf (σ : St) (k : Int) (hk : 0 ≤ k ∧ k < 60) : Wp mX4_takenAheadOf 0 (fun z τ => z = cntW (σ 53) (σ 54 k) k ∧ τ = σ) 0 [some (.inr 4), some (.inl k), none, none] [] σ := by
  refine Wp.rg (fun hR => ?_)
  refine w_iconst dX4_takenAheadOf_0 ?_
  refine w_istore_n dX4_takenAheadOf_1 (Nat.le_of_ble_eq_true rfl) ?_
  refine w_iconst dX4_takenAheadOf_2 ?_
  refine w_istore_n dX4_takenAheadOf_3 (Nat.le_of_ble_eq_true rfl) ?_
  refine up_to (k) (fun i => 0 ≤ i → ∀ a, a = cntW (σ 53) (σ 54 k) i → Wp mX4_takenAheadOf 0 (fun z τ => z = cntW (σ 53) (σ 54 k) k ∧ τ = σ) 4 [some (.inr 4), some (.inl k), some (.inl a), some (.inl i)] [] σ) (fun i hi ih h0 a hinv => ?_) (0) (by omega) (by omega) 0 rfl
  refine w_iload_n dX4_takenAheadOf_4 rfl ?_
  refine w_iload_n dX4_takenAheadOf_5 rfl ?_
  refine w_icmp_ge (tgt := 33) dX4_takenAheadOf_6 (by decide) (by omega) (by omega) (fun c_6 => ?_) (fun c_6 => ?_)
  · refine w_iload_n dX4_takenAheadOf_33 rfl ?_
    refine w_iret dX4_takenAheadOf_34 rfl ?_
    exact ⟨by rw [hinv, show i = k by omega], rfl⟩
  · refine w_aload_n dX4_takenAheadOf_9 rfl ?_
    refine gf_X4_21 rfl dX4_takenAheadOf_10 ?_
    refine w_iload_n dX4_takenAheadOf_13 rfl ?_
    refine w_iald rfl (by omega) dX4_takenAheadOf_14 ?_
    refine w_aload_n dX4_takenAheadOf_15 rfl ?_
    refine gf_X4_24 rfl dX4_takenAheadOf_16 ?_
    refine w_iload_n dX4_takenAheadOf_19 rfl ?_
    refine w_iald rfl (by omega) dX4_takenAheadOf_20 ?_
    refine w_icmp_ne (tgt := 27) dX4_takenAheadOf_21 (by decide) (hR _ _) (hR _ _) (fun c_21 => ?_) (fun c_21 => ?_)
    · refine w_iinc dX4_takenAheadOf_27 (Nat.le_of_ble_eq_true rfl) rfl ?_
      refine w_goto (tgt := 4) dX4_takenAheadOf_30 (by decide) ?_
      exact ih (by omega) (by omega) _ (by unfold cntW; rw [foI_s _ _ h0]; unfold cntW at hinv; rw [← hinv]; simp [c_21])
    · refine w_iinc dX4_takenAheadOf_24 (Nat.le_of_ble_eq_true rfl) rfl ?_
      refine w_iinc dX4_takenAheadOf_27 (Nat.le_of_ble_eq_true rfl) rfl ?_
      refine w_goto (tgt := 4) dX4_takenAheadOf_30 (by decide) ?_
      exact ih (by omega) (by omega) _ (by unfold cntW; rw [foI_s _ _ h0]; unfold cntW at hinv; rw [← hinv]; simp [c_21])

set_option maxRecDepth 100000 in
set_option maxHeartbeats 4000000 in
theorem ct_X4_widthsLeft (σ : St) (hp : 0 ≤ σ 4 6 ∧ σ 4 6 ≤ σ 4 5 ∧ σ 4 5 ≤ 60) : Wp mX4_widthsLeft 0 (fun z τ => z = sumF (σ 52) (σ 4 6) (σ 4 5 - σ 4 6) ∧ τ = σ) 0 [some (.inr 4), none, none] [] σ := by
  refine Wp.rg (fun hR => ?_)
  refine w_iconst dX4_widthsLeft_0 ?_
  refine w_istore_n dX4_widthsLeft_1 (Nat.le_of_ble_eq_true rfl) ?_
  refine w_aload_n dX4_widthsLeft_2 rfl ?_
  refine gf_X4_27 rfl dX4_widthsLeft_3 ?_
  refine w_istore_n dX4_widthsLeft_6 (Nat.le_of_ble_eq_true rfl) ?_
  refine up_to (σ 4 5) (fun i => σ 4 6 ≤ i → ∀ a, a = sumF (σ 52) (σ 4 6) (i - σ 4 6) → Wp mX4_widthsLeft 0 (fun z τ => z = sumF (σ 52) (σ 4 6) (σ 4 5 - σ 4 6) ∧ τ = σ) 7 [some (.inr 4), some (.inl a), some (.inl i)] [] σ) (fun i hi ih h0 a hinv => ?_) (σ 4 6) (by omega) (by omega) 0 (by rw [Int.sub_self]; rfl)
  refine w_iload_n dX4_widthsLeft_7 rfl ?_
  refine w_aload_n dX4_widthsLeft_8 rfl ?_
  refine gf_X4_31 rfl dX4_widthsLeft_9 ?_
  refine w_icmp_ge (tgt := 30) dX4_widthsLeft_12 (by decide) (by omega) (by omega) (fun c_12 => ?_) (fun c_12 => ?_)
  · refine w_iload_n dX4_widthsLeft_30 rfl ?_
    refine w_iret dX4_widthsLeft_31 rfl ?_
    exact ⟨by rw [← show i = σ 4 5 by omega, ← hinv], rfl⟩
  · refine w_iload_n dX4_widthsLeft_15 rfl ?_
    refine w_aload_n dX4_widthsLeft_16 rfl ?_
    refine gf_X4_18 rfl dX4_widthsLeft_17 ?_
    refine w_iload_n dX4_widthsLeft_20 rfl ?_
    refine w_iald rfl (by omega) dX4_widthsLeft_21 ?_
    refine w_iadd dX4_widthsLeft_22 ?_
    refine w_istore_n dX4_widthsLeft_23 (Nat.le_of_ble_eq_true rfl) ?_
    refine w_iinc dX4_widthsLeft_24 (Nat.le_of_ble_eq_true rfl) rfl ?_
    refine w_goto (tgt := 7) dX4_widthsLeft_27 (by decide) ?_
    exact ih (by omega) (by omega) _ (by rw [show i + 1 - σ 4 6 = (i - σ 4 6) + 1 by omega, sumF_s _ _ (by omega), ← hinv, show σ 4 6 + (i - σ 4 6) = i by omega])

set_option maxRecDepth 100000 in
set_option maxHeartbeats 4000000 in
theorem ct_X4_rightsLeft (σ : St) (hp : 0 ≤ σ 4 6 ∧ σ 4 6 ≤ σ 4 5 ∧ σ 4 5 ≤ 60) : Wp mX4_rightsLeft 1 (fun z τ => z = rgF (σ 53) (σ 54) (σ 4 6) (σ 4 5 - σ 4 6) ∧ τ = σ) 0 [some (.inr 4), none, none] [] σ := by
  refine Wp.rg (fun hR => ?_)
  refine w_iconst dX4_rightsLeft_0 ?_
  refine w_istore_n dX4_rightsLeft_1 (Nat.le_of_ble_eq_true rfl) ?_
  refine w_aload_n dX4_rightsLeft_2 rfl ?_
  refine gf_X4_27 rfl dX4_rightsLeft_3 ?_
  refine w_istore_n dX4_rightsLeft_6 (Nat.le_of_ble_eq_true rfl) ?_
  refine up_to (σ 4 5) (fun i => σ 4 6 ≤ i → ∀ a, a = rgF (σ 53) (σ 54) (σ 4 6) (i - σ 4 6) → Wp mX4_rightsLeft 1 (fun z τ => z = rgF (σ 53) (σ 54) (σ 4 6) (σ 4 5 - σ 4 6) ∧ τ = σ) 7 [some (.inr 4), some (.inl a), some (.inl i)] [] σ) (fun i hi ih h0 a hinv => ?_) (σ 4 6) (by omega) (by omega) 0 (by rw [Int.sub_self]; rfl)
  refine w_iload_n dX4_rightsLeft_7 rfl ?_
  refine w_aload_n dX4_rightsLeft_8 rfl ?_
  refine gf_X4_31 rfl dX4_rightsLeft_9 ?_
  refine w_icmp_ge (tgt := 33) dX4_rightsLeft_12 (by decide) (by omega) (by omega) (fun c_12 => ?_) (fun c_12 => ?_)
  · refine w_iload_n dX4_rightsLeft_33 rfl ?_
    refine w_iret dX4_rightsLeft_34 rfl ?_
    exact ⟨by rw [← show i = σ 4 5 by omega, ← hinv], rfl⟩
  · refine w_aload_n dX4_rightsLeft_15 rfl ?_
    refine w_iload_n dX4_rightsLeft_16 rfl ?_
    refine cv_X4_59 rfl dX4_rightsLeft_17 (Nat.le_of_ble_eq_true rfl) (Nat.le_of_ble_eq_true rfl) (Wp.mono (ct_X4_direction _ i (by omega)) (fun z_ τ_ hq_ => ?_))
    obtain ⟨hz_, hs_⟩ := hq_
    subst z_
    subst τ_
    refine w_iconst dX4_rightsLeft_20 ?_
    refine w_icmp_ne (tgt := 27) dX4_rightsLeft_21 (by decide) (by split <;> omega) (by omega) (fun c_21 => ?_) (fun c_21 => ?_)
    · refine w_iinc dX4_rightsLeft_27 (Nat.le_of_ble_eq_true rfl) rfl ?_
      refine w_goto (tgt := 7) dX4_rightsLeft_30 (by decide) ?_
      refine ih (by omega) (by omega) _ ?_
      rw [show i + 1 - σ 4 6 = (i - σ 4 6) + 1 by omega]
      unfold rgF
      rw [foI_s _ _ (by omega)]
      unfold rgF at hinv
      rw [← hinv, show σ 4 6 + (i - σ 4 6) = i by omega]
      by_cases q : σ 53 i < σ 54 i
      · rw [if_pos q] at c_21 ⊢
        all_goals first | rfl | exact absurd rfl c_21
      · rw [if_neg q] at c_21 ⊢
        all_goals first | rfl | exact absurd c_21 (by decide)
    · refine w_iinc dX4_rightsLeft_24 (Nat.le_of_ble_eq_true rfl) rfl ?_
      refine w_iinc dX4_rightsLeft_27 (Nat.le_of_ble_eq_true rfl) rfl ?_
      refine w_goto (tgt := 7) dX4_rightsLeft_30 (by decide) ?_
      refine ih (by omega) (by omega) _ ?_
      rw [show i + 1 - σ 4 6 = (i - σ 4 6) + 1 by omega]
      unfold rgF
      rw [foI_s _ _ (by omega)]
      unfold rgF at hinv
      rw [← hinv, show σ 4 6 + (i - σ 4 6) = i by omega]
      by_cases q : σ 53 i < σ 54 i
      · rw [if_pos q] at c_21 ⊢
        all_goals first | rfl | exact absurd rfl c_21
      · rw [if_neg q] at c_21 ⊢
        all_goals first | rfl | exact absurd c_21 (by decide)

set_option maxRecDepth 100000 in
set_option maxHeartbeats 4000000 in
theorem ct_X3_write (σ : St) (k b w f t : Int) (hn : 0 ≤ σ 3 1 ∧ σ 3 1 < 40) (hc : 0 ≤ σ 3 2 ∧ σ 3 2 ≤ 40) (hk : InR k) (hb : InR b) (hw : InR w) (hf : InR f) (ht : InR t) : Wp mX3_write 1 (fun z τ => τ = put (put (put (put (put (put (put σ 49 (σ 3 1 * 5) k) 49 (σ 3 1 * 5 + 1) b) 49 (σ 3 1 * 5 + 2) w) 49 (σ 3 1 * 5 + 3) f) 49 (σ 3 1 * 5 + 4) t) 3 1 ((σ 3 1 + 1) % 40)) 3 2 (if 40 < σ 3 2 + 1 then 40 else σ 3 2 + 1)) 0 [some (.inr 3), some (.inl k), some (.inl b), some (.inl w), some (.inl f), some (.inl t), none] [] σ := by
  refine Wp.rg (fun hR => ?_)
  refine w_aload_n dX3_write_0 rfl ?_
  refine gf_X3_15 rfl dX3_write_1 ?_
  refine w_iconst dX3_write_4 ?_
  refine w_imul dX3_write_5 ?_
  refine w_istore dX3_write_6 (Nat.le_of_ble_eq_true rfl) ?_
  refine w_aload_n dX3_write_8 rfl ?_
  refine gf_X3_11 rfl dX3_write_9 ?_
  refine w_iload dX3_write_12 rfl ?_
  refine w_iload_n dX3_write_14 rfl ?_
  refine w_iast rfl (by omega) hk dX3_write_15 ?_
  refine w_aload_n dX3_write_16 rfl ?_
  refine gf_X3_11 rfl dX3_write_17 ?_
  refine w_iload dX3_write_20 rfl ?_
  refine w_iconst dX3_write_22 ?_
  refine w_iadd dX3_write_23 ?_
  refine w_iload_n dX3_write_24 rfl ?_
  refine w_iast rfl (by omega) hb dX3_write_25 ?_
  refine w_aload_n dX3_write_26 rfl ?_
  refine gf_X3_11 rfl dX3_write_27 ?_
  refine w_iload dX3_write_30 rfl ?_
  refine w_iconst dX3_write_32 ?_
  refine w_iadd dX3_write_33 ?_
  refine w_iload_n dX3_write_34 rfl ?_
  refine w_iast rfl (by omega) hw dX3_write_35 ?_
  refine w_aload_n dX3_write_36 rfl ?_
  refine gf_X3_11 rfl dX3_write_37 ?_
  refine w_iload dX3_write_40 rfl ?_
  refine w_iconst dX3_write_42 ?_
  refine w_iadd dX3_write_43 ?_
  refine w_iload dX3_write_44 rfl ?_
  refine w_iast rfl (by omega) hf dX3_write_46 ?_
  refine w_aload_n dX3_write_47 rfl ?_
  refine gf_X3_11 rfl dX3_write_48 ?_
  refine w_iload dX3_write_51 rfl ?_
  refine w_iconst dX3_write_53 ?_
  refine w_iadd dX3_write_54 ?_
  refine w_iload dX3_write_55 rfl ?_
  refine w_iast rfl (by omega) ht dX3_write_57 ?_
  refine w_aload_n dX3_write_58 rfl ?_
  refine w_aload_n dX3_write_59 rfl ?_
  refine gf_X3_15 rfl dX3_write_60 ?_
  refine w_iconst dX3_write_63 ?_
  refine w_iadd dX3_write_64 ?_
  refine w_bipush dX3_write_65 (by decide) ?_
  refine w_iremN dX3_write_67 (by simp only [put_eq]; simp; omega) (by simp only [put_eq]; simp; omega) (by omega) (by omega) ?_
  refine pf_X3_15 rfl (by simp only [put_eq]; simp; omega) dX3_write_68 ?_
  refine w_aload_n dX3_write_71 rfl ?_
  refine w_aload_n dX3_write_72 rfl ?_
  refine gf_X3_19 rfl dX3_write_73 ?_
  refine w_iconst dX3_write_76 ?_
  refine w_iadd dX3_write_77 ?_
  refine w_bipush dX3_write_78 (by decide) ?_
  refine w_min dX3_write_80 tw_412 tw_413 tw_69 tw_414 (Nat.le_of_ble_eq_true rfl) (Nat.le_of_ble_eq_true rfl) (by simp only [put_eq]; simp; omega) (by omega) ?_
  refine pf_X3_19 rfl (by simp only [put_eq]; simp; split <;> omega) dX3_write_83 ?_
  refine w_ret dX3_write_86 rfl ?_
  simp [put_eq]

set_option maxRecDepth 100000 in
set_option maxHeartbeats 4000000 in
theorem ct_X3_read (σ : St) (k w : Int) (hn : 0 ≤ σ 3 1 ∧ σ 3 1 < 40) (hc : 0 ≤ σ 3 2 ∧ σ 3 2 ≤ 40) (hk : InR k) (hw : InR w) : Wp mX3_read 0 (fun z τ => z = (if 0 ≤ k ∧ k < σ 3 2 ∧ 0 ≤ w ∧ w < 5 then σ 49 ((σ 3 1 + 40 - 1 - k) % 40 * 5 + w) else -1) ∧ τ = σ) 0 [some (.inr 3), some (.inl k), some (.inl w), none] [] σ := by
  refine Wp.rg (fun hR => ?_)
  refine w_iload_n dX3_read_0 rfl ?_
  refine w_if_lt (tgt := 21) dX3_read_1 (by decide) (by omega) (fun c_1 => ?_) (fun c_1 => ?_)
  · refine w_iconst dX3_read_21 ?_
    refine w_iret dX3_read_22 rfl ?_
    exact ⟨by rw [if_neg (by omega)], rfl⟩
  · refine w_iload_n dX3_read_4 rfl ?_
    refine w_aload_n dX3_read_5 rfl ?_
    refine gf_X3_19 rfl dX3_read_6 ?_
    refine w_icmp_ge (tgt := 21) dX3_read_9 (by decide) (by omega) (by omega) (fun c_9 => ?_) (fun c_9 => ?_)
    · refine w_iconst dX3_read_21 ?_
      refine w_iret dX3_read_22 rfl ?_
      exact ⟨by rw [if_neg (by omega)], rfl⟩
    · refine w_iload_n dX3_read_12 rfl ?_
      refine w_if_lt (tgt := 21) dX3_read_13 (by decide) (by omega) (fun c_13 => ?_) (fun c_13 => ?_)
      · refine w_iconst dX3_read_21 ?_
        refine w_iret dX3_read_22 rfl ?_
        exact ⟨by rw [if_neg (by omega)], rfl⟩
      · refine w_iload_n dX3_read_16 rfl ?_
        refine w_iconst dX3_read_17 ?_
        refine w_icmp_lt (tgt := 23) dX3_read_18 (by decide) (by omega) (by omega) (fun c_18 => ?_) (fun c_18 => ?_)
        · refine w_aload_n dX3_read_23 rfl ?_
          refine gf_X3_15 rfl dX3_read_24 ?_
          refine w_bipush dX3_read_27 (by decide) ?_
          refine w_iadd dX3_read_29 ?_
          refine w_iconst dX3_read_30 ?_
          refine w_isub dX3_read_31 ?_
          refine w_iload_n dX3_read_32 rfl ?_
          refine w_isub dX3_read_33 ?_
          refine w_bipush dX3_read_34 (by decide) ?_
          refine w_iremN dX3_read_36 (by omega) (by omega) (by omega) (by omega) ?_
          refine w_istore_n dX3_read_37 (Nat.le_of_ble_eq_true rfl) ?_
          refine w_aload_n dX3_read_38 rfl ?_
          refine gf_X3_11 rfl dX3_read_39 ?_
          refine w_iload_n dX3_read_42 rfl ?_
          refine w_iconst dX3_read_43 ?_
          refine w_imul dX3_read_44 ?_
          refine w_iload_n dX3_read_45 rfl ?_
          refine w_iadd dX3_read_46 ?_
          refine w_iald rfl (by omega) dX3_read_47 ?_
          refine w_iret dX3_read_48 rfl ?_
          exact ⟨by rw [if_pos (by omega)], rfl⟩
        · refine w_iconst dX3_read_21 ?_
          refine w_iret dX3_read_22 rfl ?_
          exact ⟨by rw [if_neg (by omega)], rfl⟩
end
section
def upF (f : Int → Int) (i x : Int) : Int → Int := fun b => if b = i then x else f b
theorem put_putA (σ : St) (k : Nat) (f : Int → Int) (i x : Int) : put (putA σ k f) k i x = putA σ k (upF f i x) := by
  funext a b
  simp only [put_eq, putA_eq, upF]
  by_cases h : a = k
  · subst h; simp
  · simp [h]
theorem put_putA_ne (σ : St) {k k' : Nat} (h : k ≠ k') (f : Int → Int) (i x : Int) : put (putA σ k f) k' i x = putA (put σ k' i x) k f := by
  funext a b
  simp only [put_eq, putA_eq]
  by_cases h1 : a = k
  · subst h1; simp [h]
  · simp [h1]
theorem put_is_putA (σ : St) (k : Nat) (i x : Int) : put σ k i x = putA σ k (upF (σ k) i x) := by
  funext a b
  simp only [put_eq, putA_eq, upF]
  by_cases h : a = k
  · subst h; simp
  · simp [h]
theorem putA_putA (σ : St) (k : Nat) (f g : Int → Int) : putA (putA σ k f) k g = putA σ k g := by
  funext a b
  simp only [putA_eq]
  by_cases h : a = k
  · subst h; simp
  · simp [h]
theorem putA_swap (σ : St) {k k' : Nat} (h : k ≠ k') (f g : Int → Int) : putA (putA σ k f) k' g = putA (putA σ k' g) k f := by
  funext a b
  simp only [putA_eq]
  by_cases h1 : a = k
  · subst h1; simp [h]
  · simp [h1]
theorem putA_self (σ : St) (k : Nat) : putA σ k (σ k) = σ := by
  funext a b
  simp only [putA_eq]
  by_cases h : a = k
  · subst h; simp
  · simp [h]
def ins (f : Int → Int) (b v : Int) : Int → Int := fun j => if j < b then f j else if j = b then v else f (j - 1)
def del (f : Int → Int) (b : Int) : Int → Int := fun j => if j < b then f j else f (j + 1)

set_option maxRecDepth 100000 in
set_option maxHeartbeats 4000000 in
theorem ct_X0_openGap (σ : St) (k : Nat) (b : Int) (hk : shT[k]? = some (.inr (.inl 60))) (hb : 0 ≤ b ∧ b ≤ σ 0 6 ∧ σ 0 6 < 60) : Wp mX0_openGap 1 (fun z τ => τ = putA σ k (cpI (σ k) (σ k) b (b + 1) (σ 0 6 - b))) 0 [some (.inr 0), some (.inr k), some (.inl b)] [] σ := by
  refine Wp.rg (fun hR => ?_)
  refine w_aload_n dX0_openGap_0 rfl ?_
  refine w_iload_n dX0_openGap_1 rfl ?_
  refine w_aload_n dX0_openGap_2 rfl ?_
  refine w_iload_n dX0_openGap_3 rfl ?_
  refine w_iconst dX0_openGap_4 ?_
  refine w_iadd dX0_openGap_5 ?_
  refine w_aload_n dX0_openGap_6 rfl ?_
  refine gf_X0_30 rfl dX0_openGap_7 ?_
  refine w_iload_n dX0_openGap_10 rfl ?_
  refine w_isub dX0_openGap_11 ?_
  refine w_copy dX0_openGap_12 tw_431 tw_363 tw_362 tw_68 (Nat.le_of_ble_eq_true rfl) hk hk (by omega) (by omega) (by omega) (by omega) (by omega) ?_
  refine w_ret dX0_openGap_15 rfl ?_
  rfl

set_option maxRecDepth 100000 in
set_option maxHeartbeats 4000000 in
theorem ct_X0_closeGap (σ : St) (k : Nat) (b : Int) (hk : shT[k]? = some (.inr (.inl 60))) (hb : 0 ≤ b ∧ b ≤ σ 0 6 ∧ σ 0 6 < 60) : Wp mX0_closeGap 1 (fun z τ => τ = putA σ k (cpI (σ k) (σ k) (b + 1) b (σ 0 6 - b))) 0 [some (.inr 0), some (.inr k), some (.inl b)] [] σ := by
  refine Wp.rg (fun hR => ?_)
  refine w_aload_n dX0_closeGap_0 rfl ?_
  refine w_iload_n dX0_closeGap_1 rfl ?_
  refine w_iconst dX0_closeGap_2 ?_
  refine w_iadd dX0_closeGap_3 ?_
  refine w_aload_n dX0_closeGap_4 rfl ?_
  refine w_iload_n dX0_closeGap_5 rfl ?_
  refine w_aload_n dX0_closeGap_6 rfl ?_
  refine gf_X0_30 rfl dX0_closeGap_7 ?_
  refine w_iload_n dX0_closeGap_10 rfl ?_
  refine w_isub dX0_closeGap_11 ?_
  refine w_copy dX0_closeGap_12 tw_431 tw_363 tw_362 tw_68 (Nat.le_of_ble_eq_true rfl) hk hk (by omega) (by omega) (by omega) (by omega) (by omega) ?_
  refine w_ret dX0_closeGap_15 rfl ?_
  rfl

set_option maxRecDepth 100000 in
set_option maxHeartbeats 4000000 in
theorem ct_X0_insert (σ : St) (b g w s : Int) (hb : 0 ≤ b ∧ b ≤ σ 0 6 ∧ σ 0 6 < 60) (hg : InR g) (hw : InR w) (hs : InR s) : Wp mX0_insert 2 (fun z τ => (∀ j, 0 ≤ j → j ≤ σ 0 6 → τ 8 j = ins (σ 8) b g j ∧ τ 9 j = ins (σ 9) b w j ∧ τ 10 j = ins (σ 10) b 0 j ∧ τ 11 j = ins (σ 11) b s j ∧ τ 12 j = ins (σ 12) b 0 j) ∧ τ 0 6 = σ 0 6 + 1 ∧ τ 0 7 = σ 0 7 ∧ ∀ k, k ≠ 0 → k ≠ 8 → k ≠ 9 → k ≠ 10 → k ≠ 11 → k ≠ 12 → τ k = σ k) 0 [some (.inr 0), some (.inl b), some (.inl g), some (.inl w), some (.inl s)] [] σ := by
  refine Wp.rg (fun hR => ?_)
  refine w_aload_n dX0_insert_0 rfl ?_
  refine w_aload_n dX0_insert_1 rfl ?_
  refine gf_X0_9 rfl dX0_insert_2 ?_
  refine w_iload_n dX0_insert_5 rfl ?_
  refine cv_X0_34 rfl dX0_insert_6 (Nat.le_of_ble_eq_true rfl) (Nat.le_of_ble_eq_true rfl) (Wp.mono (ct_X0_openGap _ _ b rfl (by first | omega | (simp only [putA_eq]; simp; omega))) (fun z_ τ_ hq_ => ?_))
  subst τ_
  refine w_aload_n dX0_insert_9 rfl ?_
  refine w_aload_n dX0_insert_10 rfl ?_
  refine gf_X0_15 rfl dX0_insert_11 ?_
  refine w_iload_n dX0_insert_14 rfl ?_
  refine cv_X0_34 rfl dX0_insert_15 (Nat.le_of_ble_eq_true rfl) (Nat.le_of_ble_eq_true rfl) (Wp.mono (ct_X0_openGap _ _ b rfl (by first | omega | (simp only [putA_eq]; simp; omega))) (fun z_ τ_ hq_ => ?_))
  subst τ_
  refine w_aload_n dX0_insert_18 rfl ?_
  refine w_aload_n dX0_insert_19 rfl ?_
  refine gf_X0_18 rfl dX0_insert_20 ?_
  refine w_iload_n dX0_insert_23 rfl ?_
  refine cv_X0_34 rfl dX0_insert_24 (Nat.le_of_ble_eq_true rfl) (Nat.le_of_ble_eq_true rfl) (Wp.mono (ct_X0_openGap _ _ b rfl (by first | omega | (simp only [putA_eq]; simp; omega))) (fun z_ τ_ hq_ => ?_))
  subst τ_
  refine w_aload_n dX0_insert_27 rfl ?_
  refine w_aload_n dX0_insert_28 rfl ?_
  refine gf_X0_21 rfl dX0_insert_29 ?_
  refine w_iload_n dX0_insert_32 rfl ?_
  refine cv_X0_34 rfl dX0_insert_33 (Nat.le_of_ble_eq_true rfl) (Nat.le_of_ble_eq_true rfl) (Wp.mono (ct_X0_openGap _ _ b rfl (by first | omega | (simp only [putA_eq]; simp; omega))) (fun z_ τ_ hq_ => ?_))
  subst τ_
  refine w_aload_n dX0_insert_36 rfl ?_
  refine w_aload_n dX0_insert_37 rfl ?_
  refine gf_X0_24 rfl dX0_insert_38 ?_
  refine w_iload_n dX0_insert_41 rfl ?_
  refine cv_X0_34 rfl dX0_insert_42 (Nat.le_of_ble_eq_true rfl) (Nat.le_of_ble_eq_true rfl) (Wp.mono (ct_X0_openGap _ _ b rfl (by first | omega | (simp only [putA_eq]; simp; omega))) (fun z_ τ_ hq_ => ?_))
  subst τ_
  refine w_aload_n dX0_insert_45 rfl ?_
  refine w_dup dX0_insert_46 ?_
  refine gf_X0_30 rfl dX0_insert_47 ?_
  refine w_iconst dX0_insert_50 ?_
  refine w_iadd dX0_insert_51 ?_
  refine pf_X0_30 rfl (by simp only [put_eq, putA_eq]; simp; omega) dX0_insert_52 ?_
  refine w_aload_n dX0_insert_55 rfl ?_
  refine gf_X0_9 rfl dX0_insert_56 ?_
  refine w_iload_n dX0_insert_59 rfl ?_
  refine w_iload_n dX0_insert_60 rfl ?_
  refine w_iast rfl (by omega) hg dX0_insert_61 ?_
  refine w_aload_n dX0_insert_62 rfl ?_
  refine gf_X0_15 rfl dX0_insert_63 ?_
  refine w_iload_n dX0_insert_66 rfl ?_
  refine w_iload_n dX0_insert_67 rfl ?_
  refine w_iast rfl (by omega) hw dX0_insert_68 ?_
  refine w_aload_n dX0_insert_69 rfl ?_
  refine gf_X0_18 rfl dX0_insert_70 ?_
  refine w_iload_n dX0_insert_73 rfl ?_
  refine w_iconst dX0_insert_74 ?_
  refine w_iast rfl (by omega) (by omega) dX0_insert_75 ?_
  refine w_aload_n dX0_insert_76 rfl ?_
  refine gf_X0_21 rfl dX0_insert_77 ?_
  refine w_iload_n dX0_insert_80 rfl ?_
  refine w_iload dX0_insert_81 rfl ?_
  refine w_iast rfl (by omega) hs dX0_insert_83 ?_
  refine w_aload_n dX0_insert_84 rfl ?_
  refine gf_X0_24 rfl dX0_insert_85 ?_
  refine w_iload_n dX0_insert_88 rfl ?_
  refine w_iconst dX0_insert_89 ?_
  refine w_iast rfl (by omega) (by omega) dX0_insert_90 ?_
  refine w_ret dX0_insert_91 rfl ?_
  refine ⟨fun j h1 h2 => ?_, by simp [put_eq, putA_eq], by simp [put_eq, putA_eq], fun k k0 k1 k2 k3 k4 k5 => by funext j; simp [put_eq, putA_eq, k0, k1, k2, k3, k4, k5]⟩
  simp only [put_eq, putA_eq, cpI, ins]
  simp
  by_cases q1 : j < b
  · simp [q1, show ¬ j = b by omega, show ¬ b + 1 ≤ j by omega]
  · by_cases q2 : j = b
    · simp [q2]
    · have e1 : b + (j - (b + 1)) = j - 1 := by omega
      have e2 : b + 1 ≤ j ∧ j < b + 1 + (σ 0 6 - b) := by omega
      simp [q1, q2, e1, e2]

set_option maxRecDepth 100000 in
set_option maxHeartbeats 4000000 in
theorem ct_X0_remove (σ : St) (b : Int) (hb : 0 ≤ b ∧ b < σ 0 6 ∧ σ 0 6 ≤ 60) : Wp mX0_remove 2 (fun z τ => (∀ j, 0 ≤ j → j < σ 0 6 - 1 → τ 8 j = del (σ 8) b j ∧ τ 9 j = del (σ 9) b j ∧ τ 10 j = del (σ 10) b j ∧ τ 11 j = del (σ 11) b j ∧ τ 12 j = del (σ 12) b j) ∧ τ 0 6 = σ 0 6 - 1 ∧ τ 0 7 = σ 0 7 ∧ ∀ k, k ≠ 0 → k ≠ 8 → k ≠ 9 → k ≠ 10 → k ≠ 11 → k ≠ 12 → τ k = σ k) 0 [some (.inr 0), some (.inl b)] [] σ := by
  refine Wp.rg (fun hR => ?_)
  refine w_aload_n dX0_remove_0 rfl ?_
  refine w_dup dX0_remove_1 ?_
  refine gf_X0_30 rfl dX0_remove_2 ?_
  refine w_iconst dX0_remove_5 ?_
  refine w_isub dX0_remove_6 ?_
  refine pf_X0_30 rfl (by omega) dX0_remove_7 ?_
  refine w_aload_n dX0_remove_10 rfl ?_
  refine w_aload_n dX0_remove_11 rfl ?_
  refine gf_X0_9 rfl dX0_remove_12 ?_
  refine w_iload_n dX0_remove_15 rfl ?_
  refine cv_X0_44 rfl dX0_remove_16 (Nat.le_of_ble_eq_true rfl) (Nat.le_of_ble_eq_true rfl) (Wp.mono (ct_X0_closeGap _ _ b rfl (by simp only [put_eq, putA_eq]; simp; omega)) (fun z_ τ_ hq_ => ?_))
  subst τ_
  refine w_aload_n dX0_remove_19 rfl ?_
  refine w_aload_n dX0_remove_20 rfl ?_
  refine gf_X0_15 rfl dX0_remove_21 ?_
  refine w_iload_n dX0_remove_24 rfl ?_
  refine cv_X0_44 rfl dX0_remove_25 (Nat.le_of_ble_eq_true rfl) (Nat.le_of_ble_eq_true rfl) (Wp.mono (ct_X0_closeGap _ _ b rfl (by simp only [put_eq, putA_eq]; simp; omega)) (fun z_ τ_ hq_ => ?_))
  subst τ_
  refine w_aload_n dX0_remove_28 rfl ?_
  refine w_aload_n dX0_remove_29 rfl ?_
  refine gf_X0_18 rfl dX0_remove_30 ?_
  refine w_iload_n dX0_remove_33 rfl ?_
  refine cv_X0_44 rfl dX0_remove_34 (Nat.le_of_ble_eq_true rfl) (Nat.le_of_ble_eq_true rfl) (Wp.mono (ct_X0_closeGap _ _ b rfl (by simp only [put_eq, putA_eq]; simp; omega)) (fun z_ τ_ hq_ => ?_))
  subst τ_
  refine w_aload_n dX0_remove_37 rfl ?_
  refine w_aload_n dX0_remove_38 rfl ?_
  refine gf_X0_21 rfl dX0_remove_39 ?_
  refine w_iload_n dX0_remove_42 rfl ?_
  refine cv_X0_44 rfl dX0_remove_43 (Nat.le_of_ble_eq_true rfl) (Nat.le_of_ble_eq_true rfl) (Wp.mono (ct_X0_closeGap _ _ b rfl (by simp only [put_eq, putA_eq]; simp; omega)) (fun z_ τ_ hq_ => ?_))
  subst τ_
  refine w_aload_n dX0_remove_46 rfl ?_
  refine w_aload_n dX0_remove_47 rfl ?_
  refine gf_X0_24 rfl dX0_remove_48 ?_
  refine w_iload_n dX0_remove_51 rfl ?_
  refine cv_X0_44 rfl dX0_remove_52 (Nat.le_of_ble_eq_true rfl) (Nat.le_of_ble_eq_true rfl) (Wp.mono (ct_X0_closeGap _ _ b rfl (by simp only [put_eq, putA_eq]; simp; omega)) (fun z_ τ_ hq_ => ?_))
  subst τ_
  refine w_ret dX0_remove_55 rfl ?_
  refine ⟨fun j h1 h2 => ?_, by simp [put_eq, putA_eq], by simp [put_eq, putA_eq], fun k k0 k1 k2 k3 k4 k5 => by funext j; simp [put_eq, putA_eq, k0, k1, k2, k3, k4, k5]⟩
  simp only [put_eq, putA_eq, cpI, del]
  simp
  by_cases q1 : j < b
  · simp [q1, show ¬ b ≤ j by omega]
  · have e1 : b + 1 + (j - b) = j + 1 := by omega
    have e2 : b ≤ j ∧ j < b + (σ 0 6 - 1 - b) := by omega
    simp [q1, e1, e2]

/-- of a group the first of those that lost most, or -1 -/
def bstF (grp los : Int → Int) (g n : Int) : Int := foI (fun b c => if grp b = g ∧ (c = -1 ∨ los c < los b) then b else c) (-1) n
theorem bstF_s (grp los : Int → Int) (g : Int) {i : Int} (h : 0 ≤ i) : bstF grp los g (i + 1) = if grp i = g ∧ (bstF grp los g i = -1 ∨ los (bstF grp los g i) < los i) then i else bstF grp los g i := foI_s _ _ h
theorem bstF_in (grp los : Int → Int) (g n : Int) (hn : 0 ≤ n) : bstF grp los g n = -1 ∨ (0 ≤ bstF grp los g n ∧ bstF grp los g n < n ∧ grp (bstF grp los g n) = g) := by
  refine up_to n (fun i => 0 ≤ i → (bstF grp los g i = -1 ∨ (0 ≤ bstF grp los g i ∧ bstF grp los g i < i ∧ grp (bstF grp los g i) = g)) → (bstF grp los g n = -1 ∨ (0 ≤ bstF grp los g n ∧ bstF grp los g n < n ∧ grp (bstF grp los g n) = g))) (fun i hi ih h0 h => ?_) 0 hn (by omega) (Or.inl rfl)
  by_cases q : i = n
  · subst q; exact h
  · refine ih (by omega) (by omega) ?_
    rw [bstF_s _ _ _ h0]
    split
    · rename_i hc
      exact Or.inr ⟨h0, by omega, hc.1⟩
    · rcases h with h | h
      · exact Or.inl h
      · exact Or.inr ⟨h.1, by omega, h.2.2⟩

set_option maxRecDepth 100000 in
set_option maxHeartbeats 4000000 in
theorem ct_X0_giveOneMore (σ : St) (g : Int) (hb : 0 ≤ σ 0 6 ∧ σ 0 6 ≤ 60) (hg : InR g) (hnd : ∀ b, 0 ≤ b → b < σ 0 6 → σ 8 b = g → 0 ≤ σ 10 b ∧ σ 10 b ≤ 1000) : Wp mX0_giveOneMore 0 (fun z τ => (bstF (σ 8) (σ 13) g (σ 0 6) = -1 → z = 0 ∧ τ = σ) ∧ (bstF (σ 8) (σ 13) g (σ 0 6) ≠ -1 → z = 1 ∧ τ = put (put σ 10 (bstF (σ 8) (σ 13) g (σ 0 6)) (σ 10 (bstF (σ 8) (σ 13) g (σ 0 6)) + 1)) 13 (bstF (σ 8) (σ 13) g (σ 0 6)) (-1))) 0 [some (.inr 0), some (.inl g), none, none] [] σ := by
  refine Wp.rg (fun hR => ?_)
  refine w_iconst dX0_giveOneMore_0 ?_
  refine w_istore_n dX0_giveOneMore_1 (Nat.le_of_ble_eq_true rfl) ?_
  refine w_iconst dX0_giveOneMore_2 ?_
  refine w_istore_n dX0_giveOneMore_3 (Nat.le_of_ble_eq_true rfl) ?_
  refine up_to (σ 0 6) (fun i => 0 ≤ i → ∀ c, (c = bstF (σ 8) (σ 13) g i ∧ (c = -1 ∨ (0 ≤ c ∧ c < i ∧ σ 8 c = g))) → Wp mX0_giveOneMore 0 (fun z τ => (bstF (σ 8) (σ 13) g (σ 0 6) = -1 → z = 0 ∧ τ = σ) ∧ (bstF (σ 8) (σ 13) g (σ 0 6) ≠ -1 → z = 1 ∧ τ = put (put σ 10 (bstF (σ 8) (σ 13) g (σ 0 6)) (σ 10 (bstF (σ 8) (σ 13) g (σ 0 6)) + 1)) 13 (bstF (σ 8) (σ 13) g (σ 0 6)) (-1))) 4 [some (.inr 0), some (.inl g), some (.inl c), some (.inl i)] [] σ) (fun i hi ih h0 c hinv => ?_) (0) (by omega) (by omega) (-1) ⟨rfl, Or.inl rfl⟩
  refine w_iload_n dX0_giveOneMore_4 rfl ?_
  refine w_aload_n dX0_giveOneMore_5 rfl ?_
  refine gf_X0_30 rfl dX0_giveOneMore_6 ?_
  refine w_icmp_ge (tgt := 50) dX0_giveOneMore_9 (by decide) (by omega) (by omega) (fun c_9 => ?_) (fun c_9 => ?_)
  · have ei : i = σ 0 6 := by omega
    subst ei
    refine w_iload_n dX0_giveOneMore_50 rfl ?_
    refine w_iconst dX0_giveOneMore_51 ?_
    refine w_icmp_ne (tgt := 57) dX0_giveOneMore_52 (by decide) (by omega) (by omega) (fun c_52 => ?_) (fun c_52 => ?_)
    · refine w_aload_n dX0_giveOneMore_57 rfl ?_
      refine gf_X0_18 rfl dX0_giveOneMore_58 ?_
      refine w_iload_n dX0_giveOneMore_61 rfl ?_
      refine w_dup2 dX0_giveOneMore_62 ?_
      refine w_iald rfl (by omega) dX0_giveOneMore_63 ?_
      refine w_iconst dX0_giveOneMore_64 ?_
      refine w_iadd dX0_giveOneMore_65 ?_
      refine w_iast rfl (by omega) (by have := hnd c (by omega) (by omega) (by omega); omega) dX0_giveOneMore_66 ?_
      refine w_aload_n dX0_giveOneMore_67 rfl ?_
      refine gf_X0_27 rfl dX0_giveOneMore_68 ?_
      refine w_iload_n dX0_giveOneMore_71 rfl ?_
      refine w_iconst dX0_giveOneMore_72 ?_
      refine w_iast rfl (by omega) (by omega) dX0_giveOneMore_73 ?_
      refine w_iconst dX0_giveOneMore_74 ?_
      refine w_iret dX0_giveOneMore_75 rfl ?_
      refine ⟨fun q => absurd (hinv.1.trans q) c_52, fun _ => ⟨rfl, by rw [← hinv.1]⟩⟩
    · refine w_iconst dX0_giveOneMore_55 ?_
      refine w_iret dX0_giveOneMore_56 rfl ?_
      refine ⟨fun _ => ⟨rfl, rfl⟩, fun q => absurd (hinv.1.symm.trans c_52) q⟩
  · refine w_aload_n dX0_giveOneMore_12 rfl ?_
    refine gf_X0_9 rfl dX0_giveOneMore_13 ?_
    refine w_iload_n dX0_giveOneMore_16 rfl ?_
    refine w_iald rfl (by omega) dX0_giveOneMore_17 ?_
    refine w_iload_n dX0_giveOneMore_18 rfl ?_
    refine w_icmp_ne (tgt := 44) dX0_giveOneMore_19 (by decide) (hR _ _) hg (fun c_19 => ?_) (fun c_19 => ?_)
    · refine w_iinc dX0_giveOneMore_44 (Nat.le_of_ble_eq_true rfl) rfl ?_
      refine w_goto (tgt := 4) dX0_giveOneMore_47 (by decide) ?_
      refine ih (by omega) (by omega) _ ⟨?_, by omega⟩
      rw [bstF_s _ _ _ h0, ← hinv.1]
      first | rw [if_pos (by omega)] | rw [if_neg (by omega)]
    · refine w_iload_n dX0_giveOneMore_22 rfl ?_
      refine w_iconst dX0_giveOneMore_23 ?_
      refine w_icmp_eq (tgt := 42) dX0_giveOneMore_24 (by decide) (by omega) (by omega) (fun c_24 => ?_) (fun c_24 => ?_)
      · refine w_iload_n dX0_giveOneMore_42 rfl ?_
        refine w_istore_n dX0_giveOneMore_43 (Nat.le_of_ble_eq_true rfl) ?_
        refine w_iinc dX0_giveOneMore_44 (Nat.le_of_ble_eq_true rfl) rfl ?_
        refine w_goto (tgt := 4) dX0_giveOneMore_47 (by decide) ?_
        refine ih (by omega) (by omega) _ ⟨?_, by omega⟩
        rw [bstF_s _ _ _ h0, ← hinv.1]
        first | rw [if_pos (by omega)] | rw [if_neg (by omega)]
      · refine w_aload_n dX0_giveOneMore_27 rfl ?_
        refine gf_X0_27 rfl dX0_giveOneMore_28 ?_
        refine w_iload_n dX0_giveOneMore_31 rfl ?_
        refine w_iald rfl (by omega) dX0_giveOneMore_32 ?_
        refine w_aload_n dX0_giveOneMore_33 rfl ?_
        refine gf_X0_27 rfl dX0_giveOneMore_34 ?_
        refine w_iload_n dX0_giveOneMore_37 rfl ?_
        refine w_iald rfl (by omega) dX0_giveOneMore_38 ?_
        refine w_icmp_le (tgt := 44) dX0_giveOneMore_39 (by decide) (hR _ _) (hR _ _) (fun c_39 => ?_) (fun c_39 => ?_)
        · refine w_iinc dX0_giveOneMore_44 (Nat.le_of_ble_eq_true rfl) rfl ?_
          refine w_goto (tgt := 4) dX0_giveOneMore_47 (by decide) ?_
          refine ih (by omega) (by omega) _ ⟨?_, by omega⟩
          rw [bstF_s _ _ _ h0, ← hinv.1]
          first | rw [if_pos (by omega)] | rw [if_neg (by omega)]
        · refine w_iload_n dX0_giveOneMore_42 rfl ?_
          refine w_istore_n dX0_giveOneMore_43 (Nat.le_of_ble_eq_true rfl) ?_
          refine w_iinc dX0_giveOneMore_44 (Nat.le_of_ble_eq_true rfl) rfl ?_
          refine w_goto (tgt := 4) dX0_giveOneMore_47 (by decide) ?_
          refine ih (by omega) (by omega) _ ⟨?_, by omega⟩
          rw [bstF_s _ _ _ h0, ← hinv.1]
          first | rw [if_pos (by omega)] | rw [if_neg (by omega)]

def shI (grp wid : Int → Int) (i g G all : Int) (f : Int → Int) : Int → Int := fun b => if 0 ≤ b ∧ b < i ∧ grp b = g then G * wid b / all else f b
def shL (grp wid : Int → Int) (i g G all : Int) (f : Int → Int) : Int → Int := fun b => if 0 ≤ b ∧ b < i ∧ grp b = g then G * wid b % all else f b
/-- one more to the first of those that lost most -/
def gvS (grp : Int → Int) (g n : Int) (p : (Int → Int) × (Int → Int)) : (Int → Int) × (Int → Int) := (upF p.1 (bstF grp p.2 g n) (p.1 (bstF grp p.2 g n) + 1), upF p.2 (bstF grp p.2 g n) (-1))
def gvN (grp : Int → Int) (g n : Int) (p : (Int → Int) × (Int → Int)) : Nat → (Int → Int) × (Int → Int)
  | 0 => p
  | k + 1 => gvS grp g n (gvN grp g n p k)
theorem shI_s (grp wid : Int → Int) (g G all : Int) (f : Int → Int) {i : Int} (h0 : 0 ≤ i) : shI grp wid (i + 1) g G all f = if grp i = g then upF (shI grp wid i g G all f) i (G * wid i / all) else shI grp wid i g G all f := by
  funext b
  by_cases q : grp i = g
  · rw [if_pos q]
    unfold shI upF
    by_cases e : b = i
    · subst e; rw [if_pos (by omega), if_pos rfl]
    · rw [if_neg e]
      dsimp only
      by_cases e2 : 0 ≤ b ∧ b < i ∧ grp b = g
      · rw [if_pos e2, if_pos (by omega)]
      · rw [if_neg e2, if_neg (by omega)]
  · rw [if_neg q]
    unfold shI
    by_cases e2 : 0 ≤ b ∧ b < i ∧ grp b = g
    · rw [if_pos e2, if_pos (by omega)]
    · rw [if_neg e2, if_neg (by
        intro h
        by_cases e : b = i
        · subst e; exact q h.2.2
        · exact e2 ⟨h.1, by omega, h.2.2⟩)]
theorem shL_s (grp wid : Int → Int) (g G all : Int) (f : Int → Int) {i : Int} (h0 : 0 ≤ i) : shL grp wid (i + 1) g G all f = if grp i = g then upF (shL grp wid i g G all f) i (G * wid i % all) else shL grp wid i g G all f := by
  funext b
  by_cases q : grp i = g
  · rw [if_pos q]
    unfold shL upF
    by_cases e : b = i
    · subst e; rw [if_pos (by omega), if_pos rfl]
    · rw [if_neg e]
      dsimp only
      by_cases e2 : 0 ≤ b ∧ b < i ∧ grp b = g
      · rw [if_pos e2, if_pos (by omega)]
      · rw [if_neg e2, if_neg (by omega)]
  · rw [if_neg q]
    unfold shL
    by_cases e2 : 0 ≤ b ∧ b < i ∧ grp b = g
    · rw [if_pos e2, if_pos (by omega)]
    · rw [if_neg e2, if_neg (by
        intro h
        by_cases e : b = i
        · subst e; exact q h.2.2
        · exact e2 ⟨h.1, by omega, h.2.2⟩)]
theorem shI_0 (grp wid : Int → Int) (g G all : Int) (f : Int → Int) : shI grp wid 0 g G all f = f := by
  funext b
  unfold shI
  rw [if_neg (by omega)]
theorem shL_0 (grp wid : Int → Int) (g G all : Int) (f : Int → Int) : shL grp wid 0 g G all f = f := by
  funext b
  unfold shL
  rw [if_neg (by omega)]
theorem sumW_s (row amt : Int → Int) (v : Int) {i : Int} (h : 0 ≤ i) : sumW row amt v (i + 1) = if row i = v then sumW row amt v i + amt i else sumW row amt v i := foI_s _ _ h
theorem sumW_0 (row amt : Int → Int) (v : Int) : sumW row amt v 0 = 0 := rfl
/-- what is left when all parts are rounded down -/
def lftF (grp wid : Int → Int) (n g G : Int) : Int := G - sumW grp (fun b => G * wid b / sumW grp wid g n) g n
/-- bounds of the sums -/
theorem sumW_bd (row amt : Int → Int) (v n lo hi : Int) (hlo : lo ≤ 0) (hhi : 0 ≤ hi) (h : ∀ b, 0 ≤ b → b < n → row b = v → lo ≤ amt b ∧ amt b ≤ hi) : ∀ i, 0 ≤ i → i ≤ n → lo * i ≤ sumW row amt v i ∧ sumW row amt v i ≤ hi * i := by
  intro i h0 hi1
  have key : ∀ k : Nat, (k : Int) ≤ n → lo * k ≤ sumW row amt v k ∧ sumW row amt v k ≤ hi * k := by
    intro k
    induction k with
    | zero => intro _; rw [show ((0 : Nat) : Int) = 0 from rfl, sumW_0]; omega
    | succ k ih =>
      intro hk
      have ih := ih (by omega)
      have e : (((k + 1 : Nat)) : Int) = (k : Int) + 1 := by omega
      rw [e, sumW_s _ _ _ (by omega), Int.mul_add, Int.mul_add]
      split
      · rename_i hv
        have := h k (by omega) (by omega) hv
        omega
      · omega
  have := key i.toNat (by omega)
  rwa [show ((i.toNat : Nat) : Int) = i by omega] at this
theorem lft_key (grp wid : Int → Int) (g G all n : Int) (ha : 0 < all) : ∀ k : Nat, all * sumW grp (fun b => G * wid b / all) g k + sumW grp (fun b => G * wid b % all) g k = G * sumW grp wid g k := by
  intro k
  induction k with
  | zero => simp [sumW_0]
  | succ k ih =>
    have e : (((k + 1 : Nat)) : Int) = (k : Int) + 1 := by omega
    rw [e, sumW_s _ _ _ (by omega), sumW_s _ _ _ (by omega), sumW_s _ _ _ (by omega)]
    split
    · have := Int.mul_ediv_add_emod (G * wid k) all
      rw [Int.mul_add, Int.mul_add, ← ih]
      omega
    · exact ih
theorem lft_bd (grp wid : Int → Int) (n g G : Int) (h0 : 0 ≤ n) (ha : 0 < sumW grp wid g n) : 0 ≤ lftF grp wid n g G ∧ lftF grp wid n g G ≤ n := by
  have k1 := lft_key grp wid g G (sumW grp wid g n) n ha n.toNat
  rw [show ((n.toNat : Nat) : Int) = n by omega] at k1
  generalize hA : sumW grp wid g n = all at ha k1
  have k2 := sumW_bd grp (fun b => G * wid b % all) g n 0 all (by omega) (by omega) (fun b _ _ _ => ⟨Int.emod_nonneg _ (by omega), Int.le_of_lt (Int.emod_lt_of_pos _ ha)⟩) n h0 (by omega)
  unfold lftF
  rw [hA]
  generalize sumW grp (fun b => G * wid b / all) g n = S at k1 ⊢
  generalize sumW grp (fun b => G * wid b % all) g n = T at k1 k2
  have e : all * (G - S) = T := by rw [Int.mul_sub, Int.mul_comm all G]; omega
  constructor
  · by_cases q : 0 ≤ G - S
    · exact q
    · have : all * (G - S) < 0 := Int.mul_neg_of_pos_of_neg ha (by omega)
      omega
  · by_cases q : G - S ≤ n
    · exact q
    · have : all * n < all * (G - S) := Int.mul_lt_mul_of_pos_left (by omega) ha
      omega
/-- the gifts keep within bounds -/
theorem gvN_bd (grp : Int → Int) (g n : Int) (p : (Int → Int) × (Int → Int)) (P : Int → Prop) (lo hi : Int) (h : ∀ b, P b → lo ≤ p.1 b ∧ p.1 b ≤ hi) : ∀ (k : Nat) (b : Int), P b → lo ≤ (gvN grp g n p k).1 b ∧ (gvN grp g n p k).1 b ≤ hi + k := by
  intro k
  induction k with
  | zero => intro b hP; have := h b hP; show lo ≤ p.1 b ∧ p.1 b ≤ hi + ((0 : Nat) : Int); omega
  | succ k ih =>
    intro b hP
    show lo ≤ upF _ _ _ b ∧ upF _ _ _ b ≤ _
    have h1 := ih b hP
    unfold upF
    by_cases e : b = bstF grp (gvN grp g n p k).2 g n
    · rw [if_pos e, ← e]; omega
    · rw [if_neg e]; omega
theorem bst_none (grp los : Int → Int) (g : Int) : ∀ k : Nat, bstF grp los g k = -1 → ∀ b, 0 ≤ b → b < k → grp b ≠ g := by
  intro k
  induction k with
  | zero => intro _ b h1 h2; omega
  | succ k ih =>
    intro h b h1 h2
    have e : (((k + 1 : Nat)) : Int) = (k : Int) + 1 := by omega
    rw [e, bstF_s _ _ _ (by omega)] at h
    by_cases q : grp k = g ∧ (bstF grp los g k = -1 ∨ los (bstF grp los g k) < los k)
    · rw [if_pos q] at h; omega
    · rw [if_neg q] at h
      by_cases e2 : b = k
      · subst e2
        intro q2
        exact q ⟨q2, Or.inl h⟩
      · exact ih h b h1 (by omega)
theorem sumW_none (row amt : Int → Int) (v : Int) : ∀ k : Nat, (∀ b, 0 ≤ b → b < k → row b ≠ v) → sumW row amt v k = 0 := by
  intro k
  induction k with
  | zero => intro _; rfl
  | succ k ih =>
    intro h
    have e : (((k + 1 : Nat)) : Int) = (k : Int) + 1 := by omega
    rw [e, sumW_s _ _ _ (by omega), if_neg (h k (by omega) (by omega))]
    exact ih (fun b h1 h2 => h b h1 (by omega))
theorem bst_some {grp los wid : Int → Int} {g n : Int} (h0 : 0 ≤ n) (h : 0 < sumW grp wid g n) : bstF grp los g n ≠ -1 := by
  intro q
  have e : ((n.toNat : Nat) : Int) = n := by omega
  rw [← e] at q h
  have := sumW_none grp wid g n.toNat (bst_none grp los g n.toNat q)
  omega

theorem sumW_in (row amt : Int → Int) (v n : Int) (h0 : 0 ≤ n) (h : ∀ b, 0 ≤ b → b < n → row b = v → 0 ≤ amt b) (b : Int) (hb : 0 ≤ b) (hbn : b < n) (hv : row b = v) : amt b ≤ sumW row amt v n := by
  have mono : ∀ k : Nat, b + 1 + k ≤ n → amt b ≤ sumW row amt v (b + 1 + k) := by
    intro k
    induction k with
    | zero =>
      intro _
      have := sumW_bd row amt v b 0 2147483648 (by omega) (by omega)
      rw [show b + 1 + ((0 : Nat) : Int) = b + 1 by omega, sumW_s _ _ _ hb, if_pos hv]
      have nn : ∀ j : Nat, (j : Int) ≤ n → 0 ≤ sumW row amt v j := by
        intro j
        induction j with
        | zero => intro _; exact Int.le_refl 0
        | succ j ih =>
          intro hj
          have e : (((j + 1 : Nat)) : Int) = (j : Int) + 1 := by omega
          rw [e, sumW_s _ _ _ (by omega)]
          have := ih (by omega)
          split
          · rename_i hq
            have := h j (by omega) (by omega) hq
            omega
          · exact this
      have := nn b.toNat (by omega)
      rw [show ((b.toNat : Nat) : Int) = b by omega] at this
      omega
    | succ k ih =>
      intro hk
      have ih := ih (by omega)
      rw [show b + 1 + ((k + 1 : Nat) : Int) = (b + 1 + k) + 1 by omega, sumW_s _ _ _ (by omega)]
      split
      · rename_i hq
        have := h (b + 1 + k) (by omega) (by omega) hq
        omega
      · exact ih
  have := mono (n - b - 1).toNat (by omega)
  rwa [show b + 1 + (((n - b - 1).toNat : Nat) : Int) = n by omega] at this

set_option maxRecDepth 100000 in
set_option maxHeartbeats 4000000 in
theorem ct_X0_shareGrowth (σ : St) (g G : Int) (hb : 0 ≤ σ 0 6 ∧ σ 0 6 ≤ 60) (hw : ∀ b, 0 ≤ b → b < σ 0 6 → 1 ≤ σ 9 b ∧ σ 9 b ≤ 40) (hG : 0 ≤ G ∧ G ≤ 99) (hg : InR g) : Wp mX0_shareGrowth 2 (fun z τ => ((sumW (σ 8) (σ 9) g (σ 0 6)) ≤ 0 → τ = σ) ∧ (0 < (sumW (σ 8) (σ 9) g (σ 0 6)) → τ = putA (putA σ 10 (gvN (σ 8) g (σ 0 6) (shI (σ 8) (σ 9) (σ 0 6) g G (sumW (σ 8) (σ 9) g (σ 0 6)) (σ 10), shL (σ 8) (σ 9) (σ 0 6) g G (sumW (σ 8) (σ 9) g (σ 0 6)) (σ 13)) (lftF (σ 8) (σ 9) (σ 0 6) g G).toNat).1) 13 (gvN (σ 8) g (σ 0 6) (shI (σ 8) (σ 9) (σ 0 6) g G (sumW (σ 8) (σ 9) g (σ 0 6)) (σ 10), shL (σ 8) (σ 9) (σ 0 6) g G (sumW (σ 8) (σ 9) g (σ 0 6)) (σ 13)) (lftF (σ 8) (σ 9) (σ 0 6) g G).toNat).2)) 0 [some (.inr 0), some (.inl g), some (.inl G), none, none, none] [] σ := by
  refine Wp.rg (fun hR => ?_)
  have hal := sumW_bd (σ 8) (σ 9) g (σ 0 6) 0 40 (by omega) (by omega) (fun b h1 h2 _ => by have := hw b h1 h2; omega) (σ 0 6) hb.1 (by omega)
  have hwa : ∀ b, 0 ≤ b → b < σ 0 6 → σ 8 b = g → 0 ≤ G * σ 9 b ∧ G * σ 9 b ≤ 3960 := fun b h1 h2 _ => by
    have h3 := hw b h1 h2
    have h4 : G * σ 9 b ≤ 99 * σ 9 b := Int.mul_le_mul_of_nonneg_right (by omega) (by omega)
    have h5 : 0 ≤ G * σ 9 b := Int.mul_nonneg (by omega) (by omega)
    omega
  refine w_aload_n dX0_shareGrowth_0 rfl ?_
  refine w_iload_n dX0_shareGrowth_1 rfl ?_
  refine cv_X0_50 rfl dX0_shareGrowth_2 (Nat.le_of_ble_eq_true rfl) (Nat.le_of_ble_eq_true rfl) (Wp.mono (ct_X0_widthsIn σ g hb hg) (fun z_ τ_ hq_ => ?_))
  obtain ⟨hz_, hs_⟩ := hq_
  subst z_
  subst τ_
  refine w_istore_n dX0_shareGrowth_5 (Nat.le_of_ble_eq_true rfl) ?_
  refine w_iload_n dX0_shareGrowth_6 rfl ?_
  refine w_if_gt (tgt := 11) dX0_shareGrowth_7 (by decide) (by omega) (fun c_7 => ?_) (fun c_7 => ?_)
  · refine w_iload_n dX0_shareGrowth_11 rfl ?_
    refine w_istore dX0_shareGrowth_12 (Nat.le_of_ble_eq_true rfl) ?_
    refine w_iconst dX0_shareGrowth_14 ?_
    refine w_istore dX0_shareGrowth_15 (Nat.le_of_ble_eq_true rfl) ?_
    refine up_to (σ 0 6) (fun i => 0 ≤ i → ∀ (τ : St) (a : Int), (τ = putA (putA σ 10 (shI (σ 8) (σ 9) (i) g G (sumW (σ 8) (σ 9) g (σ 0 6)) (σ 10))) 13 (shL (σ 8) (σ 9) (i) g G (sumW (σ 8) (σ 9) g (σ 0 6)) (σ 13)) ∧ a = G - sumW (σ 8) (fun b => G * σ 9 b / (sumW (σ 8) (σ 9) g (σ 0 6))) g i) → Wp mX0_shareGrowth 2 (fun z τ => ((sumW (σ 8) (σ 9) g (σ 0 6)) ≤ 0 → τ = σ) ∧ (0 < (sumW (σ 8) (σ 9) g (σ 0 6)) → τ = putA (putA σ 10 (gvN (σ 8) g (σ 0 6) (shI (σ 8) (σ 9) (σ 0 6) g G (sumW (σ 8) (σ 9) g (σ 0 6)) (σ 10), shL (σ 8) (σ 9) (σ 0 6) g G (sumW (σ 8) (σ 9) g (σ 0 6)) (σ 13)) (lftF (σ 8) (σ 9) (σ 0 6) g G).toNat).1) 13 (gvN (σ 8) g (σ 0 6) (shI (σ 8) (σ 9) (σ 0 6) g G (sumW (σ 8) (σ 9) g (σ 0 6)) (σ 10), shL (σ 8) (σ 9) (σ 0 6) g G (sumW (σ 8) (σ 9) g (σ 0 6)) (σ 13)) (lftF (σ 8) (σ 9) (σ 0 6) g G).toNat).2)) 17 [some (.inr 0), some (.inl g), some (.inl G), some (.inl (sumW (σ 8) (σ 9) g (σ 0 6))), some (.inl a), some (.inl i)] [] τ) (fun i hi ih h0 τ a hinv => ?_) (0) (by omega) (by omega) σ G ⟨by rw [shI_0, shL_0, putA_self, putA_self], by rw [sumW_0]; omega⟩
    obtain ⟨hτ, ha⟩ := hinv
    have e0 : τ 0 6 = σ 0 6 := by rw [hτ]; simp [putA_eq]
    have e8 : τ 8 = σ 8 := by rw [hτ, putA_ne (by decide), putA_ne (by decide)]
    have e9 : τ 9 = σ 9 := by rw [hτ, putA_ne (by decide), putA_ne (by decide)]
    refine w_iload dX0_shareGrowth_17 rfl ?_
    refine w_aload_n dX0_shareGrowth_19 rfl ?_
    refine gf_X0_30 rfl dX0_shareGrowth_20 ?_
    refine w_icmp_ge (tgt := 91) dX0_shareGrowth_23 (by decide) (by omega) (by rw [e0]; omega) (fun c_23 => ?_) (fun c_23 => ?_)
    · refine w_iconst dX0_shareGrowth_91 ?_
      refine w_istore dX0_shareGrowth_92 (Nat.le_of_ble_eq_true rfl) ?_
      refine up_to (σ 0 6) (fun i => 0 ≤ i → ∀ (τ : St) (a : Int), (∃ k : Nat, τ = putA (putA σ 10 (gvN (σ 8) g (σ 0 6) (shI (σ 8) (σ 9) (σ 0 6) g G (sumW (σ 8) (σ 9) g (σ 0 6)) (σ 10), shL (σ 8) (σ 9) (σ 0 6) g G (sumW (σ 8) (σ 9) g (σ 0 6)) (σ 13)) k).1) 13 (gvN (σ 8) g (σ 0 6) (shI (σ 8) (σ 9) (σ 0 6) g G (sumW (σ 8) (σ 9) g (σ 0 6)) (σ 10), shL (σ 8) (σ 9) (σ 0 6) g G (sumW (σ 8) (σ 9) g (σ 0 6)) (σ 13)) k).2 ∧ a = (lftF (σ 8) (σ 9) (σ 0 6) g G) - k ∧ (k : Int) = i ∧ 0 ≤ a) → Wp mX0_shareGrowth 2 (fun z τ => ((sumW (σ 8) (σ 9) g (σ 0 6)) ≤ 0 → τ = σ) ∧ (0 < (sumW (σ 8) (σ 9) g (σ 0 6)) → τ = putA (putA σ 10 (gvN (σ 8) g (σ 0 6) (shI (σ 8) (σ 9) (σ 0 6) g G (sumW (σ 8) (σ 9) g (σ 0 6)) (σ 10), shL (σ 8) (σ 9) (σ 0 6) g G (sumW (σ 8) (σ 9) g (σ 0 6)) (σ 13)) (lftF (σ 8) (σ 9) (σ 0 6) g G).toNat).1) 13 (gvN (σ 8) g (σ 0 6) (shI (σ 8) (σ 9) (σ 0 6) g G (sumW (σ 8) (σ 9) g (σ 0 6)) (σ 10), shL (σ 8) (σ 9) (σ 0 6) g G (sumW (σ 8) (σ 9) g (σ 0 6)) (σ 13)) (lftF (σ 8) (σ 9) (σ 0 6) g G).toNat).2)) 94 [some (.inr 0), some (.inl g), some (.inl G), some (.inl (sumW (σ 8) (σ 9) g (σ 0 6))), some (.inl a), some (.inl i)] [] τ) (fun i hi ih h0 τ a hinv => ?_) (0) (by omega) (by omega) _ _ ⟨0, by rw [hτ, show i = σ 0 6 by omega]; rfl, by rw [ha, show i = σ 0 6 by omega]; unfold lftF; omega, rfl, by have hl := lft_bd (σ 8) (σ 9) (σ 0 6) g G hb.1 c_7; rw [ha, show i = σ 0 6 by omega]; exact hl.1⟩
      obtain ⟨k, hτ, ha, hk, ha0⟩ := hinv
      have hl := lft_bd (σ 8) (σ 9) (σ 0 6) g G hb.1 c_7
      have f0 : τ 0 6 = σ 0 6 := by rw [hτ]; simp [putA_eq]
      have f8 : τ 8 = σ 8 := by rw [hτ, putA_ne (by decide), putA_ne (by decide)]
      have f10 : τ 10 = (gvN (σ 8) g (σ 0 6) (shI (σ 8) (σ 9) (σ 0 6) g G (sumW (σ 8) (σ 9) g (σ 0 6)) (σ 10), shL (σ 8) (σ 9) (σ 0 6) g G (sumW (σ 8) (σ 9) g (σ 0 6)) (σ 13)) k).1 := by rw [hτ, putA_ne (by decide)]; funext b; simp [putA_eq]
      have f13 : τ 13 = (gvN (σ 8) g (σ 0 6) (shI (σ 8) (σ 9) (σ 0 6) g G (sumW (σ 8) (σ 9) g (σ 0 6)) (σ 10), shL (σ 8) (σ 9) (σ 0 6) g G (sumW (σ 8) (σ 9) g (σ 0 6)) (σ 13)) k).2 := by rw [hτ]; funext b; simp [putA_eq]
      refine w_iload dX0_shareGrowth_94 rfl ?_
      refine w_aload_n dX0_shareGrowth_96 rfl ?_
      refine gf_X0_30 rfl dX0_shareGrowth_97 ?_
      refine w_icmp_ge (tgt := 124) dX0_shareGrowth_100 (by decide) (by omega) (by rw [f0]; omega) (fun c_100 => ?_) (fun c_100 => ?_)
      · refine w_ret dX0_shareGrowth_124 rfl ?_
        refine ⟨fun q => absurd c_7 (by omega), fun _ => ?_⟩
        have hl := lft_bd (σ 8) (σ 9) (σ 0 6) g G hb.1 c_7
        rw [hτ, show (lftF (σ 8) (σ 9) (σ 0 6) g G).toNat = k by omega]
      · refine w_iload dX0_shareGrowth_103 rfl ?_
        refine w_if_le (tgt := 124) dX0_shareGrowth_105 (by decide) (by omega) (fun c_105 => ?_) (fun c_105 => ?_)
        · refine w_ret dX0_shareGrowth_124 rfl ?_
          refine ⟨fun q => absurd c_7 (by omega), fun _ => ?_⟩
          have hl := lft_bd (σ 8) (σ 9) (σ 0 6) g G hb.1 c_7
          rw [hτ, show (lftF (σ 8) (σ 9) (σ 0 6) g G).toNat = k by omega]
        · have hbs : bstF (τ 8) (τ 13) g (τ 0 6) ≠ -1 := by rw [f0, f8, f13]; exact bst_some hb.1 c_7
          have hnd : ∀ b, 0 ≤ b → b < τ 0 6 → τ 8 b = g → 0 ≤ τ 10 b ∧ τ 10 b ≤ 1000 := by
            intro b h1 h2 h3
            rw [f0] at h2
            rw [f8] at h3
            rw [f10]
            have hl := lft_bd (σ 8) (σ 9) (σ 0 6) g G hb.1 c_7
            have := gvN_bd (σ 8) g (σ 0 6) (shI (σ 8) (σ 9) (σ 0 6) g G (sumW (σ 8) (σ 9) g (σ 0 6)) (σ 10), shL (σ 8) (σ 9) (σ 0 6) g G (sumW (σ 8) (σ 9) g (σ 0 6)) (σ 13)) (fun b => 0 ≤ b ∧ b < σ 0 6 ∧ σ 8 b = g) 0 99 (fun b hb2 => by
              unfold shI
              dsimp only
              rw [if_pos hb2]
              have h4 := hwa b hb2.1 hb2.2.1 hb2.2.2
              have h5 := Int.ediv_nonneg h4.1 (Int.le_of_lt c_7)
              have h6 := sumW_in (σ 8) (σ 9) g (σ 0 6) hb.1 (fun b q1 q2 _ => by have := hw b q1 q2; omega) b hb2.1 hb2.2.1 hb2.2.2
              have h7 : G * σ 9 b ≤ 99 * (sumW (σ 8) (σ 9) g (σ 0 6)) := Int.le_trans (Int.mul_le_mul_of_nonneg_right hG.2 (by have := hw b hb2.1 hb2.2.1; omega)) (Int.mul_le_mul_of_nonneg_left h6 (by omega))
              have h8 := Int.ediv_le_of_le_mul c_7 h7
              omega) k b ⟨h1, h2, h3⟩
            omega
          refine w_iload dX0_shareGrowth_108 rfl ?_
          refine w_aload_n dX0_shareGrowth_110 rfl ?_
          refine w_iload_n dX0_shareGrowth_111 rfl ?_
          refine cv_X0_54 rfl dX0_shareGrowth_112 (Nat.le_of_ble_eq_true rfl) (Nat.le_of_ble_eq_true rfl) (Wp.mono (ct_X0_giveOneMore _ g (by rw [f0]; exact hb) hg hnd) (fun z_ τ_ hq_ => ?_))
          have hz1 := hq_.2 hbs
          obtain ⟨hz_, hs_⟩ := hz1
          subst z_
          subst τ_
          refine w_isub dX0_shareGrowth_115 ?_
          refine w_istore dX0_shareGrowth_116 (Nat.le_of_ble_eq_true rfl) ?_
          refine w_iinc dX0_shareGrowth_118 (Nat.le_of_ble_eq_true rfl) rfl ?_
          refine w_goto (tgt := 94) dX0_shareGrowth_121 (by decide) ?_
          refine ih (by omega) (by omega) _ _ ⟨k + 1, ?_, ?_, ?_, ?_⟩
          · rw [f0, f8, f10, f13, hτ]
            rw [put_putA_ne _ (by decide), put_putA, put_putA]
            rfl
          · omega
          · omega
          · omega
    · refine w_aload_n dX0_shareGrowth_26 rfl ?_
      refine gf_X0_9 rfl dX0_shareGrowth_27 ?_
      refine w_iload dX0_shareGrowth_30 rfl ?_
      refine w_iald rfl (by omega) dX0_shareGrowth_32 ?_
      refine w_iload_n dX0_shareGrowth_33 rfl ?_
      refine w_icmp_ne (tgt := 85) dX0_shareGrowth_34 (by decide) (by rw [e8]; exact hR _ _) hg (fun c_34 => ?_) (fun c_34 => ?_)
      · refine w_iinc dX0_shareGrowth_85 (Nat.le_of_ble_eq_true rfl) rfl ?_
        refine w_goto (tgt := 17) dX0_shareGrowth_88 (by decide) ?_
        refine ih (by omega) (by omega) _ _ ⟨?_, ?_⟩
        · rw [shI_s _ _ _ _ _ _ h0, shL_s _ _ _ _ _ _ h0, if_neg (by rw [← e8]; exact c_34), if_neg (by rw [← e8]; exact c_34)]
          exact hτ
        · rw [sumW_s _ _ _ h0, if_neg (by rw [← e8]; exact c_34), ha]
      · have hwi := hwa i (by omega) (by omega) (by rw [← e8]; exact c_34)
        have hd1 := Int.ediv_nonneg hwi.1 (Int.le_of_lt c_7)
        have hd2 := Int.ediv_le_self (sumW (σ 8) (σ 9) g (σ 0 6)) hwi.1
        have hm1 := Int.emod_nonneg (G * σ 9 i) (Int.ne_of_gt c_7)
        have hm2 := Int.emod_lt_of_pos (G * σ 9 i) c_7
        refine w_aload_n dX0_shareGrowth_37 rfl ?_
        refine gf_X0_18 rfl dX0_shareGrowth_38 ?_
        refine w_iload dX0_shareGrowth_41 rfl ?_
        refine w_iload_n dX0_shareGrowth_43 rfl ?_
        refine w_aload_n dX0_shareGrowth_44 rfl ?_
        refine gf_X0_15 rfl dX0_shareGrowth_45 ?_
        refine w_iload dX0_shareGrowth_48 rfl ?_
        refine w_iald rfl (by omega) dX0_shareGrowth_50 ?_
        refine w_imul dX0_shareGrowth_51 ?_
        refine w_iload_n dX0_shareGrowth_52 rfl ?_
        refine w_idivN dX0_shareGrowth_53 (by rw [e9]; omega) (by rw [e9]; omega) (by omega) c_7 ?_
        refine w_iast rfl (by omega) (by rw [e9]; omega) dX0_shareGrowth_54 ?_
        refine w_aload_n dX0_shareGrowth_55 rfl ?_
        refine gf_X0_27 rfl dX0_shareGrowth_56 ?_
        refine w_iload dX0_shareGrowth_59 rfl ?_
        refine w_iload_n dX0_shareGrowth_61 rfl ?_
        refine w_aload_n dX0_shareGrowth_62 rfl ?_
        refine gf_X0_15 rfl dX0_shareGrowth_63 ?_
        refine w_iload dX0_shareGrowth_66 rfl ?_
        refine w_iald rfl (by omega) dX0_shareGrowth_68 ?_
        refine w_imul dX0_shareGrowth_69 ?_
        refine w_iload_n dX0_shareGrowth_70 rfl ?_
        refine w_iremN dX0_shareGrowth_71 (by rw [put_ne (by decide), e9]; omega) (by rw [put_ne (by decide), e9]; omega) (by omega) c_7 ?_
        refine w_iast rfl (by omega) (by rw [put_ne (by decide), e9]; omega) dX0_shareGrowth_72 ?_
        refine w_iload dX0_shareGrowth_73 rfl ?_
        refine w_aload_n dX0_shareGrowth_75 rfl ?_
        refine gf_X0_18 rfl dX0_shareGrowth_76 ?_
        refine w_iload dX0_shareGrowth_79 rfl ?_
        refine w_iald rfl (by omega) dX0_shareGrowth_81 ?_
        refine w_isub dX0_shareGrowth_82 ?_
        refine w_istore dX0_shareGrowth_83 (Nat.le_of_ble_eq_true rfl) ?_
        refine w_iinc dX0_shareGrowth_85 (Nat.le_of_ble_eq_true rfl) rfl ?_
        refine w_goto (tgt := 17) dX0_shareGrowth_88 (by decide) ?_
        refine ih (by omega) (by omega) _ _ ⟨?_, ?_⟩
        · rw [shI_s _ _ _ _ _ _ h0, shL_s _ _ _ _ _ _ h0, if_pos (by rw [← e8]; exact c_34), if_pos (by rw [← e8]; exact c_34)]
          simp only [put_ne (show (9 : Nat) ≠ 10 by decide), e9]
          rw [hτ, put_putA_ne _ (by decide), put_putA, put_putA]
        · rw [sumW_s _ _ _ h0, if_pos (by rw [← e8]; exact c_34), ha]
          simp only [put_eq]
          simp [e9]
          omega
  · refine w_ret dX0_shareGrowth_10 rfl ?_
    exact ⟨fun _ => rfl, fun q => absurd q (by omega)⟩
end
section
/-! cuts: lengths, kinds, widths, spans, where books stand -/
abbrev CP : Type := (Int → Int) × (Int → Int) × (Int → Int) × (Int → Int) × (Int → Int)
def rmP (c : CP) (s : Int) : Int := if c.2.1 s = 2 then 0 else c.1 s
def pmP (c : CP) (s b : Int) : Int := if c.2.2.2.2 b = s ∨ c.2.2.2.2 b = -1 then 0 else 100 * c.2.2.1 b + 1
def fitP (c : CP) (n s f m : Int) : Prop := 0 ≤ m ∧ f + m ≤ n ∧ sumF c.2.2.2.1 f m ≤ rmP c s
def owP (c : CP) (s f m : Int) : Int := (if 0 < m ∧ c.2.1 s = 1 then 1000000 else 0) + sumF (pmP c s) f m
def IsMn (c : CP) (n : Int) (row : Int → Int) (s f v : Int) : Prop := (∀ m, fitP c n s f m → v ≤ owP c s f m + row (f + m)) ∧ ∃ m, fitP c n s f m ∧ v = owP c s f m + row (f + m)
def IsMost (c : CP) (n : Int) (row : Int → Int) (s f v m : Int) : Prop := fitP c n s f m ∧ v = owP c s f m + row (f + m) ∧ ∀ m2, m < m2 → fitP c n s f m2 → v ≠ owP c s f m2 + row (f + m2)
/-- bounds of what cuts are made from -/
def CPok (c : CP) (ns n : Int) : Prop := (0 ≤ ns ∧ ns ≤ 12) ∧ (0 ≤ n ∧ n ≤ 60) ∧ (∀ s, 0 ≤ s → s < ns → 0 ≤ c.1 s ∧ c.1 s ≤ 200 ∧ 0 ≤ c.2.1 s ∧ c.2.1 s ≤ 2) ∧ ∀ b, 0 ≤ b → b < n → 1 ≤ c.2.2.1 b ∧ c.2.2.1 b ≤ 40 ∧ 1 ≤ c.2.2.2.1 b ∧ c.2.2.2.1 b ≤ 1000000 ∧ -1 ≤ c.2.2.2.2 b ∧ c.2.2.2.2 b ≤ 12
theorem sumF_mono {w : Int → Int} {f n : Int} (h : ∀ k, f ≤ k → k < n → 0 ≤ w k) {a b : Int} (h0 : 0 ≤ a) (hab : a ≤ b) (hb : f + b ≤ n) : sumF w f a ≤ sumF w f b := by
  have key : ∀ k : Nat, f + (a + k) ≤ n → sumF w f a ≤ sumF w f (a + k) := by
    intro k
    induction k with
    | zero => intro _; rw [show a + ((0 : Nat) : Int) = a by omega]; exact Int.le_refl _
    | succ k ih =>
      intro hk
      rw [show a + ((k + 1 : Nat) : Int) = (a + k) + 1 by omega, sumF_s _ _ (by omega)]
      have h1 := ih (by omega)
      have h2 := h (f + (a + k)) (by omega) (by omega)
      omega
  have := key (b - a).toNat (by omega)
  rwa [show a + (((b - a).toNat : Nat) : Int) = b by omega] at this
theorem sumF_nn {w : Int → Int} {f n : Int} (h : ∀ k, f ≤ k → k < n → 0 ≤ w k) {a : Int} (h0 : 0 ≤ a) (hb : f + a ≤ n) : 0 ≤ sumF w f a := by
  have := sumF_mono h (Int.le_refl 0) h0 hb
  rwa [sumF_0] at this
theorem sumF_le {w : Int → Int} {f n hi : Int} (h : ∀ k, f ≤ k → k < n → w k ≤ hi) {a : Int} (h0 : 0 ≤ a) (hb : f + a ≤ n) : sumF w f a ≤ hi * a := by
  have key : ∀ k : Nat, f + k ≤ n → sumF w f k ≤ hi * k := by
    intro k
    induction k with
    | zero => intro _; rw [show ((0 : Nat) : Int) = 0 from rfl, sumF_0]; omega
    | succ k ih =>
      intro hk
      rw [show ((k + 1 : Nat) : Int) = (k : Int) + 1 by omega, sumF_s _ _ (by omega), Int.mul_add]
      have h1 := ih (by omega)
      have h2 := h (f + k) (by omega) (by omega)
      omega
  have := key a.toNat (by omega)
  rwa [show ((a.toNat : Nat) : Int) = a by omega] at this
theorem sumF_congr {w u : Int → Int} {f n : Int} (h : ∀ k, f ≤ k → k < n → w k = u k) {a : Int} (hb : f + a ≤ n) : sumF w f a = sumF u f a := by
  unfold sumF
  apply foI_congr
  intro i x h0 h1
  rw [h (f + i) (by omega) (by omega)]
theorem IsDay.uniq {w : Int → Int} {f e lim z y : Int} (hw : ∀ k, f ≤ k → k < e → 0 ≤ w k) (h : IsDay w f e lim z) (k : IsDay w f e lim y) : z = y := by
  obtain ⟨h1, h2, h3, h4⟩ := h
  obtain ⟨k1, k2, k3, k4⟩ := k
  rcases Int.lt_trichotomy z y with q | q | q
  · have := sumF_mono hw (a := z + 1) (b := y) (by omega) (by omega) k2
    omega
  · exact q
  · have := sumF_mono hw (a := y + 1) (b := z) (by omega) (by omega) h2
    omega
theorem IsDay.congr {w u : Int → Int} {f e lim z : Int} (h : IsDay w f e lim z) (hc : ∀ k, f ≤ k → k < e → w k = u k) : IsDay u f e lim z := by
  obtain ⟨h1, h2, h3, h4⟩ := h
  refine ⟨h1, h2, by rw [← sumF_congr hc h2]; exact h3, ?_⟩
  rcases h4 with h4 | h4
  · exact Or.inl h4
  · by_cases q : f + z = e
    · exact Or.inl q
    · exact Or.inr (by rw [← sumF_congr hc (by omega)]; exact h4)
theorem pmP_bd {c : CP} {ns n : Int} (hc : CPok c ns n) (s : Int) {b : Int} (h0 : 0 ≤ b) (h1 : b < n) : 0 ≤ pmP c s b ∧ pmP c s b ≤ 4001 := by
  have := hc.2.2.2 b h0 h1
  unfold pmP
  split <;> omega
theorem owP_bd {c : CP} {ns n : Int} (hc : CPok c ns n) (s : Int) {f m : Int} (hf : 0 ≤ f) (hm : 0 ≤ m) (h1 : f + m ≤ n) : 0 ≤ owP c s f m ∧ owP c s f m ≤ 1300000 := by
  have h2 := sumF_nn (w := pmP c s) (f := f) (n := n) (fun k k1 k2 => (pmP_bd hc s (by omega) k2).1) hm h1
  have h3 := sumF_le (w := pmP c s) (f := f) (n := n) (hi := 4001) (fun k k1 k2 => (pmP_bd hc s (by omega) k2).2) hm h1
  have h4 := hc.2.1
  unfold owP
  split <;> omega
theorem owP_0 (c : CP) (s f : Int) : owP c s f 0 = 0 := by
  unfold owP
  rw [if_neg (by omega), sumF_0]
  rfl
theorem fitP_0 {c : CP} {ns n : Int} (hc : CPok c ns n) {s f : Int} (hs : 0 ≤ s ∧ s < ns) (hf : f ≤ n) : fitP c n s f 0 := by
  refine ⟨Int.le_refl 0, by omega, ?_⟩
  rw [sumF_0]
  have := hc.2.2.1 s hs.1 hs.2
  unfold rmP
  split <;> omega
theorem IsMn.uniq {c : CP} {n : Int} {row : Int → Int} {s f v u : Int} (h : IsMn c n row s f v) (k : IsMn c n row s f u) : v = u := by
  obtain ⟨h1, m, h2, h3⟩ := h
  obtain ⟨k1, y, k2, k3⟩ := k
  have a := h1 y k2
  have b := k1 m h2
  omega
theorem IsMn.congr {c : CP} {n : Int} {row row2 : Int → Int} {s f v : Int} (h : IsMn c n row s f v) (hf : 0 ≤ f) (e : ∀ b, f ≤ b → b ≤ n → row b = row2 b) : IsMn c n row2 s f v := by
  obtain ⟨h1, m, h2, h3⟩ := h
  refine ⟨fun y hy => ?_, m, h2, ?_⟩
  · have := h1 y hy
    have e2 := e (f + y) (by have := hy.1; omega) hy.2.1
    omega
  · have e2 := e (f + m) (by have := h2.1; omega) h2.2.1
    omega
theorem IsMost.uniq {c : CP} {n : Int} {row : Int → Int} {s f v m y : Int} (h : IsMost c n row s f v m) (k : IsMost c n row s f v y) : m = y := by
  rcases Int.lt_trichotomy m y with q | q | q
  · exact absurd k.2.1 (h.2.2 y q k.1)
  · exact q
  · exact absurd h.2.1 (k.2.2 m q h.1)
theorem IsMost.congr {c : CP} {n : Int} {row row2 : Int → Int} {s f v m : Int} (h : IsMost c n row s f v m) (e : ∀ b, f ≤ b → b ≤ n → row b = row2 b) : IsMost c n row2 s f v m := by
  refine ⟨h.1, ?_, fun y hy hf => ?_⟩
  · rw [← e (f + m) (by have := h.1.1; omega) h.1.2.1]; exact h.2.1
  · rw [← e (f + y) (by have := hf.1; omega) hf.2.1]; exact h.2.2 y hy hf
/-- the table: the least price of all books from one on, over the shelves from one on -/
def TblL (c : CP) (ns n : Int) (L : Int → Int → Int) : Prop := (∀ b, 0 ≤ b → b ≤ n → L ns b = if b = n then 0 else 1000000000) ∧ ∀ s, 0 ≤ s → s < ns → ∀ f, 0 ≤ f → f ≤ n → IsMn c n (L (s + 1)) s f (L s f)
theorem TblL.uniq {c : CP} {ns n : Int} {L K : Int → Int → Int} (h : TblL c ns n L) (k : TblL c ns n K) : ∀ s, 0 ≤ s → s ≤ ns → ∀ f, 0 ≤ f → f ≤ n → L s f = K s f := by
  intro s h0 h1
  refine up_to ns (fun s => 0 ≤ s → ∀ f, 0 ≤ f → f ≤ n → L s f = K s f) (fun s hs ih h0 f hf hn => ?_) s h1 h0
  by_cases q : s = ns
  · subst q
    rw [h.1 f hf hn, k.1 f hf hn]
  · have ih := ih (by omega) (by omega)
    exact IsMn.uniq ((h.2 s h0 (by omega) f hf hn).congr hf (fun b b1 b2 => ih b (by omega) b2)) (k.2 s h0 (by omega) f hf hn)
theorem TblL.bd {c : CP} {ns n : Int} {L : Int → Int → Int} (hc : CPok c ns n) (h : TblL c ns n L) : ∀ s, 0 ≤ s → s ≤ ns → ∀ f, 0 ≤ f → f ≤ n → 0 ≤ L s f ∧ L s f ≤ 1000000000 := by
  intro s h0 h1
  refine up_to ns (fun s => 0 ≤ s → ∀ f, 0 ≤ f → f ≤ n → 0 ≤ L s f ∧ L s f ≤ 1000000000) (fun s hs ih h0 f hf hn => ?_) s h1 h0
  by_cases q : s = ns
  · subst q
    rw [h.1 f hf hn]
    split <;> omega
  · have ih := ih (by omega) (by omega)
    obtain ⟨a1, m, a2, a3⟩ := h.2 s h0 (by omega) f hf hn
    constructor
    · have b1 := owP_bd hc s hf a2.1 a2.2.1
      have b2 := ih (f + m) (by have := a2.1; omega) a2.2.1
      omega
    · have b1 := a1 0 (fitP_0 hc ⟨h0, by omega⟩ hn)
      rw [owP_0, show f + 0 = f by omega] at b1
      have b2 := ih f hf hn
      omega
/-- how many each shelf takes: of the cheapest the greatest -/
def IsCut (c : CP) (ns n : Int) (L : Int → Int → Int) (tk : Int → Int) : Prop := ∀ s, 0 ≤ s → s < ns → IsMost c n (L (s + 1)) s (sumF tk 0 s) (L s (sumF tk 0 s)) (tk s)
theorem pos_s (tk : Int → Int) {s : Int} (h : 0 ≤ s) : sumF tk 0 (s + 1) = sumF tk 0 s + tk s := by rw [sumF_s _ _ h, Int.zero_add]
theorem IsCut.pos {c : CP} {ns n : Int} {L : Int → Int → Int} {tk : Int → Int} (h : IsCut c ns n L tk) (hn : 0 ≤ n) : ∀ s, 0 ≤ s → s ≤ ns → 0 ≤ sumF tk 0 s ∧ sumF tk 0 s ≤ n := by
  intro s h0 h1
  have key : ∀ k : Nat, (k : Int) ≤ ns → 0 ≤ sumF tk 0 k ∧ sumF tk 0 k ≤ n := by
    intro k
    induction k with
    | zero => intro _; rw [show ((0 : Nat) : Int) = 0 from rfl, sumF_0]; omega
    | succ k ih =>
      intro hk
      have ih := ih (by omega)
      rw [show ((k + 1 : Nat) : Int) = (k : Int) + 1 by omega, pos_s _ (by omega)]
      have a := (h k (by omega) (by omega)).1
      have a1 := a.1
      have a2 := a.2.1
      omega
  have := key s.toNat (by omega)
  rwa [show ((s.toNat : Nat) : Int) = s by omega] at this
theorem IsCut.uniq {c : CP} {ns n : Int} {L K : Int → Int → Int} {tk uk : Int → Int} (hn : 0 ≤ n) (hL : TblL c ns n L) (hK : TblL c ns n K) (h : IsCut c ns n L tk) (k : IsCut c ns n K uk) : ∀ s, 0 ≤ s → s < ns → tk s = uk s := by
  have key : ∀ j : Nat, (j : Int) ≤ ns → ∀ s : Int, 0 ≤ s → s < j → tk s = uk s := by
    intro j
    induction j with
    | zero => intro _ s h1 h2; omega
    | succ j ih =>
      intro hj s h1 h2
      have ih := ih (by omega)
      by_cases q : s = j
      · subst q
        have e : sumF tk 0 j = sumF uk 0 j := sumF_congr (n := j) (fun k k1 k2 => ih k k1 k2) (by omega)
        have a := h j (by omega) (by omega)
        have b := k j (by omega) (by omega)
        have p := h.pos hn j (by omega) (by omega)
        rw [← e] at b
        rw [hL.uniq hK j (by omega) (by omega) _ p.1 p.2] at a
        exact IsMost.uniq (a.congr (fun x x1 x2 => hL.uniq hK (j + 1) (by omega) (by omega) x (by omega) x2)) b
      · exact ih s h1 (by omega)
  intro s h1 h2
  exact key ns.toNat (by omega) s h1 (by omega)
theorem IsCut.all {c : CP} {ns n : Int} {L : Int → Int → Int} {tk : Int → Int} (hc : CPok c ns n) (hL : TblL c ns n L) (h : IsCut c ns n L tk) (h0 : L 0 0 < 1000000000) : ∀ s, 0 ≤ s → s ≤ ns → L s (sumF tk 0 s) < 1000000000 := by
  intro s h1 h2
  have key : ∀ k : Nat, (k : Int) ≤ ns → L k (sumF tk 0 k) < 1000000000 := by
    intro k
    induction k with
    | zero => intro _; exact h0
    | succ k ih =>
      intro hk
      have ih := ih (by omega)
      have a := h k (by omega) (by omega)
      have p := h.pos hc.2.1.1 k (by omega) (by omega)
      have b := owP_bd hc k p.1 a.1.1 a.1.2.1
      have e := a.2.1
      rw [show ((k + 1 : Nat) : Int) = (k : Int) + 1 by omega, pos_s _ (by omega)]
      omega
  have := key s.toNat (by omega)
  rwa [show ((s.toNat : Nat) : Int) = s by omega] at this
theorem IsCut.ends {c : CP} {ns n : Int} {L : Int → Int → Int} {tk : Int → Int} (hc : CPok c ns n) (hL : TblL c ns n L) (h : IsCut c ns n L tk) (h0 : L 0 0 < 1000000000) : sumF tk 0 ns = n := by
  have a := h.all hc hL h0 ns hc.1.1 (by omega)
  have p := h.pos hc.2.1.1 ns hc.1.1 (by omega)
  rw [hL.1 _ p.1 p.2] at a
  by_cases q : sumF tk 0 ns = n
  · exact q
  · rw [if_neg q] at a; omega
/-- on which shelf each book is by the cuts -/
def GoIs (tk go : Int → Int) (ns : Int) : Prop := ∀ s b, 0 ≤ s → s < ns → sumF tk 0 s ≤ b → b < sumF tk 0 (s + 1) → go b = s
theorem pos_ex (tk : Int → Int) (ns b : Int) (h0 : 0 ≤ ns) (hb : 0 ≤ b) (h : b < sumF tk 0 ns) : ∃ s, 0 ≤ s ∧ s < ns ∧ sumF tk 0 s ≤ b ∧ b < sumF tk 0 (s + 1) := by
  have key : ∀ k : Nat, b < sumF tk 0 k → ∃ s : Int, 0 ≤ s ∧ s < k ∧ sumF tk 0 s ≤ b ∧ b < sumF tk 0 (s + 1) := by
    intro k
    induction k with
    | zero => intro q; rw [show ((0 : Nat) : Int) = 0 from rfl, sumF_0] at q; omega
    | succ k ih =>
      intro q
      by_cases q2 : b < sumF tk 0 k
      · obtain ⟨s, a1, a2, a3⟩ := ih q2
        exact ⟨s, a1, by omega, a3⟩
      · exact ⟨k, by omega, by omega, by omega, by rw [show (k : Int) + 1 = ((k + 1 : Nat) : Int) by omega]; exact q⟩
  have e : ((ns.toNat : Nat) : Int) = ns := by omega
  rw [← e] at h
  obtain ⟨s, a1, a2, a3⟩ := key ns.toNat h
  exact ⟨s, a1, by omega, a3⟩
theorem GoIs.uniq {tk uk go ho : Int → Int} {ns : Int} (h0 : 0 ≤ ns) (h : GoIs tk go ns) (k : GoIs uk ho ns) (e : ∀ s, 0 ≤ s → s < ns → tk s = uk s) : ∀ b, 0 ≤ b → b < sumF tk 0 ns → go b = ho b ∧ 0 ≤ go b ∧ go b < ns := by
  intro b b0 b1
  obtain ⟨s, a1, a2, a3, a4⟩ := pos_ex tk ns b h0 b0 b1
  have e1 : sumF tk 0 s = sumF uk 0 s := sumF_congr (n := ns) (fun k k1 k2 => e k k1 k2) (by omega)
  have e2 : sumF tk 0 (s + 1) = sumF uk 0 (s + 1) := sumF_congr (n := ns) (fun k k1 k2 => e k k1 k2) (by omega)
  rw [h s b a1 a2 a3 a4, k s b a1 a2 (by rw [← e1]; exact a3) (by rw [← e2]; exact a4)]
  exact ⟨rfl, a1, a2⟩
theorem CP_congr {c c2 : CP} {ns n : Int} (hs : ∀ s, 0 ≤ s → s < ns → c.1 s = c2.1 s ∧ c.2.1 s = c2.2.1 s) (hb : ∀ b, 0 ≤ b → b < n → c.2.2.1 b = c2.2.2.1 b ∧ c.2.2.2.1 b = c2.2.2.2.1 b ∧ c.2.2.2.2 b = c2.2.2.2.2 b) : (∀ s f m, 0 ≤ s → s < ns → 0 ≤ f → (fitP c n s f m ↔ fitP c2 n s f m)) ∧ ∀ s f m, 0 ≤ s → s < ns → 0 ≤ f → fitP c n s f m → owP c s f m = owP c2 s f m := by
  constructor
  · intro s f m s0 s1 f0
    have e1 : rmP c s = rmP c2 s := by unfold rmP; rw [(hs s s0 s1).1, (hs s s0 s1).2]
    constructor
    · intro ⟨a, b, d⟩
      exact ⟨a, b, by rw [← e1, ← sumF_congr (n := n) (fun k k1 k2 => (hb k (by omega) k2).2.1) b]; exact d⟩
    · intro ⟨a, b, d⟩
      exact ⟨a, b, by rw [e1, sumF_congr (n := n) (fun k k1 k2 => (hb k (by omega) k2).2.1) b]; exact d⟩
  · intro s f m s0 s1 f0 hf
    unfold owP
    rw [(hs s s0 s1).2, sumF_congr (w := pmP c s) (u := pmP c2 s) (n := n) (fun k k1 k2 => ?_) hf.2.1]
    have := hb k (by omega) k2
    unfold pmP
    rw [this.1, this.2.2]
theorem TblL.move {c c2 : CP} {ns n : Int} {L : Int → Int → Int} (hs : ∀ s, 0 ≤ s → s < ns → c.1 s = c2.1 s ∧ c.2.1 s = c2.2.1 s) (hb : ∀ b, 0 ≤ b → b < n → c.2.2.1 b = c2.2.2.1 b ∧ c.2.2.2.1 b = c2.2.2.2.1 b ∧ c.2.2.2.2 b = c2.2.2.2.2 b) (h : TblL c ns n L) : TblL c2 ns n L := by
  obtain ⟨g1, g2⟩ := CP_congr hs hb
  refine ⟨h.1, fun s s0 s1 f f0 f1 => ?_⟩
  obtain ⟨a1, m, a2, a3⟩ := h.2 s s0 s1 f f0 f1
  refine ⟨fun y hy => ?_, m, (g1 s f m s0 s1 f0).mp a2, ?_⟩
  · have hy2 := (g1 s f y s0 s1 f0).mpr hy
    rw [← g2 s f y s0 s1 f0 hy2]
    exact a1 y hy2
  · rw [← g2 s f m s0 s1 f0 a2]; exact a3
theorem IsCut.move {c c2 : CP} {ns n : Int} {L : Int → Int → Int} {tk : Int → Int} (hn : 0 ≤ n) (hs : ∀ s, 0 ≤ s → s < ns → c.1 s = c2.1 s ∧ c.2.1 s = c2.2.1 s) (hb : ∀ b, 0 ≤ b → b < n → c.2.2.1 b = c2.2.2.1 b ∧ c.2.2.2.1 b = c2.2.2.2.1 b ∧ c.2.2.2.2 b = c2.2.2.2.2 b) (h : IsCut c ns n L tk) : IsCut c2 ns n L tk := by
  obtain ⟨g1, g2⟩ := CP_congr hs hb
  intro s s0 s1
  have p := h.pos hn s s0 (by omega)
  obtain ⟨a1, a2, a3⟩ := h s s0 s1
  refine ⟨(g1 s _ _ s0 s1 p.1).mp a1, by rw [← g2 s _ _ s0 s1 p.1 a1]; exact a2, fun y hy hf => ?_⟩
  have hf2 := (g1 s _ y s0 s1 p.1).mpr hf
  rw [← g2 s _ y s0 s1 p.1 hf2]
  exact a3 y hy hf2
end
section
set_option maxRecDepth 100000 in
set_option maxHeartbeats 4000000 in
theorem ct_X1_load (σ : St) (y : Int) (hs : 0 ≤ σ 5 2 ∧ σ 5 2 ≤ 12) (hb : 0 ≤ σ 0 6 ∧ σ 0 6 ≤ 60) (hy : 0 ≤ y ∧ y ≤ 999) (hw : ∀ b, 0 ≤ b → b < σ 0 6 → 1 ≤ σ 9 b ∧ σ 9 b ≤ 40) (hnd : ∀ b, 0 ≤ b → b < σ 0 6 → 0 ≤ σ 10 b ∧ σ 10 b ≤ 1000) : Wp mX1_load 0 (fun z τ => τ 1 9 = σ 5 2 ∧ τ 1 10 = σ 0 6 ∧ τ 1 11 = σ 1 11 ∧ (∀ s, 0 ≤ s → s < σ 5 2 → τ 16 s = σ 55 s ∧ τ 17 s = σ 56 s) ∧ (∀ b, 0 ≤ b → b < σ 0 6 → τ 18 b = σ 9 b ∧ τ 19 b = σ 9 b + y * σ 10 b ∧ τ 20 b = σ 11 b) ∧ (∀ k, k ≠ 1 → k ≠ 16 → k ≠ 17 → k ≠ 18 → k ≠ 19 → k ≠ 20 → τ k = σ k)) 0 [some (.inr 1), some (.inr 5), some (.inr 0), some (.inl y), none] [] σ := by
  refine Wp.rg (fun hR => ?_)
  refine w_aload_n dX1_load_0 rfl ?_
  refine w_aload_n dX1_load_1 rfl ?_
  refine gf_X1_41 rfl dX1_load_2 ?_
  refine pf_X1_47 rfl (hR _ _) dX1_load_5 ?_
  refine w_iconst dX1_load_8 ?_
  refine w_istore dX1_load_9 (Nat.le_of_ble_eq_true rfl) ?_
  refine up_to (σ 5 2) (fun i => 0 ≤ i → ∀ (τ : St), (τ 1 9 = σ 5 2 ∧ τ 1 11 = σ 1 11 ∧ (∀ s, 0 ≤ s → s < i → τ 16 s = σ 55 s ∧ τ 17 s = σ 56 s) ∧ (∀ k, k ≠ 1 → k ≠ 16 → k ≠ 17 → k ≠ 18 → k ≠ 19 → k ≠ 20 → τ k = σ k)) → Wp mX1_load 0 (fun z τ => τ 1 9 = σ 5 2 ∧ τ 1 10 = σ 0 6 ∧ τ 1 11 = σ 1 11 ∧ (∀ s, 0 ≤ s → s < σ 5 2 → τ 16 s = σ 55 s ∧ τ 17 s = σ 56 s) ∧ (∀ b, 0 ≤ b → b < σ 0 6 → τ 18 b = σ 9 b ∧ τ 19 b = σ 9 b + y * σ 10 b ∧ τ 20 b = σ 11 b) ∧ (∀ k, k ≠ 1 → k ≠ 16 → k ≠ 17 → k ≠ 18 → k ≠ 19 → k ≠ 20 → τ k = σ k)) 11 [some (.inr 1), some (.inr 5), some (.inr 0), some (.inl y), some (.inl i)] [] τ) (fun i hi ih h0 τ hinv => ?_) (0) (by omega) (by omega) _ ⟨by simp [put_eq], by simp [put_eq], fun s h1 h2 => by omega, fun k k1 k2 k3 k4 k5 k6 => by rw [put_ne k1]⟩
  obtain ⟨p1, p2, p3, p4⟩ := hinv
  have e55 : τ 55 = σ 55 := p4 55 (by decide) (by decide) (by decide) (by decide) (by decide) (by decide)
  have e56 : τ 56 = σ 56 := p4 56 (by decide) (by decide) (by decide) (by decide) (by decide) (by decide)
  have p0 : τ 0 6 = σ 0 6 := by rw [p4 0 (by decide) (by decide) (by decide) (by decide) (by decide) (by decide)]
  refine Wp.rg (fun hR2 => ?_)
  refine w_iload dX1_load_11 rfl ?_
  refine w_aload_n dX1_load_13 rfl ?_
  refine gf_X1_47 rfl dX1_load_14 ?_
  refine w_icmp_ge (tgt := 54) dX1_load_17 (by decide) (by omega) (by rw [p1]; omega) (fun c_17 => ?_) (fun c_17 => ?_)
  · refine w_aload_n dX1_load_54 rfl ?_
    refine w_aload_n dX1_load_55 rfl ?_
    refine gf_X1_52 rfl dX1_load_56 ?_
    refine pf_X1_55 rfl (hR2 _ _) dX1_load_59 ?_
    refine w_iconst dX1_load_62 ?_
    refine w_istore dX1_load_63 (Nat.le_of_ble_eq_true rfl) ?_
    refine up_to (σ 0 6) (fun i => 0 ≤ i → ∀ (τ : St), (τ 1 9 = σ 5 2 ∧ τ 1 10 = σ 0 6 ∧ τ 1 11 = σ 1 11 ∧ (∀ s, 0 ≤ s → s < σ 5 2 → τ 16 s = σ 55 s ∧ τ 17 s = σ 56 s) ∧ (∀ b, 0 ≤ b → b < i → τ 18 b = σ 9 b ∧ τ 19 b = σ 9 b + y * σ 10 b ∧ τ 20 b = σ 11 b) ∧ (∀ k, k ≠ 1 → k ≠ 16 → k ≠ 17 → k ≠ 18 → k ≠ 19 → k ≠ 20 → τ k = σ k)) → Wp mX1_load 0 (fun z τ => τ 1 9 = σ 5 2 ∧ τ 1 10 = σ 0 6 ∧ τ 1 11 = σ 1 11 ∧ (∀ s, 0 ≤ s → s < σ 5 2 → τ 16 s = σ 55 s ∧ τ 17 s = σ 56 s) ∧ (∀ b, 0 ≤ b → b < σ 0 6 → τ 18 b = σ 9 b ∧ τ 19 b = σ 9 b + y * σ 10 b ∧ τ 20 b = σ 11 b) ∧ (∀ k, k ≠ 1 → k ≠ 16 → k ≠ 17 → k ≠ 18 → k ≠ 19 → k ≠ 20 → τ k = σ k)) 65 [some (.inr 1), some (.inr 5), some (.inr 0), some (.inl y), some (.inl i)] [] τ) (fun i hi ih h0 τ hinv => ?_) (0) (by omega) (by omega) _ ⟨by simp [put_eq, p1], by simp [put_eq, p0], by simp [put_eq, p2], fun s h1 h2 => by simp only [put_eq]; simp; exact p3 s h1 (by omega), fun b h1 h2 => by omega, fun k k1 k2 k3 k4 k5 k6 => by rw [put_ne k1]; exact p4 k k1 k2 k3 k4 k5 k6⟩
    obtain ⟨q1, q2, q3, q4, q5, q6⟩ := hinv
    have e9 : τ 9 = σ 9 := q6 9 (by decide) (by decide) (by decide) (by decide) (by decide) (by decide)
    have e10 : τ 10 = σ 10 := q6 10 (by decide) (by decide) (by decide) (by decide) (by decide) (by decide)
    have e11 : τ 11 = σ 11 := q6 11 (by decide) (by decide) (by decide) (by decide) (by decide) (by decide)
    refine Wp.rg (fun hR2 => ?_)
    
    refine w_iload dX1_load_65 rfl ?_
    refine w_aload_n dX1_load_67 rfl ?_
    refine gf_X1_55 rfl dX1_load_68 ?_
    refine w_icmp_ge (tgt := 132) dX1_load_71 (by decide) (by omega) (by rw [q2]; omega) (fun c_71 => ?_) (fun c_71 => ?_)
    · refine w_ret dX1_load_132 rfl ?_
      exact ⟨q1, q2, q3, q4, fun b h1 h2 => q5 b h1 (by omega), q6⟩
    · have hwi := hw i h0 (by omega)
      have hni := hnd i h0 (by omega)
      have hyn : 0 ≤ y * σ 10 i := Int.mul_nonneg hy.1 hni.1
      have hyn2 : y * σ 10 i ≤ 999 * 1000 := Int.le_trans (Int.mul_le_mul_of_nonneg_right hy.2 hni.1) (Int.mul_le_mul_of_nonneg_left hni.2 (by omega))
      refine w_aload_n dX1_load_74 rfl ?_
      refine gf_X1_24 rfl dX1_load_75 ?_
      refine w_iload dX1_load_78 rfl ?_
      refine w_aload_n dX1_load_80 rfl ?_
      refine gf_X1_56 rfl dX1_load_81 ?_
      refine w_iload dX1_load_84 rfl ?_
      refine w_iald rfl (by omega) dX1_load_86 ?_
      refine w_iast rfl (by omega) (by rw [e9]; omega) dX1_load_87 ?_
      refine w_aload_n dX1_load_88 rfl ?_
      refine gf_X1_27 rfl dX1_load_89 ?_
      refine w_iload dX1_load_92 rfl ?_
      refine w_aload_n dX1_load_94 rfl ?_
      refine gf_X1_56 rfl dX1_load_95 ?_
      refine w_iload dX1_load_98 rfl ?_
      refine w_iald rfl (by omega) dX1_load_100 ?_
      refine w_iload_n dX1_load_101 rfl ?_
      refine w_aload_n dX1_load_102 rfl ?_
      refine gf_X1_57 rfl dX1_load_103 ?_
      refine w_iload dX1_load_106 rfl ?_
      refine w_iald rfl (by omega) dX1_load_108 ?_
      refine w_imul dX1_load_109 ?_
      refine w_iadd dX1_load_110 ?_
      refine w_iast rfl (by omega) (by simp only [put_eq]; simp; rw [e9, e10]; omega) dX1_load_111 ?_
      refine w_aload_n dX1_load_112 rfl ?_
      refine gf_X1_30 rfl dX1_load_113 ?_
      refine w_iload dX1_load_116 rfl ?_
      refine w_aload_n dX1_load_118 rfl ?_
      refine gf_X1_60 rfl dX1_load_119 ?_
      refine w_iload dX1_load_122 rfl ?_
      refine w_iald rfl (by omega) dX1_load_124 ?_
      refine w_iast rfl (by omega) (by simp only [put_eq]; simp; exact hR2 _ _) dX1_load_125 ?_
      refine w_iinc dX1_load_126 (Nat.le_of_ble_eq_true rfl) rfl ?_
      refine w_goto (tgt := 65) dX1_load_129 (by decide) ?_
      refine ih (by omega) (by omega) _ ⟨by simp [put_eq, q1], by simp [put_eq, q2], by simp [put_eq, q3], fun s h1 h2 => ?_, fun b h1 h2 => ?_, fun k k1 k2 k3 k4 k5 k6 => ?_⟩
      · simp only [put_eq]; simp; exact q4 s h1 h2
      · simp only [put_eq]; simp
        by_cases e : b = i
        · simp [e, e9, e10, e11]
        · simp [e]; exact q5 b h1 (by omega)
      · rw [put_ne (by omega), put_ne (by omega), put_ne (by omega)]; exact q6 k k1 k2 k3 k4 k5 k6
  · refine w_aload_n dX1_load_20 rfl ?_
    refine gf_X1_18 rfl dX1_load_21 ?_
    refine w_iload dX1_load_24 rfl ?_
    refine w_aload_n dX1_load_26 rfl ?_
    refine gf_X1_50 rfl dX1_load_27 ?_
    refine w_iload dX1_load_30 rfl ?_
    refine w_iald rfl (by omega) dX1_load_32 ?_
    refine w_iast rfl (by omega) (hR2 _ _) dX1_load_33 ?_
    refine w_aload_n dX1_load_34 rfl ?_
    refine gf_X1_21 rfl dX1_load_35 ?_
    refine w_iload dX1_load_38 rfl ?_
    refine w_aload_n dX1_load_40 rfl ?_
    refine gf_X1_51 rfl dX1_load_41 ?_
    refine w_iload dX1_load_44 rfl ?_
    refine w_iald rfl (by omega) dX1_load_46 ?_
    refine w_iast rfl (by omega) (by simp only [put_eq]; simp; exact hR2 _ _) dX1_load_47 ?_
    refine w_iinc dX1_load_48 (Nat.le_of_ble_eq_true rfl) rfl ?_
    refine w_goto (tgt := 11) dX1_load_51 (by decide) ?_
    refine ih (by omega) (by omega) _ ⟨by simp [put_eq, p1], by simp [put_eq, p2], fun s h1 h2 => ?_, fun k k1 k2 k3 k4 k5 k6 => by rw [put_ne k3, put_ne k2]; exact p4 k k1 k2 k3 k4 k5 k6⟩
    simp only [put_eq]; simp
    by_cases e : s = i
    · simp [e, e55, e56]
    · simp [e]; exact p3 s h1 (by omega)

set_option maxRecDepth 100000 in
set_option maxHeartbeats 4000000 in
theorem ct_X1_insert (σ : St) (b w : Int) (hb : 0 ≤ b ∧ b ≤ σ 1 10 ∧ σ 1 10 < 60) (hw : InR w) : Wp mX1_insert 1 (fun z τ => (∀ j, 0 ≤ j → j ≤ σ 1 10 → τ 18 j = ins (σ 18) b w j ∧ τ 19 j = ins (σ 19) b w j ∧ τ 20 j = ins (σ 20) b (-1) j) ∧ τ 1 10 = σ 1 10 + 1 ∧ (∀ j, j ≠ 10 → τ 1 j = σ 1 j) ∧ ∀ k, k ≠ 1 → k ≠ 18 → k ≠ 19 → k ≠ 20 → τ k = σ k) 0 [some (.inr 1), some (.inl b), some (.inl w)] [] σ := by
  refine Wp.rg (fun hR => ?_)
  refine w_aload_n dX1_insert_0 rfl ?_
  refine gf_X1_55 rfl dX1_insert_1 ?_
  refine w_bipush dX1_insert_4 (by decide) ?_
  refine w_icmp_lt (tgt := 10) dX1_insert_6 (by decide) (by omega) (by omega) (fun c_6 => ?_) (fun c_6 => ?_)
  · refine w_aload_n dX1_insert_10 rfl ?_
    refine gf_X1_24 rfl dX1_insert_11 ?_
    refine w_iload_n dX1_insert_14 rfl ?_
    refine w_aload_n dX1_insert_15 rfl ?_
    refine gf_X1_24 rfl dX1_insert_16 ?_
    refine w_iload_n dX1_insert_19 rfl ?_
    refine w_iconst dX1_insert_20 ?_
    refine w_iadd dX1_insert_21 ?_
    refine w_aload_n dX1_insert_22 rfl ?_
    refine gf_X1_55 rfl dX1_insert_23 ?_
    refine w_iload_n dX1_insert_26 rfl ?_
    refine w_isub dX1_insert_27 ?_
    refine w_copy dX1_insert_28 tw_361 tw_363 tw_362 tw_68 (Nat.le_of_ble_eq_true rfl) rfl rfl (by first | omega | (simp only [putA_eq]; simp; omega)) (by first | omega | (simp only [putA_eq]; simp; omega)) (by first | omega | (simp only [putA_eq]; simp; omega)) (by first | omega | (simp only [putA_eq]; simp; omega)) (by first | omega | (simp only [putA_eq]; simp; omega)) ?_
    refine w_aload_n dX1_insert_31 rfl ?_
    refine gf_X1_27 rfl dX1_insert_32 ?_
    refine w_iload_n dX1_insert_35 rfl ?_
    refine w_aload_n dX1_insert_36 rfl ?_
    refine gf_X1_27 rfl dX1_insert_37 ?_
    refine w_iload_n dX1_insert_40 rfl ?_
    refine w_iconst dX1_insert_41 ?_
    refine w_iadd dX1_insert_42 ?_
    refine w_aload_n dX1_insert_43 rfl ?_
    refine gf_X1_55 rfl dX1_insert_44 ?_
    refine w_iload_n dX1_insert_47 rfl ?_
    refine w_isub dX1_insert_48 ?_
    refine w_copy dX1_insert_49 tw_361 tw_363 tw_362 tw_68 (Nat.le_of_ble_eq_true rfl) rfl rfl (by first | omega | (simp only [putA_eq]; simp; omega)) (by first | omega | (simp only [putA_eq]; simp; omega)) (by first | omega | (simp only [putA_eq]; simp; omega)) (by first | omega | (simp only [putA_eq]; simp; omega)) (by first | omega | (simp only [putA_eq]; simp; omega)) ?_
    refine w_aload_n dX1_insert_52 rfl ?_
    refine gf_X1_30 rfl dX1_insert_53 ?_
    refine w_iload_n dX1_insert_56 rfl ?_
    refine w_aload_n dX1_insert_57 rfl ?_
    refine gf_X1_30 rfl dX1_insert_58 ?_
    refine w_iload_n dX1_insert_61 rfl ?_
    refine w_iconst dX1_insert_62 ?_
    refine w_iadd dX1_insert_63 ?_
    refine w_aload_n dX1_insert_64 rfl ?_
    refine gf_X1_55 rfl dX1_insert_65 ?_
    refine w_iload_n dX1_insert_68 rfl ?_
    refine w_isub dX1_insert_69 ?_
    refine w_copy dX1_insert_70 tw_361 tw_363 tw_362 tw_68 (Nat.le_of_ble_eq_true rfl) rfl rfl (by first | omega | (simp only [putA_eq]; simp; omega)) (by first | omega | (simp only [putA_eq]; simp; omega)) (by first | omega | (simp only [putA_eq]; simp; omega)) (by first | omega | (simp only [putA_eq]; simp; omega)) (by first | omega | (simp only [putA_eq]; simp; omega)) ?_
    refine w_aload_n dX1_insert_73 rfl ?_
    refine w_dup dX1_insert_74 ?_
    refine gf_X1_55 rfl dX1_insert_75 ?_
    refine w_iconst dX1_insert_78 ?_
    refine w_iadd dX1_insert_79 ?_
    refine pf_X1_55 rfl (by simp only [putA_eq]; simp; omega) dX1_insert_80 ?_
    refine w_aload_n dX1_insert_83 rfl ?_
    refine gf_X1_24 rfl dX1_insert_84 ?_
    refine w_iload_n dX1_insert_87 rfl ?_
    refine w_iload_n dX1_insert_88 rfl ?_
    refine w_iast rfl (by omega) hw dX1_insert_89 ?_
    refine w_aload_n dX1_insert_90 rfl ?_
    refine gf_X1_27 rfl dX1_insert_91 ?_
    refine w_iload_n dX1_insert_94 rfl ?_
    refine w_iload_n dX1_insert_95 rfl ?_
    refine w_iast rfl (by omega) hw dX1_insert_96 ?_
    refine w_aload_n dX1_insert_97 rfl ?_
    refine gf_X1_30 rfl dX1_insert_98 ?_
    refine w_iload_n dX1_insert_101 rfl ?_
    refine w_iconst dX1_insert_102 ?_
    refine w_iast rfl (by omega) (by omega) dX1_insert_103 ?_
    refine w_ret dX1_insert_104 rfl ?_
    refine ⟨fun j h1 h2 => ?_, by simp [put_eq, putA_eq], fun j hj => by simp [put_eq, putA_eq, hj], fun k k0 k1 k2 k3 => by funext j; simp [put_eq, putA_eq, k0, k1, k2, k3]⟩
    simp only [put_eq, putA_eq, cpI, ins]
    simp
    by_cases q1 : j < b
    · simp [q1, show ¬ j = b by omega, show ¬ b + 1 ≤ j by omega]
    · by_cases q2 : j = b
      · simp [q2]
      · have e1 : b + (j - (b + 1)) = j - 1 := by omega
        have e2 : b + 1 ≤ j ∧ j < b + 1 + (σ 1 10 - b) := by omega
        simp [q1, q2, e1, e2]
  · exact absurd c_6 (by omega)

set_option maxRecDepth 100000 in
set_option maxHeartbeats 4000000 in
theorem ct_X1_forget (σ : St) (b : Int) (hb : 0 ≤ b ∧ b < σ 1 10 ∧ σ 1 10 ≤ 60) : Wp mX1_forget 1 (fun z τ => (∀ j, 0 ≤ j → j < σ 1 10 - 1 → τ 14 j = del (σ 14) b j) ∧ τ 1 10 = σ 1 10 - 1 ∧ ∀ k, k ≠ 1 → k ≠ 14 → τ k = σ k) 0 [some (.inr 1), some (.inl b)] [] σ := by
  refine Wp.rg (fun hR => ?_)
  refine w_aload_n dX1_forget_0 rfl ?_
  refine gf_X1_9 rfl dX1_forget_1 ?_
  refine w_iload_n dX1_forget_4 rfl ?_
  refine w_iconst dX1_forget_5 ?_
  refine w_iadd dX1_forget_6 ?_
  refine w_aload_n dX1_forget_7 rfl ?_
  refine gf_X1_9 rfl dX1_forget_8 ?_
  refine w_iload_n dX1_forget_11 rfl ?_
  refine w_aload_n dX1_forget_12 rfl ?_
  refine gf_X1_55 rfl dX1_forget_13 ?_
  refine w_iload_n dX1_forget_16 rfl ?_
  refine w_isub dX1_forget_17 ?_
  refine w_iconst dX1_forget_18 ?_
  refine w_isub dX1_forget_19 ?_
  refine w_copy dX1_forget_20 tw_361 tw_363 tw_362 tw_68 (Nat.le_of_ble_eq_true rfl) rfl rfl (by omega) (by omega) (by omega) (by omega) (by omega) ?_
  refine w_aload_n dX1_forget_23 rfl ?_
  refine w_dup dX1_forget_24 ?_
  refine gf_X1_55 rfl dX1_forget_25 ?_
  refine w_iconst dX1_forget_28 ?_
  refine w_isub dX1_forget_29 ?_
  refine pf_X1_55 rfl (by simp only [putA_eq]; simp; omega) dX1_forget_30 ?_
  refine w_ret dX1_forget_33 rfl ?_
  refine ⟨fun j h1 h2 => ?_, by simp [put_eq, putA_eq], fun k k0 k1 => by funext j; simp [put_eq, putA_eq, k0, k1]⟩
  simp only [put_eq, putA_eq, cpI, del]
  simp
  by_cases q1 : j < b
  · simp [q1, show ¬ b ≤ j by omega]
  · have e1 : b + 1 + (j - b) = j + 1 := by omega
    have e2 : b ≤ j ∧ j < b + (σ 1 10 - b - 1) := by omega
    simp [q1, e1, e2]

set_option maxRecDepth 100000 in
set_option maxHeartbeats 4000000 in
theorem ct_X1_fill (σ : St) (f s : Int) (hf : 0 ≤ f ∧ f ≤ σ 1 10 ∧ σ 1 10 ≤ 60) (hs : 0 ≤ s ∧ s < 12) (hl : 0 ≤ σ 16 s ∧ σ 16 s ≤ 200) (hsp : ∀ b, 0 ≤ b → b < σ 1 10 → 0 ≤ σ 19 b) : Wp mX1_fill 0 (fun z τ => IsDay (σ 19) f (σ 1 10) (σ 16 s) (z - f) ∧ τ = σ) 0 [some (.inr 1), some (.inl f), some (.inl s), none, none] [] σ := by
  refine Wp.rg (fun hR => ?_)
  refine w_aload_n dX1_fill_0 rfl ?_
  refine gf_X1_18 rfl dX1_fill_1 ?_
  refine w_iload_n dX1_fill_4 rfl ?_
  refine w_iald rfl (by omega) dX1_fill_5 ?_
  refine w_istore_n dX1_fill_6 (Nat.le_of_ble_eq_true rfl) ?_
  refine w_iload_n dX1_fill_7 rfl ?_
  refine w_istore dX1_fill_8 (Nat.le_of_ble_eq_true rfl) ?_
  refine up_to (σ 1 10) (fun i => f ≤ i → ∀ a, (a = σ 16 s - sumF (σ 19) f (i - f) ∧ 0 ≤ a ∧ a ≤ 200) → Wp mX1_fill 0 (fun z τ => IsDay (σ 19) f (σ 1 10) (σ 16 s) (z - f) ∧ τ = σ) 10 [some (.inr 1), some (.inl f), some (.inl s), some (.inl a), some (.inl i)] [] σ) (fun i hi ih h0 a hinv => ?_) (f) (by omega) (by omega) _ ⟨by rw [Int.sub_self, sumF_0]; omega, by omega, by omega⟩
  refine w_iload dX1_fill_10 rfl ?_
  refine w_aload_n dX1_fill_12 rfl ?_
  refine gf_X1_55 rfl dX1_fill_13 ?_
  refine w_icmp_ge (tgt := 46) dX1_fill_16 (by decide) (by omega) (by omega) (fun c_16 => ?_) (fun c_16 => ?_)
  · refine w_iload dX1_fill_46 rfl ?_
    refine w_iret dX1_fill_48 rfl ?_
    refine ⟨⟨by omega, by omega, by omega, ?_⟩, rfl⟩
    rw [sumF_s _ _ (by omega), show f + (i - f) = i by omega]
    omega
  · refine w_aload_n dX1_fill_19 rfl ?_
    refine gf_X1_27 rfl dX1_fill_20 ?_
    refine w_iload dX1_fill_23 rfl ?_
    refine w_iald rfl (by omega) dX1_fill_25 ?_
    refine w_iload_n dX1_fill_26 rfl ?_
    refine w_icmp_gt (tgt := 46) dX1_fill_27 (by decide) (hR _ _) (by omega) (fun c_27 => ?_) (fun c_27 => ?_)
    · refine w_iload dX1_fill_46 rfl ?_
      refine w_iret dX1_fill_48 rfl ?_
      refine ⟨⟨by omega, by omega, by omega, ?_⟩, rfl⟩
      rw [sumF_s _ _ (by omega), show f + (i - f) = i by omega]
      omega
    · have hsi := hsp i (by omega) (by omega)
      refine w_iload_n dX1_fill_30 rfl ?_
      refine w_aload_n dX1_fill_31 rfl ?_
      refine gf_X1_27 rfl dX1_fill_32 ?_
      refine w_iload dX1_fill_35 rfl ?_
      refine w_iald rfl (by omega) dX1_fill_37 ?_
      refine w_isub dX1_fill_38 ?_
      refine w_istore_n dX1_fill_39 (Nat.le_of_ble_eq_true rfl) ?_
      refine w_iinc dX1_fill_40 (Nat.le_of_ble_eq_true rfl) rfl ?_
      refine w_goto (tgt := 10) dX1_fill_43 (by decide) ?_
      refine ih (by omega) (by omega) _ ⟨?_, by omega, by omega⟩
      rw [show i + 1 - f = (i - f) + 1 by omega, sumF_s _ _ (by omega), show f + (i - f) = i by omega]
      omega

set_option maxRecDepth 100000 in
set_option maxHeartbeats 4000000 in
theorem ct_X1_priceOfMove (σ : St) (len kind span : Int → Int) (b s : Int) (hb : 0 ≤ b ∧ b < 60) (hs : InR s) : Wp mX1_priceOfMove 0 (fun z τ => z = pmP (len, kind, σ 18, span, σ 20) s b ∧ τ = σ) 0 [some (.inr 1), some (.inl b), some (.inl s), none] [] σ := by
  refine Wp.rg (fun hR => ?_)
  refine w_aload_n dX1_priceOfMove_0 rfl ?_
  refine gf_X1_30 rfl dX1_priceOfMove_1 ?_
  refine w_iload_n dX1_priceOfMove_4 rfl ?_
  refine w_iald rfl (by omega) dX1_priceOfMove_5 ?_
  refine w_iload_n dX1_priceOfMove_6 rfl ?_
  refine w_icmp_eq (tgt := 20) dX1_priceOfMove_7 (by decide) (hR _ _) hs (fun c_7 => ?_) (fun c_7 => ?_)
  · refine w_iconst dX1_priceOfMove_20 ?_
    refine w_goto (tgt := 25) dX1_priceOfMove_21 (by decide) ?_
    refine w_istore_n dX1_priceOfMove_25 (Nat.le_of_ble_eq_true rfl) ?_
    refine w_iload_n dX1_priceOfMove_26 rfl ?_
    refine w_if_eq (tgt := 34) dX1_priceOfMove_27 (by decide) (by omega) (fun c_27 => ?_) (fun c_27 => ?_)
    · refine w_bipush dX1_priceOfMove_34 (by decide) ?_
      refine w_aload_n dX1_priceOfMove_36 rfl ?_
      refine gf_X1_24 rfl dX1_priceOfMove_37 ?_
      refine w_iload_n dX1_priceOfMove_40 rfl ?_
      refine w_iald rfl (by omega) dX1_priceOfMove_41 ?_
      refine w_imul dX1_priceOfMove_42 ?_
      refine w_iconst dX1_priceOfMove_43 ?_
      refine w_iadd dX1_priceOfMove_44 ?_
      refine w_iret dX1_priceOfMove_45 rfl ?_
      first | exact absurd c_27 (by decide) | exact absurd rfl c_27 | (refine ⟨?_, rfl⟩; unfold pmP; dsimp only; first | rw [if_pos (by omega)] | rw [if_neg (by omega)])
    · refine w_iconst dX1_priceOfMove_30 ?_
      refine w_goto (tgt := 45) dX1_priceOfMove_31 (by decide) ?_
      refine w_iret dX1_priceOfMove_45 rfl ?_
      first | exact absurd c_27 (by decide) | exact absurd rfl c_27 | (refine ⟨?_, rfl⟩; unfold pmP; dsimp only; first | rw [if_pos (by omega)] | rw [if_neg (by omega)])
  · refine w_aload_n dX1_priceOfMove_10 rfl ?_
    refine gf_X1_30 rfl dX1_priceOfMove_11 ?_
    refine w_iload_n dX1_priceOfMove_14 rfl ?_
    refine w_iald rfl (by omega) dX1_priceOfMove_15 ?_
    refine w_iconst dX1_priceOfMove_16 ?_
    refine w_icmp_ne (tgt := 24) dX1_priceOfMove_17 (by decide) (hR _ _) (by omega) (fun c_17 => ?_) (fun c_17 => ?_)
    · refine w_iconst dX1_priceOfMove_24 ?_
      refine w_istore_n dX1_priceOfMove_25 (Nat.le_of_ble_eq_true rfl) ?_
      refine w_iload_n dX1_priceOfMove_26 rfl ?_
      refine w_if_eq (tgt := 34) dX1_priceOfMove_27 (by decide) (by omega) (fun c_27 => ?_) (fun c_27 => ?_)
      · refine w_bipush dX1_priceOfMove_34 (by decide) ?_
        refine w_aload_n dX1_priceOfMove_36 rfl ?_
        refine gf_X1_24 rfl dX1_priceOfMove_37 ?_
        refine w_iload_n dX1_priceOfMove_40 rfl ?_
        refine w_iald rfl (by omega) dX1_priceOfMove_41 ?_
        refine w_imul dX1_priceOfMove_42 ?_
        refine w_iconst dX1_priceOfMove_43 ?_
        refine w_iadd dX1_priceOfMove_44 ?_
        refine w_iret dX1_priceOfMove_45 rfl ?_
        first | exact absurd c_27 (by decide) | exact absurd rfl c_27 | (refine ⟨?_, rfl⟩; unfold pmP; dsimp only; first | rw [if_pos (by omega)] | rw [if_neg (by omega)])
      · refine w_iconst dX1_priceOfMove_30 ?_
        refine w_goto (tgt := 45) dX1_priceOfMove_31 (by decide) ?_
        refine w_iret dX1_priceOfMove_45 rfl ?_
        first | exact absurd c_27 (by decide) | exact absurd rfl c_27 | (refine ⟨?_, rfl⟩; unfold pmP; dsimp only; first | rw [if_pos (by omega)] | rw [if_neg (by omega)])
    · refine w_iconst dX1_priceOfMove_20 ?_
      refine w_goto (tgt := 25) dX1_priceOfMove_21 (by decide) ?_
      refine w_istore_n dX1_priceOfMove_25 (Nat.le_of_ble_eq_true rfl) ?_
      refine w_iload_n dX1_priceOfMove_26 rfl ?_
      refine w_if_eq (tgt := 34) dX1_priceOfMove_27 (by decide) (by omega) (fun c_27 => ?_) (fun c_27 => ?_)
      · refine w_bipush dX1_priceOfMove_34 (by decide) ?_
        refine w_aload_n dX1_priceOfMove_36 rfl ?_
        refine gf_X1_24 rfl dX1_priceOfMove_37 ?_
        refine w_iload_n dX1_priceOfMove_40 rfl ?_
        refine w_iald rfl (by omega) dX1_priceOfMove_41 ?_
        refine w_imul dX1_priceOfMove_42 ?_
        refine w_iconst dX1_priceOfMove_43 ?_
        refine w_iadd dX1_priceOfMove_44 ?_
        refine w_iret dX1_priceOfMove_45 rfl ?_
        first | exact absurd c_27 (by decide) | exact absurd rfl c_27 | (refine ⟨?_, rfl⟩; unfold pmP; dsimp only; first | rw [if_pos (by omega)] | rw [if_neg (by omega)])
      · refine w_iconst dX1_priceOfMove_30 ?_
        refine w_goto (tgt := 45) dX1_priceOfMove_31 (by decide) ?_
        refine w_iret dX1_priceOfMove_45 rfl ?_
        first | exact absurd c_27 (by decide) | exact absurd rfl c_27 | (refine ⟨?_, rfl⟩; unfold pmP; dsimp only; first | rw [if_pos (by omega)] | rw [if_neg (by omega)])

theorem sh_least {s : Int} (h0 : 0 ≤ s) (h1 : s ≤ 12) : shT[22 + s.toNat]? = some (.inr (.inl 61)) := by
  have h : ∀ k : Nat, k < 13 → shT[22 + k]? = some (.inr (.inl 61)) := by decide +kernel
  exact h s.toNat (by omega)
theorem sh_most {s : Int} (h0 : 0 ≤ s) (h1 : s < 12) : shT[36 + s.toNat]? = some (.inr (.inl 61)) := by
  have h : ∀ k : Nat, k < 12 → shT[36 + k]? = some (.inr (.inl 61)) := by decide +kernel
  exact h s.toNat (by omega)

set_option maxRecDepth 100000 in
set_option maxHeartbeats 4000000 in
theorem ct_X1_chooseMost (σ : St) (s f : Int) (hc : CPok (σ 16, σ 17, σ 18, σ 19, σ 20) (σ 1 9) (σ 1 10)) (hs : 0 ≤ s ∧ s < σ 1 9) (hf : 0 ≤ f ∧ f ≤ σ 1 10) (hrow : ∀ b, f ≤ b → b ≤ σ 1 10 → 0 ≤ σ (22 + (s + 1).toNat) b ∧ σ (22 + (s + 1).toNat) b ≤ 1000000000) : Wp mX1_chooseMost 1 (fun z τ => ∃ v m, IsMn (σ 16, σ 17, σ 18, σ 19, σ 20) (σ 1 10) (σ (22 + (s + 1).toNat)) s f v ∧ IsMost (σ 16, σ 17, σ 18, σ 19, σ 20) (σ 1 10) (σ (22 + (s + 1).toNat)) s f v m ∧ 0 ≤ v ∧ v ≤ 1000000000 ∧ τ = put (put σ (22 + s.toNat) f v) (36 + s.toNat) f m) 0 [some (.inr 1), some (.inl s), some (.inl f), none, none, none, none, none, none] [] σ := by
  refine Wp.rg (fun hR => ?_)
  have hn := hc.2.1
  have hns := hc.1
  refine w_aload_n dX1_chooseMost_0 rfl ?_
  refine gf_X1_35 rfl dX1_chooseMost_1 ?_
  refine w_iload_n dX1_chooseMost_4 rfl ?_
  refine w_iconst dX1_chooseMost_5 ?_
  refine w_iadd dX1_chooseMost_6 ?_
  refine w_aald rfl (by omega) dX1_chooseMost_7 ?_
  refine w_astore_n dX1_chooseMost_8 (Nat.le_of_ble_eq_true rfl) ?_
  refine w_aload_n dX1_chooseMost_9 rfl ?_
  refine w_iload_n dX1_chooseMost_10 rfl ?_
  refine w_iald (sh_least (by omega) (by omega)) (by omega) dX1_chooseMost_11 ?_
  refine w_istore dX1_chooseMost_12 (Nat.le_of_ble_eq_true rfl) ?_
  refine w_iconst dX1_chooseMost_14 ?_
  refine w_istore dX1_chooseMost_15 (Nat.le_of_ble_eq_true rfl) ?_
  refine w_aload_n dX1_chooseMost_17 rfl ?_
  refine gf_X1_21 rfl dX1_chooseMost_18 ?_
  refine w_iload_n dX1_chooseMost_21 rfl ?_
  refine w_iald rfl (by omega) dX1_chooseMost_22 ?_
  refine w_iconst dX1_chooseMost_23 ?_
  refine w_icmp_ne (tgt := 32) dX1_chooseMost_24 (by decide) (hR _ _) (by omega) (fun c_24 => ?_) (fun c_24 => ?_)
  · refine w_iconst dX1_chooseMost_32 ?_
    refine w_istore dX1_chooseMost_33 (Nat.le_of_ble_eq_true rfl) ?_
    refine w_aload_n dX1_chooseMost_35 rfl ?_
    refine gf_X1_21 rfl dX1_chooseMost_36 ?_
    refine w_iload_n dX1_chooseMost_39 rfl ?_
    refine w_iald rfl (by omega) dX1_chooseMost_40 ?_
    refine w_iconst dX1_chooseMost_41 ?_
    refine w_icmp_ne (tgt := 49) dX1_chooseMost_42 (by decide) (hR _ _) (by omega) (fun c_42 => ?_) (fun c_42 => ?_)
    · refine w_aload_n dX1_chooseMost_49 rfl ?_
      refine gf_X1_18 rfl dX1_chooseMost_50 ?_
      refine w_iload_n dX1_chooseMost_53 rfl ?_
      refine w_iald rfl (by omega) dX1_chooseMost_54 ?_
      refine w_istore dX1_chooseMost_55 (Nat.le_of_ble_eq_true rfl) ?_
      refine w_iload_n dX1_chooseMost_57 rfl ?_
      refine w_istore dX1_chooseMost_58 (Nat.le_of_ble_eq_true rfl) ?_
      refine up_to (σ 1 10) (fun i => f ≤ i → ∀ v h w a, (a = rmP (σ 16, σ 17, σ 18, σ 19, σ 20) s - sumF (σ 19) f (i - f) ∧ 0 ≤ a ∧ a ≤ 200 ∧ w = (if σ 17 s = 1 then 1000000 else 0) + sumF (pmP (σ 16, σ 17, σ 18, σ 19, σ 20) s) f (i - f) ∧ 0 ≤ w ∧ w ≤ 1000000 + 4001 * (i - f) ∧ (∀ m, 0 ≤ m → m ≤ i - f → v ≤ owP (σ 16, σ 17, σ 18, σ 19, σ 20) s f m + (σ (22 + (s + 1).toNat)) (f + m)) ∧ 0 ≤ h ∧ h ≤ i - f ∧ v = owP (σ 16, σ 17, σ 18, σ 19, σ 20) s f h + (σ (22 + (s + 1).toNat)) (f + h) ∧ ∀ m, h < m → m ≤ i - f → v < owP (σ 16, σ 17, σ 18, σ 19, σ 20) s f m + (σ (22 + (s + 1).toNat)) (f + m)) → Wp mX1_chooseMost 1 (fun z τ => ∃ v m, IsMn (σ 16, σ 17, σ 18, σ 19, σ 20) (σ 1 10) (σ (22 + (s + 1).toNat)) s f v ∧ IsMost (σ 16, σ 17, σ 18, σ 19, σ 20) (σ 1 10) (σ (22 + (s + 1).toNat)) s f v m ∧ 0 ≤ v ∧ v ≤ 1000000000 ∧ τ = put (put σ (22 + s.toNat) f v) (36 + s.toNat) f m) 60 [some (.inr 1), some (.inl s), some (.inl f), some (.inr (22 + (s + 1).toNat)), some (.inl v), some (.inl h), some (.inl w), some (.inl a), some (.inl i)] [] σ) (fun i hi ih h0 v h w a hinv => ?_) (f) (by omega) (by omega) _ 0 _ _ ⟨?_, ?_, ?_, ?_, ?_, ?_, ?_, by omega, by omega, ?_, ?_⟩
      rotate_left 1
      · rw [Int.sub_self, sumF_0]; unfold rmP; dsimp only; first | rw [if_pos (by omega)]; omega | rw [if_neg (by omega)]; omega
      · have := hc.2.2.1 s hs.1 hs.2; dsimp only at this; omega
      · have := hc.2.2.1 s hs.1 hs.2; dsimp only at this; omega
      · rw [Int.sub_self, sumF_0]; first | (rw [if_pos (by omega)]; rfl) | (rw [if_neg (by omega)]; rfl)
      · omega
      · omega
      · intro m m0 m1
        rw [show m = 0 by omega, owP_0, Int.zero_add, Int.add_zero]; exact Int.le_refl _
      · rw [owP_0, Int.zero_add, Int.add_zero]
      · intro m m0 m1; omega
      obtain ⟨i1, i2, i3, i4, i5, i6, i7, i8, i9, i10, i11⟩ := hinv
      have hvb : 0 ≤ v ∧ v ≤ 1000000000 := by
        have a1 := i7 0 (by omega) (by omega)
        rw [owP_0, Int.zero_add, Int.add_zero] at a1
        have a2 := hrow f (by omega) (by omega)
        have a3 := hrow (f + h) (by omega) (by omega)
        have a4 := owP_bd hc s hf.1 i8 (by omega)
        omega
      refine w_iload dX1_chooseMost_60 rfl ?_
      refine w_aload_n dX1_chooseMost_62 rfl ?_
      refine gf_X1_55 rfl dX1_chooseMost_63 ?_
      refine w_icmp_ge (tgt := 144) dX1_chooseMost_66 (by decide) (by omega) (by omega) (fun c_66 => ?_) (fun c_66 => ?_)
      · refine w_aload_n dX1_chooseMost_144 rfl ?_
        refine gf_X1_35 rfl dX1_chooseMost_145 ?_
        refine w_iload_n dX1_chooseMost_148 rfl ?_
        refine w_aald rfl (by omega) dX1_chooseMost_149 ?_
        refine w_iload_n dX1_chooseMost_150 rfl ?_
        refine w_iload dX1_chooseMost_151 rfl ?_
        refine w_iast (sh_least (by omega) (by omega)) (by omega) (by omega) dX1_chooseMost_153 ?_
        refine w_aload_n dX1_chooseMost_154 rfl ?_
        refine gf_X1_38 rfl dX1_chooseMost_155 ?_
        refine w_iload_n dX1_chooseMost_158 rfl ?_
        refine w_aald rfl (by omega) dX1_chooseMost_159 ?_
        refine w_iload_n dX1_chooseMost_160 rfl ?_
        refine w_iload dX1_chooseMost_161 rfl ?_
        refine w_iast (sh_most (by omega) (by omega)) (by omega) (by omega) dX1_chooseMost_163 ?_
        refine w_ret dX1_chooseMost_164 rfl ?_
        have hfit : ∀ m, fitP (σ 16, σ 17, σ 18, σ 19, σ 20) (σ 1 10) s f m ↔ 0 ≤ m ∧ m ≤ i - f := by
          intro m
          constructor
          · intro hm
            refine ⟨hm.1, ?_⟩
            have m2 := hm.2.1
            by_cases q : m ≤ i - f
            · exact q
            · exfalso
              have hm3 := hm.2.2
              have hmo := sumF_mono (w := σ 19) (f := f) (n := σ 1 10) (fun k k1 k2 => by have := hc.2.2.2 k (by omega) k2; dsimp only at this; omega) (a := i - f + 1) (b := m) (by omega) (by omega) m2
              rw [sumF_s _ _ (by omega), show f + (i - f) = i by omega] at hmo
              dsimp only at hm3
              omega
          · intro hm
            refine ⟨hm.1, by omega, ?_⟩
            have hmo := sumF_mono (w := σ 19) (f := f) (n := σ 1 10) (fun k k1 k2 => by have := hc.2.2.2 k (by omega) k2; dsimp only at this; omega) (a := m) (b := i - f) hm.1 hm.2 (by omega)
            dsimp only
            omega
        refine ⟨v, h, ⟨fun m hm => i7 m ((hfit m).mp hm).1 ((hfit m).mp hm).2, h, (hfit h).mpr ⟨by omega, by omega⟩, i10⟩, ⟨(hfit h).mpr ⟨by omega, by omega⟩, i10, fun m m1 hm => ?_⟩, by omega, by omega, rfl⟩
        have := i11 m m1 ((hfit m).mp hm).2
        omega
      · refine w_aload_n dX1_chooseMost_69 rfl ?_
        refine gf_X1_27 rfl dX1_chooseMost_70 ?_
        refine w_iload dX1_chooseMost_73 rfl ?_
        refine w_iald rfl (by omega) dX1_chooseMost_75 ?_
        refine w_iload dX1_chooseMost_76 rfl ?_
        refine w_icmp_gt (tgt := 144) dX1_chooseMost_78 (by decide) (hR _ _) (by omega) (fun c_78 => ?_) (fun c_78 => ?_)
        · refine w_aload_n dX1_chooseMost_144 rfl ?_
          refine gf_X1_35 rfl dX1_chooseMost_145 ?_
          refine w_iload_n dX1_chooseMost_148 rfl ?_
          refine w_aald rfl (by omega) dX1_chooseMost_149 ?_
          refine w_iload_n dX1_chooseMost_150 rfl ?_
          refine w_iload dX1_chooseMost_151 rfl ?_
          refine w_iast (sh_least (by omega) (by omega)) (by omega) (by omega) dX1_chooseMost_153 ?_
          refine w_aload_n dX1_chooseMost_154 rfl ?_
          refine gf_X1_38 rfl dX1_chooseMost_155 ?_
          refine w_iload_n dX1_chooseMost_158 rfl ?_
          refine w_aald rfl (by omega) dX1_chooseMost_159 ?_
          refine w_iload_n dX1_chooseMost_160 rfl ?_
          refine w_iload dX1_chooseMost_161 rfl ?_
          refine w_iast (sh_most (by omega) (by omega)) (by omega) (by omega) dX1_chooseMost_163 ?_
          refine w_ret dX1_chooseMost_164 rfl ?_
          have hfit : ∀ m, fitP (σ 16, σ 17, σ 18, σ 19, σ 20) (σ 1 10) s f m ↔ 0 ≤ m ∧ m ≤ i - f := by
            intro m
            constructor
            · intro hm
              refine ⟨hm.1, ?_⟩
              have m2 := hm.2.1
              by_cases q : m ≤ i - f
              · exact q
              · exfalso
                have hm3 := hm.2.2
                have hmo := sumF_mono (w := σ 19) (f := f) (n := σ 1 10) (fun k k1 k2 => by have := hc.2.2.2 k (by omega) k2; dsimp only at this; omega) (a := i - f + 1) (b := m) (by omega) (by omega) m2
                rw [sumF_s _ _ (by omega), show f + (i - f) = i by omega] at hmo
                dsimp only at hm3
                omega
            · intro hm
              refine ⟨hm.1, by omega, ?_⟩
              have hmo := sumF_mono (w := σ 19) (f := f) (n := σ 1 10) (fun k k1 k2 => by have := hc.2.2.2 k (by omega) k2; dsimp only at this; omega) (a := m) (b := i - f) hm.1 hm.2 (by omega)
              dsimp only
              omega
          refine ⟨v, h, ⟨fun m hm => i7 m ((hfit m).mp hm).1 ((hfit m).mp hm).2, h, (hfit h).mpr ⟨by omega, by omega⟩, i10⟩, ⟨(hfit h).mpr ⟨by omega, by omega⟩, i10, fun m m1 hm => ?_⟩, by omega, by omega, rfl⟩
          have := i11 m m1 ((hfit m).mp hm).2
          omega
        · have hcb := hc.2.2.2 i (by omega) (by omega)
          dsimp only at hcb
          refine w_iload dX1_chooseMost_81 rfl ?_
          refine w_aload_n dX1_chooseMost_83 rfl ?_
          refine gf_X1_27 rfl dX1_chooseMost_84 ?_
          refine w_iload dX1_chooseMost_87 rfl ?_
          refine w_iald rfl (by omega) dX1_chooseMost_89 ?_
          refine w_isub dX1_chooseMost_90 ?_
          refine w_istore dX1_chooseMost_91 (Nat.le_of_ble_eq_true rfl) ?_
          refine w_iload dX1_chooseMost_93 rfl ?_
          refine w_aload_n dX1_chooseMost_95 rfl ?_
          refine w_iload dX1_chooseMost_96 rfl ?_
          refine w_iload_n dX1_chooseMost_98 rfl ?_
          refine cv_X1_85 rfl dX1_chooseMost_99 (Nat.le_of_ble_eq_true rfl) (Nat.le_of_ble_eq_true rfl) (Wp.mono (ct_X1_priceOfMove σ (σ 16) (σ 17) (σ 19) i s (by omega) (by omega)) (fun z_ τ_ hq_ => ?_))
          obtain ⟨hz_, hs_⟩ := hq_
          subst z_
          subst τ_
          have hpm := pmP_bd hc s (b := i) (by omega) (by omega)
          have hrw := hrow (i + 1) (by omega) (by omega)
          refine w_iadd dX1_chooseMost_102 ?_
          refine w_istore dX1_chooseMost_103 (Nat.le_of_ble_eq_true rfl) ?_
          refine w_iload dX1_chooseMost_105 rfl ?_
          refine w_aload_n dX1_chooseMost_107 rfl ?_
          refine w_iload dX1_chooseMost_108 rfl ?_
          refine w_iconst dX1_chooseMost_110 ?_
          refine w_iadd dX1_chooseMost_111 ?_
          refine w_iald (sh_least (by omega) (by omega)) (by omega) dX1_chooseMost_112 ?_
          refine w_iadd dX1_chooseMost_113 ?_
          refine w_iload dX1_chooseMost_114 rfl ?_
          refine w_icmp_gt (tgt := 138) dX1_chooseMost_116 (by decide) (by omega) (by omega) (fun c_116 => ?_) (fun c_116 => ?_)
          · refine w_iinc dX1_chooseMost_138 (Nat.le_of_ble_eq_true rfl) rfl ?_
            refine w_goto (tgt := 60) dX1_chooseMost_141 (by decide) ?_
            have eo : owP (σ 16, σ 17, σ 18, σ 19, σ 20) s f (i + 1 - f) = (if σ 17 s = 1 then 1000000 else 0) + sumF (pmP (σ 16, σ 17, σ 18, σ 19, σ 20) s) f (i - f) + pmP (σ 16, σ 17, σ 18, σ 19, σ 20) s i := by
              unfold owP
              rw [show i + 1 - f = (i - f) + 1 by omega, sumF_s _ _ (by omega), show f + (i - f) = i by omega]
              dsimp only
              by_cases qk : σ 17 s = 1
              · rw [if_pos ⟨by omega, qk⟩, if_pos qk]; omega
              · rw [if_neg (fun q => qk q.2), if_neg qk]; omega
            refine ih (by omega) (by omega) _ _ _ _ ⟨?_, by omega, by omega, ?_, by omega, by omega, ?_, ?_, ?_, ?_, ?_⟩
            · rw [show i + 1 - f = (i - f) + 1 by omega, sumF_s _ _ (by omega), show f + (i - f) = i by omega]; omega
            · rw [show i + 1 - f = (i - f) + 1 by omega, sumF_s _ _ (by omega), show f + (i - f) = i by omega]; omega
            · intro m m0 m1
              by_cases e : m = i + 1 - f
              · rw [e, eo, show f + (i + 1 - f) = i + 1 by omega]; omega
              · have := i7 m m0 (by omega); omega
            · omega
            · omega
            · first
              | (rw [eo, show f + (i + 1 - f) = i + 1 by omega]; omega)
              | exact i10
            · intro m m0 m1
              by_cases e : m = i + 1 - f
              · rw [e, eo, show f + (i + 1 - f) = i + 1 by omega]; omega
              · have := i11 m (by omega) (by omega); omega
          · refine w_iload dX1_chooseMost_119 rfl ?_
            refine w_aload_n dX1_chooseMost_121 rfl ?_
            refine w_iload dX1_chooseMost_122 rfl ?_
            refine w_iconst dX1_chooseMost_124 ?_
            refine w_iadd dX1_chooseMost_125 ?_
            refine w_iald (sh_least (by omega) (by omega)) (by omega) dX1_chooseMost_126 ?_
            refine w_iadd dX1_chooseMost_127 ?_
            refine w_istore dX1_chooseMost_128 (Nat.le_of_ble_eq_true rfl) ?_
            refine w_iload dX1_chooseMost_130 rfl ?_
            refine w_iconst dX1_chooseMost_132 ?_
            refine w_iadd dX1_chooseMost_133 ?_
            refine w_iload_n dX1_chooseMost_134 rfl ?_
            refine w_isub dX1_chooseMost_135 ?_
            refine w_istore dX1_chooseMost_136 (Nat.le_of_ble_eq_true rfl) ?_
            refine w_iinc dX1_chooseMost_138 (Nat.le_of_ble_eq_true rfl) rfl ?_
            refine w_goto (tgt := 60) dX1_chooseMost_141 (by decide) ?_
            have eo : owP (σ 16, σ 17, σ 18, σ 19, σ 20) s f (i + 1 - f) = (if σ 17 s = 1 then 1000000 else 0) + sumF (pmP (σ 16, σ 17, σ 18, σ 19, σ 20) s) f (i - f) + pmP (σ 16, σ 17, σ 18, σ 19, σ 20) s i := by
              unfold owP
              rw [show i + 1 - f = (i - f) + 1 by omega, sumF_s _ _ (by omega), show f + (i - f) = i by omega]
              dsimp only
              by_cases qk : σ 17 s = 1
              · rw [if_pos ⟨by omega, qk⟩, if_pos qk]; omega
              · rw [if_neg (fun q => qk q.2), if_neg qk]; omega
            refine ih (by omega) (by omega) _ _ _ _ ⟨?_, by omega, by omega, ?_, by omega, by omega, ?_, ?_, ?_, ?_, ?_⟩
            · rw [show i + 1 - f = (i - f) + 1 by omega, sumF_s _ _ (by omega), show f + (i - f) = i by omega]; omega
            · rw [show i + 1 - f = (i - f) + 1 by omega, sumF_s _ _ (by omega), show f + (i - f) = i by omega]; omega
            · intro m m0 m1
              by_cases e : m = i + 1 - f
              · rw [e, eo, show f + (i + 1 - f) = i + 1 by omega]; omega
              · have := i7 m m0 (by omega); omega
            · omega
            · omega
            · first
              | (rw [eo, show f + (i + 1 - f) = i + 1 by omega]; omega)
              | exact i10
            · intro m m0 m1
              by_cases e : m = i + 1 - f
              · rw [e, eo, show f + (i + 1 - f) = i + 1 by omega]; omega
              · have := i11 m (by omega) (by omega); omega
    · refine w_iconst dX1_chooseMost_45 ?_
      refine w_goto (tgt := 55) dX1_chooseMost_46 (by decide) ?_
      refine w_istore dX1_chooseMost_55 (Nat.le_of_ble_eq_true rfl) ?_
      refine w_iload_n dX1_chooseMost_57 rfl ?_
      refine w_istore dX1_chooseMost_58 (Nat.le_of_ble_eq_true rfl) ?_
      refine up_to (σ 1 10) (fun i => f ≤ i → ∀ v h w a, (a = rmP (σ 16, σ 17, σ 18, σ 19, σ 20) s - sumF (σ 19) f (i - f) ∧ 0 ≤ a ∧ a ≤ 200 ∧ w = (if σ 17 s = 1 then 1000000 else 0) + sumF (pmP (σ 16, σ 17, σ 18, σ 19, σ 20) s) f (i - f) ∧ 0 ≤ w ∧ w ≤ 1000000 + 4001 * (i - f) ∧ (∀ m, 0 ≤ m → m ≤ i - f → v ≤ owP (σ 16, σ 17, σ 18, σ 19, σ 20) s f m + (σ (22 + (s + 1).toNat)) (f + m)) ∧ 0 ≤ h ∧ h ≤ i - f ∧ v = owP (σ 16, σ 17, σ 18, σ 19, σ 20) s f h + (σ (22 + (s + 1).toNat)) (f + h) ∧ ∀ m, h < m → m ≤ i - f → v < owP (σ 16, σ 17, σ 18, σ 19, σ 20) s f m + (σ (22 + (s + 1).toNat)) (f + m)) → Wp mX1_chooseMost 1 (fun z τ => ∃ v m, IsMn (σ 16, σ 17, σ 18, σ 19, σ 20) (σ 1 10) (σ (22 + (s + 1).toNat)) s f v ∧ IsMost (σ 16, σ 17, σ 18, σ 19, σ 20) (σ 1 10) (σ (22 + (s + 1).toNat)) s f v m ∧ 0 ≤ v ∧ v ≤ 1000000000 ∧ τ = put (put σ (22 + s.toNat) f v) (36 + s.toNat) f m) 60 [some (.inr 1), some (.inl s), some (.inl f), some (.inr (22 + (s + 1).toNat)), some (.inl v), some (.inl h), some (.inl w), some (.inl a), some (.inl i)] [] σ) (fun i hi ih h0 v h w a hinv => ?_) (f) (by omega) (by omega) _ 0 _ _ ⟨?_, ?_, ?_, ?_, ?_, ?_, ?_, by omega, by omega, ?_, ?_⟩
      rotate_left 1
      · rw [Int.sub_self, sumF_0]; unfold rmP; dsimp only; first | rw [if_pos (by omega)]; omega | rw [if_neg (by omega)]; omega
      · have := hc.2.2.1 s hs.1 hs.2; dsimp only at this; omega
      · have := hc.2.2.1 s hs.1 hs.2; dsimp only at this; omega
      · rw [Int.sub_self, sumF_0]; first | (rw [if_pos (by omega)]; rfl) | (rw [if_neg (by omega)]; rfl)
      · omega
      · omega
      · intro m m0 m1
        rw [show m = 0 by omega, owP_0, Int.zero_add, Int.add_zero]; exact Int.le_refl _
      · rw [owP_0, Int.zero_add, Int.add_zero]
      · intro m m0 m1; omega
      obtain ⟨i1, i2, i3, i4, i5, i6, i7, i8, i9, i10, i11⟩ := hinv
      have hvb : 0 ≤ v ∧ v ≤ 1000000000 := by
        have a1 := i7 0 (by omega) (by omega)
        rw [owP_0, Int.zero_add, Int.add_zero] at a1
        have a2 := hrow f (by omega) (by omega)
        have a3 := hrow (f + h) (by omega) (by omega)
        have a4 := owP_bd hc s hf.1 i8 (by omega)
        omega
      refine w_iload dX1_chooseMost_60 rfl ?_
      refine w_aload_n dX1_chooseMost_62 rfl ?_
      refine gf_X1_55 rfl dX1_chooseMost_63 ?_
      refine w_icmp_ge (tgt := 144) dX1_chooseMost_66 (by decide) (by omega) (by omega) (fun c_66 => ?_) (fun c_66 => ?_)
      · refine w_aload_n dX1_chooseMost_144 rfl ?_
        refine gf_X1_35 rfl dX1_chooseMost_145 ?_
        refine w_iload_n dX1_chooseMost_148 rfl ?_
        refine w_aald rfl (by omega) dX1_chooseMost_149 ?_
        refine w_iload_n dX1_chooseMost_150 rfl ?_
        refine w_iload dX1_chooseMost_151 rfl ?_
        refine w_iast (sh_least (by omega) (by omega)) (by omega) (by omega) dX1_chooseMost_153 ?_
        refine w_aload_n dX1_chooseMost_154 rfl ?_
        refine gf_X1_38 rfl dX1_chooseMost_155 ?_
        refine w_iload_n dX1_chooseMost_158 rfl ?_
        refine w_aald rfl (by omega) dX1_chooseMost_159 ?_
        refine w_iload_n dX1_chooseMost_160 rfl ?_
        refine w_iload dX1_chooseMost_161 rfl ?_
        refine w_iast (sh_most (by omega) (by omega)) (by omega) (by omega) dX1_chooseMost_163 ?_
        refine w_ret dX1_chooseMost_164 rfl ?_
        have hfit : ∀ m, fitP (σ 16, σ 17, σ 18, σ 19, σ 20) (σ 1 10) s f m ↔ 0 ≤ m ∧ m ≤ i - f := by
          intro m
          constructor
          · intro hm
            refine ⟨hm.1, ?_⟩
            have m2 := hm.2.1
            by_cases q : m ≤ i - f
            · exact q
            · exfalso
              have hm3 := hm.2.2
              have hmo := sumF_mono (w := σ 19) (f := f) (n := σ 1 10) (fun k k1 k2 => by have := hc.2.2.2 k (by omega) k2; dsimp only at this; omega) (a := i - f + 1) (b := m) (by omega) (by omega) m2
              rw [sumF_s _ _ (by omega), show f + (i - f) = i by omega] at hmo
              dsimp only at hm3
              omega
          · intro hm
            refine ⟨hm.1, by omega, ?_⟩
            have hmo := sumF_mono (w := σ 19) (f := f) (n := σ 1 10) (fun k k1 k2 => by have := hc.2.2.2 k (by omega) k2; dsimp only at this; omega) (a := m) (b := i - f) hm.1 hm.2 (by omega)
            dsimp only
            omega
        refine ⟨v, h, ⟨fun m hm => i7 m ((hfit m).mp hm).1 ((hfit m).mp hm).2, h, (hfit h).mpr ⟨by omega, by omega⟩, i10⟩, ⟨(hfit h).mpr ⟨by omega, by omega⟩, i10, fun m m1 hm => ?_⟩, by omega, by omega, rfl⟩
        have := i11 m m1 ((hfit m).mp hm).2
        omega
      · refine w_aload_n dX1_chooseMost_69 rfl ?_
        refine gf_X1_27 rfl dX1_chooseMost_70 ?_
        refine w_iload dX1_chooseMost_73 rfl ?_
        refine w_iald rfl (by omega) dX1_chooseMost_75 ?_
        refine w_iload dX1_chooseMost_76 rfl ?_
        refine w_icmp_gt (tgt := 144) dX1_chooseMost_78 (by decide) (hR _ _) (by omega) (fun c_78 => ?_) (fun c_78 => ?_)
        · refine w_aload_n dX1_chooseMost_144 rfl ?_
          refine gf_X1_35 rfl dX1_chooseMost_145 ?_
          refine w_iload_n dX1_chooseMost_148 rfl ?_
          refine w_aald rfl (by omega) dX1_chooseMost_149 ?_
          refine w_iload_n dX1_chooseMost_150 rfl ?_
          refine w_iload dX1_chooseMost_151 rfl ?_
          refine w_iast (sh_least (by omega) (by omega)) (by omega) (by omega) dX1_chooseMost_153 ?_
          refine w_aload_n dX1_chooseMost_154 rfl ?_
          refine gf_X1_38 rfl dX1_chooseMost_155 ?_
          refine w_iload_n dX1_chooseMost_158 rfl ?_
          refine w_aald rfl (by omega) dX1_chooseMost_159 ?_
          refine w_iload_n dX1_chooseMost_160 rfl ?_
          refine w_iload dX1_chooseMost_161 rfl ?_
          refine w_iast (sh_most (by omega) (by omega)) (by omega) (by omega) dX1_chooseMost_163 ?_
          refine w_ret dX1_chooseMost_164 rfl ?_
          have hfit : ∀ m, fitP (σ 16, σ 17, σ 18, σ 19, σ 20) (σ 1 10) s f m ↔ 0 ≤ m ∧ m ≤ i - f := by
            intro m
            constructor
            · intro hm
              refine ⟨hm.1, ?_⟩
              have m2 := hm.2.1
              by_cases q : m ≤ i - f
              · exact q
              · exfalso
                have hm3 := hm.2.2
                have hmo := sumF_mono (w := σ 19) (f := f) (n := σ 1 10) (fun k k1 k2 => by have := hc.2.2.2 k (by omega) k2; dsimp only at this; omega) (a := i - f + 1) (b := m) (by omega) (by omega) m2
                rw [sumF_s _ _ (by omega), show f + (i - f) = i by omega] at hmo
                dsimp only at hm3
                omega
            · intro hm
              refine ⟨hm.1, by omega, ?_⟩
              have hmo := sumF_mono (w := σ 19) (f := f) (n := σ 1 10) (fun k k1 k2 => by have := hc.2.2.2 k (by omega) k2; dsimp only at this; omega) (a := m) (b := i - f) hm.1 hm.2 (by omega)
              dsimp only
              omega
          refine ⟨v, h, ⟨fun m hm => i7 m ((hfit m).mp hm).1 ((hfit m).mp hm).2, h, (hfit h).mpr ⟨by omega, by omega⟩, i10⟩, ⟨(hfit h).mpr ⟨by omega, by omega⟩, i10, fun m m1 hm => ?_⟩, by omega, by omega, rfl⟩
          have := i11 m m1 ((hfit m).mp hm).2
          omega
        · have hcb := hc.2.2.2 i (by omega) (by omega)
          dsimp only at hcb
          refine w_iload dX1_chooseMost_81 rfl ?_
          refine w_aload_n dX1_chooseMost_83 rfl ?_
          refine gf_X1_27 rfl dX1_chooseMost_84 ?_
          refine w_iload dX1_chooseMost_87 rfl ?_
          refine w_iald rfl (by omega) dX1_chooseMost_89 ?_
          refine w_isub dX1_chooseMost_90 ?_
          refine w_istore dX1_chooseMost_91 (Nat.le_of_ble_eq_true rfl) ?_
          refine w_iload dX1_chooseMost_93 rfl ?_
          refine w_aload_n dX1_chooseMost_95 rfl ?_
          refine w_iload dX1_chooseMost_96 rfl ?_
          refine w_iload_n dX1_chooseMost_98 rfl ?_
          refine cv_X1_85 rfl dX1_chooseMost_99 (Nat.le_of_ble_eq_true rfl) (Nat.le_of_ble_eq_true rfl) (Wp.mono (ct_X1_priceOfMove σ (σ 16) (σ 17) (σ 19) i s (by omega) (by omega)) (fun z_ τ_ hq_ => ?_))
          obtain ⟨hz_, hs_⟩ := hq_
          subst z_
          subst τ_
          have hpm := pmP_bd hc s (b := i) (by omega) (by omega)
          have hrw := hrow (i + 1) (by omega) (by omega)
          refine w_iadd dX1_chooseMost_102 ?_
          refine w_istore dX1_chooseMost_103 (Nat.le_of_ble_eq_true rfl) ?_
          refine w_iload dX1_chooseMost_105 rfl ?_
          refine w_aload_n dX1_chooseMost_107 rfl ?_
          refine w_iload dX1_chooseMost_108 rfl ?_
          refine w_iconst dX1_chooseMost_110 ?_
          refine w_iadd dX1_chooseMost_111 ?_
          refine w_iald (sh_least (by omega) (by omega)) (by omega) dX1_chooseMost_112 ?_
          refine w_iadd dX1_chooseMost_113 ?_
          refine w_iload dX1_chooseMost_114 rfl ?_
          refine w_icmp_gt (tgt := 138) dX1_chooseMost_116 (by decide) (by omega) (by omega) (fun c_116 => ?_) (fun c_116 => ?_)
          · refine w_iinc dX1_chooseMost_138 (Nat.le_of_ble_eq_true rfl) rfl ?_
            refine w_goto (tgt := 60) dX1_chooseMost_141 (by decide) ?_
            have eo : owP (σ 16, σ 17, σ 18, σ 19, σ 20) s f (i + 1 - f) = (if σ 17 s = 1 then 1000000 else 0) + sumF (pmP (σ 16, σ 17, σ 18, σ 19, σ 20) s) f (i - f) + pmP (σ 16, σ 17, σ 18, σ 19, σ 20) s i := by
              unfold owP
              rw [show i + 1 - f = (i - f) + 1 by omega, sumF_s _ _ (by omega), show f + (i - f) = i by omega]
              dsimp only
              by_cases qk : σ 17 s = 1
              · rw [if_pos ⟨by omega, qk⟩, if_pos qk]; omega
              · rw [if_neg (fun q => qk q.2), if_neg qk]; omega
            refine ih (by omega) (by omega) _ _ _ _ ⟨?_, by omega, by omega, ?_, by omega, by omega, ?_, ?_, ?_, ?_, ?_⟩
            · rw [show i + 1 - f = (i - f) + 1 by omega, sumF_s _ _ (by omega), show f + (i - f) = i by omega]; omega
            · rw [show i + 1 - f = (i - f) + 1 by omega, sumF_s _ _ (by omega), show f + (i - f) = i by omega]; omega
            · intro m m0 m1
              by_cases e : m = i + 1 - f
              · rw [e, eo, show f + (i + 1 - f) = i + 1 by omega]; omega
              · have := i7 m m0 (by omega); omega
            · omega
            · omega
            · first
              | (rw [eo, show f + (i + 1 - f) = i + 1 by omega]; omega)
              | exact i10
            · intro m m0 m1
              by_cases e : m = i + 1 - f
              · rw [e, eo, show f + (i + 1 - f) = i + 1 by omega]; omega
              · have := i11 m (by omega) (by omega); omega
          · refine w_iload dX1_chooseMost_119 rfl ?_
            refine w_aload_n dX1_chooseMost_121 rfl ?_
            refine w_iload dX1_chooseMost_122 rfl ?_
            refine w_iconst dX1_chooseMost_124 ?_
            refine w_iadd dX1_chooseMost_125 ?_
            refine w_iald (sh_least (by omega) (by omega)) (by omega) dX1_chooseMost_126 ?_
            refine w_iadd dX1_chooseMost_127 ?_
            refine w_istore dX1_chooseMost_128 (Nat.le_of_ble_eq_true rfl) ?_
            refine w_iload dX1_chooseMost_130 rfl ?_
            refine w_iconst dX1_chooseMost_132 ?_
            refine w_iadd dX1_chooseMost_133 ?_
            refine w_iload_n dX1_chooseMost_134 rfl ?_
            refine w_isub dX1_chooseMost_135 ?_
            refine w_istore dX1_chooseMost_136 (Nat.le_of_ble_eq_true rfl) ?_
            refine w_iinc dX1_chooseMost_138 (Nat.le_of_ble_eq_true rfl) rfl ?_
            refine w_goto (tgt := 60) dX1_chooseMost_141 (by decide) ?_
            have eo : owP (σ 16, σ 17, σ 18, σ 19, σ 20) s f (i + 1 - f) = (if σ 17 s = 1 then 1000000 else 0) + sumF (pmP (σ 16, σ 17, σ 18, σ 19, σ 20) s) f (i - f) + pmP (σ 16, σ 17, σ 18, σ 19, σ 20) s i := by
              unfold owP
              rw [show i + 1 - f = (i - f) + 1 by omega, sumF_s _ _ (by omega), show f + (i - f) = i by omega]
              dsimp only
              by_cases qk : σ 17 s = 1
              · rw [if_pos ⟨by omega, qk⟩, if_pos qk]; omega
              · rw [if_neg (fun q => qk q.2), if_neg qk]; omega
            refine ih (by omega) (by omega) _ _ _ _ ⟨?_, by omega, by omega, ?_, by omega, by omega, ?_, ?_, ?_, ?_, ?_⟩
            · rw [show i + 1 - f = (i - f) + 1 by omega, sumF_s _ _ (by omega), show f + (i - f) = i by omega]; omega
            · rw [show i + 1 - f = (i - f) + 1 by omega, sumF_s _ _ (by omega), show f + (i - f) = i by omega]; omega
            · intro m m0 m1
              by_cases e : m = i + 1 - f
              · rw [e, eo, show f + (i + 1 - f) = i + 1 by omega]; omega
              · have := i7 m m0 (by omega); omega
            · omega
            · omega
            · first
              | (rw [eo, show f + (i + 1 - f) = i + 1 by omega]; omega)
              | exact i10
            · intro m m0 m1
              by_cases e : m = i + 1 - f
              · rw [e, eo, show f + (i + 1 - f) = i + 1 by omega]; omega
              · have := i11 m (by omega) (by omega); omega
  · refine w_ldc (n := 1000000) dX1_chooseMost_27 tw_373 ?_
    refine w_goto (tgt := 33) dX1_chooseMost_29 (by decide) ?_
    refine w_istore dX1_chooseMost_33 (Nat.le_of_ble_eq_true rfl) ?_
    refine w_aload_n dX1_chooseMost_35 rfl ?_
    refine gf_X1_21 rfl dX1_chooseMost_36 ?_
    refine w_iload_n dX1_chooseMost_39 rfl ?_
    refine w_iald rfl (by omega) dX1_chooseMost_40 ?_
    refine w_iconst dX1_chooseMost_41 ?_
    refine w_icmp_ne (tgt := 49) dX1_chooseMost_42 (by decide) (hR _ _) (by omega) (fun c_42 => ?_) (fun c_42 => ?_)
    · refine w_aload_n dX1_chooseMost_49 rfl ?_
      refine gf_X1_18 rfl dX1_chooseMost_50 ?_
      refine w_iload_n dX1_chooseMost_53 rfl ?_
      refine w_iald rfl (by omega) dX1_chooseMost_54 ?_
      refine w_istore dX1_chooseMost_55 (Nat.le_of_ble_eq_true rfl) ?_
      refine w_iload_n dX1_chooseMost_57 rfl ?_
      refine w_istore dX1_chooseMost_58 (Nat.le_of_ble_eq_true rfl) ?_
      refine up_to (σ 1 10) (fun i => f ≤ i → ∀ v h w a, (a = rmP (σ 16, σ 17, σ 18, σ 19, σ 20) s - sumF (σ 19) f (i - f) ∧ 0 ≤ a ∧ a ≤ 200 ∧ w = (if σ 17 s = 1 then 1000000 else 0) + sumF (pmP (σ 16, σ 17, σ 18, σ 19, σ 20) s) f (i - f) ∧ 0 ≤ w ∧ w ≤ 1000000 + 4001 * (i - f) ∧ (∀ m, 0 ≤ m → m ≤ i - f → v ≤ owP (σ 16, σ 17, σ 18, σ 19, σ 20) s f m + (σ (22 + (s + 1).toNat)) (f + m)) ∧ 0 ≤ h ∧ h ≤ i - f ∧ v = owP (σ 16, σ 17, σ 18, σ 19, σ 20) s f h + (σ (22 + (s + 1).toNat)) (f + h) ∧ ∀ m, h < m → m ≤ i - f → v < owP (σ 16, σ 17, σ 18, σ 19, σ 20) s f m + (σ (22 + (s + 1).toNat)) (f + m)) → Wp mX1_chooseMost 1 (fun z τ => ∃ v m, IsMn (σ 16, σ 17, σ 18, σ 19, σ 20) (σ 1 10) (σ (22 + (s + 1).toNat)) s f v ∧ IsMost (σ 16, σ 17, σ 18, σ 19, σ 20) (σ 1 10) (σ (22 + (s + 1).toNat)) s f v m ∧ 0 ≤ v ∧ v ≤ 1000000000 ∧ τ = put (put σ (22 + s.toNat) f v) (36 + s.toNat) f m) 60 [some (.inr 1), some (.inl s), some (.inl f), some (.inr (22 + (s + 1).toNat)), some (.inl v), some (.inl h), some (.inl w), some (.inl a), some (.inl i)] [] σ) (fun i hi ih h0 v h w a hinv => ?_) (f) (by omega) (by omega) _ 0 _ _ ⟨?_, ?_, ?_, ?_, ?_, ?_, ?_, by omega, by omega, ?_, ?_⟩
      rotate_left 1
      · rw [Int.sub_self, sumF_0]; unfold rmP; dsimp only; first | rw [if_pos (by omega)]; omega | rw [if_neg (by omega)]; omega
      · have := hc.2.2.1 s hs.1 hs.2; dsimp only at this; omega
      · have := hc.2.2.1 s hs.1 hs.2; dsimp only at this; omega
      · rw [Int.sub_self, sumF_0]; first | (rw [if_pos (by omega)]; rfl) | (rw [if_neg (by omega)]; rfl)
      · omega
      · omega
      · intro m m0 m1
        rw [show m = 0 by omega, owP_0, Int.zero_add, Int.add_zero]; exact Int.le_refl _
      · rw [owP_0, Int.zero_add, Int.add_zero]
      · intro m m0 m1; omega
      obtain ⟨i1, i2, i3, i4, i5, i6, i7, i8, i9, i10, i11⟩ := hinv
      have hvb : 0 ≤ v ∧ v ≤ 1000000000 := by
        have a1 := i7 0 (by omega) (by omega)
        rw [owP_0, Int.zero_add, Int.add_zero] at a1
        have a2 := hrow f (by omega) (by omega)
        have a3 := hrow (f + h) (by omega) (by omega)
        have a4 := owP_bd hc s hf.1 i8 (by omega)
        omega
      refine w_iload dX1_chooseMost_60 rfl ?_
      refine w_aload_n dX1_chooseMost_62 rfl ?_
      refine gf_X1_55 rfl dX1_chooseMost_63 ?_
      refine w_icmp_ge (tgt := 144) dX1_chooseMost_66 (by decide) (by omega) (by omega) (fun c_66 => ?_) (fun c_66 => ?_)
      · refine w_aload_n dX1_chooseMost_144 rfl ?_
        refine gf_X1_35 rfl dX1_chooseMost_145 ?_
        refine w_iload_n dX1_chooseMost_148 rfl ?_
        refine w_aald rfl (by omega) dX1_chooseMost_149 ?_
        refine w_iload_n dX1_chooseMost_150 rfl ?_
        refine w_iload dX1_chooseMost_151 rfl ?_
        refine w_iast (sh_least (by omega) (by omega)) (by omega) (by omega) dX1_chooseMost_153 ?_
        refine w_aload_n dX1_chooseMost_154 rfl ?_
        refine gf_X1_38 rfl dX1_chooseMost_155 ?_
        refine w_iload_n dX1_chooseMost_158 rfl ?_
        refine w_aald rfl (by omega) dX1_chooseMost_159 ?_
        refine w_iload_n dX1_chooseMost_160 rfl ?_
        refine w_iload dX1_chooseMost_161 rfl ?_
        refine w_iast (sh_most (by omega) (by omega)) (by omega) (by omega) dX1_chooseMost_163 ?_
        refine w_ret dX1_chooseMost_164 rfl ?_
        have hfit : ∀ m, fitP (σ 16, σ 17, σ 18, σ 19, σ 20) (σ 1 10) s f m ↔ 0 ≤ m ∧ m ≤ i - f := by
          intro m
          constructor
          · intro hm
            refine ⟨hm.1, ?_⟩
            have m2 := hm.2.1
            by_cases q : m ≤ i - f
            · exact q
            · exfalso
              have hm3 := hm.2.2
              have hmo := sumF_mono (w := σ 19) (f := f) (n := σ 1 10) (fun k k1 k2 => by have := hc.2.2.2 k (by omega) k2; dsimp only at this; omega) (a := i - f + 1) (b := m) (by omega) (by omega) m2
              rw [sumF_s _ _ (by omega), show f + (i - f) = i by omega] at hmo
              dsimp only at hm3
              omega
          · intro hm
            refine ⟨hm.1, by omega, ?_⟩
            have hmo := sumF_mono (w := σ 19) (f := f) (n := σ 1 10) (fun k k1 k2 => by have := hc.2.2.2 k (by omega) k2; dsimp only at this; omega) (a := m) (b := i - f) hm.1 hm.2 (by omega)
            dsimp only
            omega
        refine ⟨v, h, ⟨fun m hm => i7 m ((hfit m).mp hm).1 ((hfit m).mp hm).2, h, (hfit h).mpr ⟨by omega, by omega⟩, i10⟩, ⟨(hfit h).mpr ⟨by omega, by omega⟩, i10, fun m m1 hm => ?_⟩, by omega, by omega, rfl⟩
        have := i11 m m1 ((hfit m).mp hm).2
        omega
      · refine w_aload_n dX1_chooseMost_69 rfl ?_
        refine gf_X1_27 rfl dX1_chooseMost_70 ?_
        refine w_iload dX1_chooseMost_73 rfl ?_
        refine w_iald rfl (by omega) dX1_chooseMost_75 ?_
        refine w_iload dX1_chooseMost_76 rfl ?_
        refine w_icmp_gt (tgt := 144) dX1_chooseMost_78 (by decide) (hR _ _) (by omega) (fun c_78 => ?_) (fun c_78 => ?_)
        · refine w_aload_n dX1_chooseMost_144 rfl ?_
          refine gf_X1_35 rfl dX1_chooseMost_145 ?_
          refine w_iload_n dX1_chooseMost_148 rfl ?_
          refine w_aald rfl (by omega) dX1_chooseMost_149 ?_
          refine w_iload_n dX1_chooseMost_150 rfl ?_
          refine w_iload dX1_chooseMost_151 rfl ?_
          refine w_iast (sh_least (by omega) (by omega)) (by omega) (by omega) dX1_chooseMost_153 ?_
          refine w_aload_n dX1_chooseMost_154 rfl ?_
          refine gf_X1_38 rfl dX1_chooseMost_155 ?_
          refine w_iload_n dX1_chooseMost_158 rfl ?_
          refine w_aald rfl (by omega) dX1_chooseMost_159 ?_
          refine w_iload_n dX1_chooseMost_160 rfl ?_
          refine w_iload dX1_chooseMost_161 rfl ?_
          refine w_iast (sh_most (by omega) (by omega)) (by omega) (by omega) dX1_chooseMost_163 ?_
          refine w_ret dX1_chooseMost_164 rfl ?_
          have hfit : ∀ m, fitP (σ 16, σ 17, σ 18, σ 19, σ 20) (σ 1 10) s f m ↔ 0 ≤ m ∧ m ≤ i - f := by
            intro m
            constructor
            · intro hm
              refine ⟨hm.1, ?_⟩
              have m2 := hm.2.1
              by_cases q : m ≤ i - f
              · exact q
              · exfalso
                have hm3 := hm.2.2
                have hmo := sumF_mono (w := σ 19) (f := f) (n := σ 1 10) (fun k k1 k2 => by have := hc.2.2.2 k (by omega) k2; dsimp only at this; omega) (a := i - f + 1) (b := m) (by omega) (by omega) m2
                rw [sumF_s _ _ (by omega), show f + (i - f) = i by omega] at hmo
                dsimp only at hm3
                omega
            · intro hm
              refine ⟨hm.1, by omega, ?_⟩
              have hmo := sumF_mono (w := σ 19) (f := f) (n := σ 1 10) (fun k k1 k2 => by have := hc.2.2.2 k (by omega) k2; dsimp only at this; omega) (a := m) (b := i - f) hm.1 hm.2 (by omega)
              dsimp only
              omega
          refine ⟨v, h, ⟨fun m hm => i7 m ((hfit m).mp hm).1 ((hfit m).mp hm).2, h, (hfit h).mpr ⟨by omega, by omega⟩, i10⟩, ⟨(hfit h).mpr ⟨by omega, by omega⟩, i10, fun m m1 hm => ?_⟩, by omega, by omega, rfl⟩
          have := i11 m m1 ((hfit m).mp hm).2
          omega
        · have hcb := hc.2.2.2 i (by omega) (by omega)
          dsimp only at hcb
          refine w_iload dX1_chooseMost_81 rfl ?_
          refine w_aload_n dX1_chooseMost_83 rfl ?_
          refine gf_X1_27 rfl dX1_chooseMost_84 ?_
          refine w_iload dX1_chooseMost_87 rfl ?_
          refine w_iald rfl (by omega) dX1_chooseMost_89 ?_
          refine w_isub dX1_chooseMost_90 ?_
          refine w_istore dX1_chooseMost_91 (Nat.le_of_ble_eq_true rfl) ?_
          refine w_iload dX1_chooseMost_93 rfl ?_
          refine w_aload_n dX1_chooseMost_95 rfl ?_
          refine w_iload dX1_chooseMost_96 rfl ?_
          refine w_iload_n dX1_chooseMost_98 rfl ?_
          refine cv_X1_85 rfl dX1_chooseMost_99 (Nat.le_of_ble_eq_true rfl) (Nat.le_of_ble_eq_true rfl) (Wp.mono (ct_X1_priceOfMove σ (σ 16) (σ 17) (σ 19) i s (by omega) (by omega)) (fun z_ τ_ hq_ => ?_))
          obtain ⟨hz_, hs_⟩ := hq_
          subst z_
          subst τ_
          have hpm := pmP_bd hc s (b := i) (by omega) (by omega)
          have hrw := hrow (i + 1) (by omega) (by omega)
          refine w_iadd dX1_chooseMost_102 ?_
          refine w_istore dX1_chooseMost_103 (Nat.le_of_ble_eq_true rfl) ?_
          refine w_iload dX1_chooseMost_105 rfl ?_
          refine w_aload_n dX1_chooseMost_107 rfl ?_
          refine w_iload dX1_chooseMost_108 rfl ?_
          refine w_iconst dX1_chooseMost_110 ?_
          refine w_iadd dX1_chooseMost_111 ?_
          refine w_iald (sh_least (by omega) (by omega)) (by omega) dX1_chooseMost_112 ?_
          refine w_iadd dX1_chooseMost_113 ?_
          refine w_iload dX1_chooseMost_114 rfl ?_
          refine w_icmp_gt (tgt := 138) dX1_chooseMost_116 (by decide) (by omega) (by omega) (fun c_116 => ?_) (fun c_116 => ?_)
          · refine w_iinc dX1_chooseMost_138 (Nat.le_of_ble_eq_true rfl) rfl ?_
            refine w_goto (tgt := 60) dX1_chooseMost_141 (by decide) ?_
            have eo : owP (σ 16, σ 17, σ 18, σ 19, σ 20) s f (i + 1 - f) = (if σ 17 s = 1 then 1000000 else 0) + sumF (pmP (σ 16, σ 17, σ 18, σ 19, σ 20) s) f (i - f) + pmP (σ 16, σ 17, σ 18, σ 19, σ 20) s i := by
              unfold owP
              rw [show i + 1 - f = (i - f) + 1 by omega, sumF_s _ _ (by omega), show f + (i - f) = i by omega]
              dsimp only
              by_cases qk : σ 17 s = 1
              · rw [if_pos ⟨by omega, qk⟩, if_pos qk]; omega
              · rw [if_neg (fun q => qk q.2), if_neg qk]; omega
            refine ih (by omega) (by omega) _ _ _ _ ⟨?_, by omega, by omega, ?_, by omega, by omega, ?_, ?_, ?_, ?_, ?_⟩
            · rw [show i + 1 - f = (i - f) + 1 by omega, sumF_s _ _ (by omega), show f + (i - f) = i by omega]; omega
            · rw [show i + 1 - f = (i - f) + 1 by omega, sumF_s _ _ (by omega), show f + (i - f) = i by omega]; omega
            · intro m m0 m1
              by_cases e : m = i + 1 - f
              · rw [e, eo, show f + (i + 1 - f) = i + 1 by omega]; omega
              · have := i7 m m0 (by omega); omega
            · omega
            · omega
            · first
              | (rw [eo, show f + (i + 1 - f) = i + 1 by omega]; omega)
              | exact i10
            · intro m m0 m1
              by_cases e : m = i + 1 - f
              · rw [e, eo, show f + (i + 1 - f) = i + 1 by omega]; omega
              · have := i11 m (by omega) (by omega); omega
          · refine w_iload dX1_chooseMost_119 rfl ?_
            refine w_aload_n dX1_chooseMost_121 rfl ?_
            refine w_iload dX1_chooseMost_122 rfl ?_
            refine w_iconst dX1_chooseMost_124 ?_
            refine w_iadd dX1_chooseMost_125 ?_
            refine w_iald (sh_least (by omega) (by omega)) (by omega) dX1_chooseMost_126 ?_
            refine w_iadd dX1_chooseMost_127 ?_
            refine w_istore dX1_chooseMost_128 (Nat.le_of_ble_eq_true rfl) ?_
            refine w_iload dX1_chooseMost_130 rfl ?_
            refine w_iconst dX1_chooseMost_132 ?_
            refine w_iadd dX1_chooseMost_133 ?_
            refine w_iload_n dX1_chooseMost_134 rfl ?_
            refine w_isub dX1_chooseMost_135 ?_
            refine w_istore dX1_chooseMost_136 (Nat.le_of_ble_eq_true rfl) ?_
            refine w_iinc dX1_chooseMost_138 (Nat.le_of_ble_eq_true rfl) rfl ?_
            refine w_goto (tgt := 60) dX1_chooseMost_141 (by decide) ?_
            have eo : owP (σ 16, σ 17, σ 18, σ 19, σ 20) s f (i + 1 - f) = (if σ 17 s = 1 then 1000000 else 0) + sumF (pmP (σ 16, σ 17, σ 18, σ 19, σ 20) s) f (i - f) + pmP (σ 16, σ 17, σ 18, σ 19, σ 20) s i := by
              unfold owP
              rw [show i + 1 - f = (i - f) + 1 by omega, sumF_s _ _ (by omega), show f + (i - f) = i by omega]
              dsimp only
              by_cases qk : σ 17 s = 1
              · rw [if_pos ⟨by omega, qk⟩, if_pos qk]; omega
              · rw [if_neg (fun q => qk q.2), if_neg qk]; omega
            refine ih (by omega) (by omega) _ _ _ _ ⟨?_, by omega, by omega, ?_, by omega, by omega, ?_, ?_, ?_, ?_, ?_⟩
            · rw [show i + 1 - f = (i - f) + 1 by omega, sumF_s _ _ (by omega), show f + (i - f) = i by omega]; omega
            · rw [show i + 1 - f = (i - f) + 1 by omega, sumF_s _ _ (by omega), show f + (i - f) = i by omega]; omega
            · intro m m0 m1
              by_cases e : m = i + 1 - f
              · rw [e, eo, show f + (i + 1 - f) = i + 1 by omega]; omega
              · have := i7 m m0 (by omega); omega
            · omega
            · omega
            · first
              | (rw [eo, show f + (i + 1 - f) = i + 1 by omega]; omega)
              | exact i10
            · intro m m0 m1
              by_cases e : m = i + 1 - f
              · rw [e, eo, show f + (i + 1 - f) = i + 1 by omega]; omega
              · have := i11 m (by omega) (by omega); omega
    · refine w_iconst dX1_chooseMost_45 ?_
      refine w_goto (tgt := 55) dX1_chooseMost_46 (by decide) ?_
      refine w_istore dX1_chooseMost_55 (Nat.le_of_ble_eq_true rfl) ?_
      refine w_iload_n dX1_chooseMost_57 rfl ?_
      refine w_istore dX1_chooseMost_58 (Nat.le_of_ble_eq_true rfl) ?_
      refine up_to (σ 1 10) (fun i => f ≤ i → ∀ v h w a, (a = rmP (σ 16, σ 17, σ 18, σ 19, σ 20) s - sumF (σ 19) f (i - f) ∧ 0 ≤ a ∧ a ≤ 200 ∧ w = (if σ 17 s = 1 then 1000000 else 0) + sumF (pmP (σ 16, σ 17, σ 18, σ 19, σ 20) s) f (i - f) ∧ 0 ≤ w ∧ w ≤ 1000000 + 4001 * (i - f) ∧ (∀ m, 0 ≤ m → m ≤ i - f → v ≤ owP (σ 16, σ 17, σ 18, σ 19, σ 20) s f m + (σ (22 + (s + 1).toNat)) (f + m)) ∧ 0 ≤ h ∧ h ≤ i - f ∧ v = owP (σ 16, σ 17, σ 18, σ 19, σ 20) s f h + (σ (22 + (s + 1).toNat)) (f + h) ∧ ∀ m, h < m → m ≤ i - f → v < owP (σ 16, σ 17, σ 18, σ 19, σ 20) s f m + (σ (22 + (s + 1).toNat)) (f + m)) → Wp mX1_chooseMost 1 (fun z τ => ∃ v m, IsMn (σ 16, σ 17, σ 18, σ 19, σ 20) (σ 1 10) (σ (22 + (s + 1).toNat)) s f v ∧ IsMost (σ 16, σ 17, σ 18, σ 19, σ 20) (σ 1 10) (σ (22 + (s + 1).toNat)) s f v m ∧ 0 ≤ v ∧ v ≤ 1000000000 ∧ τ = put (put σ (22 + s.toNat) f v) (36 + s.toNat) f m) 60 [some (.inr 1), some (.inl s), some (.inl f), some (.inr (22 + (s + 1).toNat)), some (.inl v), some (.inl h), some (.inl w), some (.inl a), some (.inl i)] [] σ) (fun i hi ih h0 v h w a hinv => ?_) (f) (by omega) (by omega) _ 0 _ _ ⟨?_, ?_, ?_, ?_, ?_, ?_, ?_, by omega, by omega, ?_, ?_⟩
      rotate_left 1
      · rw [Int.sub_self, sumF_0]; unfold rmP; dsimp only; first | rw [if_pos (by omega)]; omega | rw [if_neg (by omega)]; omega
      · have := hc.2.2.1 s hs.1 hs.2; dsimp only at this; omega
      · have := hc.2.2.1 s hs.1 hs.2; dsimp only at this; omega
      · rw [Int.sub_self, sumF_0]; first | (rw [if_pos (by omega)]; rfl) | (rw [if_neg (by omega)]; rfl)
      · omega
      · omega
      · intro m m0 m1
        rw [show m = 0 by omega, owP_0, Int.zero_add, Int.add_zero]; exact Int.le_refl _
      · rw [owP_0, Int.zero_add, Int.add_zero]
      · intro m m0 m1; omega
      obtain ⟨i1, i2, i3, i4, i5, i6, i7, i8, i9, i10, i11⟩ := hinv
      have hvb : 0 ≤ v ∧ v ≤ 1000000000 := by
        have a1 := i7 0 (by omega) (by omega)
        rw [owP_0, Int.zero_add, Int.add_zero] at a1
        have a2 := hrow f (by omega) (by omega)
        have a3 := hrow (f + h) (by omega) (by omega)
        have a4 := owP_bd hc s hf.1 i8 (by omega)
        omega
      refine w_iload dX1_chooseMost_60 rfl ?_
      refine w_aload_n dX1_chooseMost_62 rfl ?_
      refine gf_X1_55 rfl dX1_chooseMost_63 ?_
      refine w_icmp_ge (tgt := 144) dX1_chooseMost_66 (by decide) (by omega) (by omega) (fun c_66 => ?_) (fun c_66 => ?_)
      · refine w_aload_n dX1_chooseMost_144 rfl ?_
        refine gf_X1_35 rfl dX1_chooseMost_145 ?_
        refine w_iload_n dX1_chooseMost_148 rfl ?_
        refine w_aald rfl (by omega) dX1_chooseMost_149 ?_
        refine w_iload_n dX1_chooseMost_150 rfl ?_
        refine w_iload dX1_chooseMost_151 rfl ?_
        refine w_iast (sh_least (by omega) (by omega)) (by omega) (by omega) dX1_chooseMost_153 ?_
        refine w_aload_n dX1_chooseMost_154 rfl ?_
        refine gf_X1_38 rfl dX1_chooseMost_155 ?_
        refine w_iload_n dX1_chooseMost_158 rfl ?_
        refine w_aald rfl (by omega) dX1_chooseMost_159 ?_
        refine w_iload_n dX1_chooseMost_160 rfl ?_
        refine w_iload dX1_chooseMost_161 rfl ?_
        refine w_iast (sh_most (by omega) (by omega)) (by omega) (by omega) dX1_chooseMost_163 ?_
        refine w_ret dX1_chooseMost_164 rfl ?_
        have hfit : ∀ m, fitP (σ 16, σ 17, σ 18, σ 19, σ 20) (σ 1 10) s f m ↔ 0 ≤ m ∧ m ≤ i - f := by
          intro m
          constructor
          · intro hm
            refine ⟨hm.1, ?_⟩
            have m2 := hm.2.1
            by_cases q : m ≤ i - f
            · exact q
            · exfalso
              have hm3 := hm.2.2
              have hmo := sumF_mono (w := σ 19) (f := f) (n := σ 1 10) (fun k k1 k2 => by have := hc.2.2.2 k (by omega) k2; dsimp only at this; omega) (a := i - f + 1) (b := m) (by omega) (by omega) m2
              rw [sumF_s _ _ (by omega), show f + (i - f) = i by omega] at hmo
              dsimp only at hm3
              omega
          · intro hm
            refine ⟨hm.1, by omega, ?_⟩
            have hmo := sumF_mono (w := σ 19) (f := f) (n := σ 1 10) (fun k k1 k2 => by have := hc.2.2.2 k (by omega) k2; dsimp only at this; omega) (a := m) (b := i - f) hm.1 hm.2 (by omega)
            dsimp only
            omega
        refine ⟨v, h, ⟨fun m hm => i7 m ((hfit m).mp hm).1 ((hfit m).mp hm).2, h, (hfit h).mpr ⟨by omega, by omega⟩, i10⟩, ⟨(hfit h).mpr ⟨by omega, by omega⟩, i10, fun m m1 hm => ?_⟩, by omega, by omega, rfl⟩
        have := i11 m m1 ((hfit m).mp hm).2
        omega
      · refine w_aload_n dX1_chooseMost_69 rfl ?_
        refine gf_X1_27 rfl dX1_chooseMost_70 ?_
        refine w_iload dX1_chooseMost_73 rfl ?_
        refine w_iald rfl (by omega) dX1_chooseMost_75 ?_
        refine w_iload dX1_chooseMost_76 rfl ?_
        refine w_icmp_gt (tgt := 144) dX1_chooseMost_78 (by decide) (hR _ _) (by omega) (fun c_78 => ?_) (fun c_78 => ?_)
        · refine w_aload_n dX1_chooseMost_144 rfl ?_
          refine gf_X1_35 rfl dX1_chooseMost_145 ?_
          refine w_iload_n dX1_chooseMost_148 rfl ?_
          refine w_aald rfl (by omega) dX1_chooseMost_149 ?_
          refine w_iload_n dX1_chooseMost_150 rfl ?_
          refine w_iload dX1_chooseMost_151 rfl ?_
          refine w_iast (sh_least (by omega) (by omega)) (by omega) (by omega) dX1_chooseMost_153 ?_
          refine w_aload_n dX1_chooseMost_154 rfl ?_
          refine gf_X1_38 rfl dX1_chooseMost_155 ?_
          refine w_iload_n dX1_chooseMost_158 rfl ?_
          refine w_aald rfl (by omega) dX1_chooseMost_159 ?_
          refine w_iload_n dX1_chooseMost_160 rfl ?_
          refine w_iload dX1_chooseMost_161 rfl ?_
          refine w_iast (sh_most (by omega) (by omega)) (by omega) (by omega) dX1_chooseMost_163 ?_
          refine w_ret dX1_chooseMost_164 rfl ?_
          have hfit : ∀ m, fitP (σ 16, σ 17, σ 18, σ 19, σ 20) (σ 1 10) s f m ↔ 0 ≤ m ∧ m ≤ i - f := by
            intro m
            constructor
            · intro hm
              refine ⟨hm.1, ?_⟩
              have m2 := hm.2.1
              by_cases q : m ≤ i - f
              · exact q
              · exfalso
                have hm3 := hm.2.2
                have hmo := sumF_mono (w := σ 19) (f := f) (n := σ 1 10) (fun k k1 k2 => by have := hc.2.2.2 k (by omega) k2; dsimp only at this; omega) (a := i - f + 1) (b := m) (by omega) (by omega) m2
                rw [sumF_s _ _ (by omega), show f + (i - f) = i by omega] at hmo
                dsimp only at hm3
                omega
            · intro hm
              refine ⟨hm.1, by omega, ?_⟩
              have hmo := sumF_mono (w := σ 19) (f := f) (n := σ 1 10) (fun k k1 k2 => by have := hc.2.2.2 k (by omega) k2; dsimp only at this; omega) (a := m) (b := i - f) hm.1 hm.2 (by omega)
              dsimp only
              omega
          refine ⟨v, h, ⟨fun m hm => i7 m ((hfit m).mp hm).1 ((hfit m).mp hm).2, h, (hfit h).mpr ⟨by omega, by omega⟩, i10⟩, ⟨(hfit h).mpr ⟨by omega, by omega⟩, i10, fun m m1 hm => ?_⟩, by omega, by omega, rfl⟩
          have := i11 m m1 ((hfit m).mp hm).2
          omega
        · have hcb := hc.2.2.2 i (by omega) (by omega)
          dsimp only at hcb
          refine w_iload dX1_chooseMost_81 rfl ?_
          refine w_aload_n dX1_chooseMost_83 rfl ?_
          refine gf_X1_27 rfl dX1_chooseMost_84 ?_
          refine w_iload dX1_chooseMost_87 rfl ?_
          refine w_iald rfl (by omega) dX1_chooseMost_89 ?_
          refine w_isub dX1_chooseMost_90 ?_
          refine w_istore dX1_chooseMost_91 (Nat.le_of_ble_eq_true rfl) ?_
          refine w_iload dX1_chooseMost_93 rfl ?_
          refine w_aload_n dX1_chooseMost_95 rfl ?_
          refine w_iload dX1_chooseMost_96 rfl ?_
          refine w_iload_n dX1_chooseMost_98 rfl ?_
          refine cv_X1_85 rfl dX1_chooseMost_99 (Nat.le_of_ble_eq_true rfl) (Nat.le_of_ble_eq_true rfl) (Wp.mono (ct_X1_priceOfMove σ (σ 16) (σ 17) (σ 19) i s (by omega) (by omega)) (fun z_ τ_ hq_ => ?_))
          obtain ⟨hz_, hs_⟩ := hq_
          subst z_
          subst τ_
          have hpm := pmP_bd hc s (b := i) (by omega) (by omega)
          have hrw := hrow (i + 1) (by omega) (by omega)
          refine w_iadd dX1_chooseMost_102 ?_
          refine w_istore dX1_chooseMost_103 (Nat.le_of_ble_eq_true rfl) ?_
          refine w_iload dX1_chooseMost_105 rfl ?_
          refine w_aload_n dX1_chooseMost_107 rfl ?_
          refine w_iload dX1_chooseMost_108 rfl ?_
          refine w_iconst dX1_chooseMost_110 ?_
          refine w_iadd dX1_chooseMost_111 ?_
          refine w_iald (sh_least (by omega) (by omega)) (by omega) dX1_chooseMost_112 ?_
          refine w_iadd dX1_chooseMost_113 ?_
          refine w_iload dX1_chooseMost_114 rfl ?_
          refine w_icmp_gt (tgt := 138) dX1_chooseMost_116 (by decide) (by omega) (by omega) (fun c_116 => ?_) (fun c_116 => ?_)
          · refine w_iinc dX1_chooseMost_138 (Nat.le_of_ble_eq_true rfl) rfl ?_
            refine w_goto (tgt := 60) dX1_chooseMost_141 (by decide) ?_
            have eo : owP (σ 16, σ 17, σ 18, σ 19, σ 20) s f (i + 1 - f) = (if σ 17 s = 1 then 1000000 else 0) + sumF (pmP (σ 16, σ 17, σ 18, σ 19, σ 20) s) f (i - f) + pmP (σ 16, σ 17, σ 18, σ 19, σ 20) s i := by
              unfold owP
              rw [show i + 1 - f = (i - f) + 1 by omega, sumF_s _ _ (by omega), show f + (i - f) = i by omega]
              dsimp only
              by_cases qk : σ 17 s = 1
              · rw [if_pos ⟨by omega, qk⟩, if_pos qk]; omega
              · rw [if_neg (fun q => qk q.2), if_neg qk]; omega
            refine ih (by omega) (by omega) _ _ _ _ ⟨?_, by omega, by omega, ?_, by omega, by omega, ?_, ?_, ?_, ?_, ?_⟩
            · rw [show i + 1 - f = (i - f) + 1 by omega, sumF_s _ _ (by omega), show f + (i - f) = i by omega]; omega
            · rw [show i + 1 - f = (i - f) + 1 by omega, sumF_s _ _ (by omega), show f + (i - f) = i by omega]; omega
            · intro m m0 m1
              by_cases e : m = i + 1 - f
              · rw [e, eo, show f + (i + 1 - f) = i + 1 by omega]; omega
              · have := i7 m m0 (by omega); omega
            · omega
            · omega
            · first
              | (rw [eo, show f + (i + 1 - f) = i + 1 by omega]; omega)
              | exact i10
            · intro m m0 m1
              by_cases e : m = i + 1 - f
              · rw [e, eo, show f + (i + 1 - f) = i + 1 by omega]; omega
              · have := i11 m (by omega) (by omega); omega
          · refine w_iload dX1_chooseMost_119 rfl ?_
            refine w_aload_n dX1_chooseMost_121 rfl ?_
            refine w_iload dX1_chooseMost_122 rfl ?_
            refine w_iconst dX1_chooseMost_124 ?_
            refine w_iadd dX1_chooseMost_125 ?_
            refine w_iald (sh_least (by omega) (by omega)) (by omega) dX1_chooseMost_126 ?_
            refine w_iadd dX1_chooseMost_127 ?_
            refine w_istore dX1_chooseMost_128 (Nat.le_of_ble_eq_true rfl) ?_
            refine w_iload dX1_chooseMost_130 rfl ?_
            refine w_iconst dX1_chooseMost_132 ?_
            refine w_iadd dX1_chooseMost_133 ?_
            refine w_iload_n dX1_chooseMost_134 rfl ?_
            refine w_isub dX1_chooseMost_135 ?_
            refine w_istore dX1_chooseMost_136 (Nat.le_of_ble_eq_true rfl) ?_
            refine w_iinc dX1_chooseMost_138 (Nat.le_of_ble_eq_true rfl) rfl ?_
            refine w_goto (tgt := 60) dX1_chooseMost_141 (by decide) ?_
            have eo : owP (σ 16, σ 17, σ 18, σ 19, σ 20) s f (i + 1 - f) = (if σ 17 s = 1 then 1000000 else 0) + sumF (pmP (σ 16, σ 17, σ 18, σ 19, σ 20) s) f (i - f) + pmP (σ 16, σ 17, σ 18, σ 19, σ 20) s i := by
              unfold owP
              rw [show i + 1 - f = (i - f) + 1 by omega, sumF_s _ _ (by omega), show f + (i - f) = i by omega]
              dsimp only
              by_cases qk : σ 17 s = 1
              · rw [if_pos ⟨by omega, qk⟩, if_pos qk]; omega
              · rw [if_neg (fun q => qk q.2), if_neg qk]; omega
            refine ih (by omega) (by omega) _ _ _ _ ⟨?_, by omega, by omega, ?_, by omega, by omega, ?_, ?_, ?_, ?_, ?_⟩
            · rw [show i + 1 - f = (i - f) + 1 by omega, sumF_s _ _ (by omega), show f + (i - f) = i by omega]; omega
            · rw [show i + 1 - f = (i - f) + 1 by omega, sumF_s _ _ (by omega), show f + (i - f) = i by omega]; omega
            · intro m m0 m1
              by_cases e : m = i + 1 - f
              · rw [e, eo, show f + (i + 1 - f) = i + 1 by omega]; omega
              · have := i7 m m0 (by omega); omega
            · omega
            · omega
            · first
              | (rw [eo, show f + (i + 1 - f) = i + 1 by omega]; omega)
              | exact i10
            · intro m m0 m1
              by_cases e : m = i + 1 - f
              · rw [e, eo, show f + (i + 1 - f) = i + 1 by omega]; omega
              · have := i11 m (by omega) (by omega); omega
end
section
theorem pos_put (g : Int → Int) (i v : Int) {s : Int} (h : s ≤ i) : sumF (upF g i v) 0 s = sumF g 0 s := sumF_congr (n := i) (fun k k1 k2 => by unfold upF; rw [if_neg (by omega)]) (by omega)
theorem put_row (σ : St) (k : Nat) (i x : Int) : put σ k i x k = upF (σ k) i x := by
  funext b
  simp [put_eq, upF]

set_option maxRecDepth 100000 in
set_option maxHeartbeats 4000000 in
theorem ct_X1_follow (σ : St) (hns : 0 ≤ σ 1 9 ∧ σ 1 9 ≤ 12) (hn : 0 ≤ σ 1 10 ∧ σ 1 10 ≤ 60) (hm : ∀ s, 0 ≤ s → s < σ 1 9 → ∀ f, 0 ≤ f → f ≤ σ 1 10 → 0 ≤ σ (36 + s.toNat) f ∧ f + σ (36 + s.toNat) f ≤ σ 1 10) : Wp mX1_follow 0 (fun z τ => (∀ s, 0 ≤ s → s < σ 1 9 → τ 15 s = σ (36 + s.toNat) (sumF (τ 15) 0 s)) ∧ (∀ s b, 0 ≤ s → s < σ 1 9 → sumF (τ 15) 0 s ≤ b → b < sumF (τ 15) 0 (s + 1) → τ 14 b = s) ∧ (∀ k, k ≠ 14 → k ≠ 15 → τ k = σ k)) 0 [some (.inr 1), none, none, none, none] [] σ := by
  refine Wp.rg (fun hR => ?_)
  have hpb : ∀ (τ : St) (i : Int), (∀ s, 0 ≤ s → s < i → τ 15 s = σ (36 + s.toNat) (sumF (τ 15) 0 s)) → i ≤ σ 1 9 → ∀ s, 0 ≤ s → s ≤ i → 0 ≤ sumF (τ 15) 0 s ∧ sumF (τ 15) 0 s ≤ σ 1 10 := by
    intro τ i hq hi s s0 s1
    have key : ∀ k : Nat, (k : Int) ≤ i → 0 ≤ sumF (τ 15) 0 k ∧ sumF (τ 15) 0 k ≤ σ 1 10 := by
      intro k
      induction k with
      | zero => intro _; rw [show ((0 : Nat) : Int) = 0 from rfl, sumF_0]; omega
      | succ k ih =>
        intro hk
        have ih := ih (by omega)
        rw [show ((k + 1 : Nat) : Int) = (k : Int) + 1 by omega, pos_s _ (by omega), hq k (by omega) (by omega)]
        have := hm k (by omega) (by omega) _ ih.1 ih.2
        omega
    have := key s.toNat (by omega)
    rwa [show ((s.toNat : Nat) : Int) = s by omega] at this
  refine w_iconst dX1_follow_0 ?_
  refine w_istore_n dX1_follow_1 (Nat.le_of_ble_eq_true rfl) ?_
  refine w_iconst dX1_follow_2 ?_
  refine w_istore_n dX1_follow_3 (Nat.le_of_ble_eq_true rfl) ?_
  refine up_to (σ 1 9) (fun i => 0 ≤ i → ∀ (τ : St) (f : Int) (x3 x4 : Option PV), ((∀ s, 0 ≤ s → s < i → τ 15 s = σ (36 + s.toNat) (sumF (τ 15) 0 s)) ∧ (∀ s b, 0 ≤ s → s < i → sumF (τ 15) 0 s ≤ b → b < sumF (τ 15) 0 (s + 1) → τ 14 b = s) ∧ (∀ k, k ≠ 14 → k ≠ 15 → τ k = σ k) ∧ f = sumF (τ 15) 0 i ∧ 0 ≤ f ∧ f ≤ σ 1 10) → Wp mX1_follow 0 (fun z τ => (∀ s, 0 ≤ s → s < σ 1 9 → τ 15 s = σ (36 + s.toNat) (sumF (τ 15) 0 s)) ∧ (∀ s b, 0 ≤ s → s < σ 1 9 → sumF (τ 15) 0 s ≤ b → b < sumF (τ 15) 0 (s + 1) → τ 14 b = s) ∧ (∀ k, k ≠ 14 → k ≠ 15 → τ k = σ k)) 4 [some (.inr 1), some (.inl f), some (.inl i), x3, x4] [] τ) (fun i hi ih h0 τ f x3 x4 hinv => ?_) (0) (by omega) (by omega) σ 0 _ _ ⟨fun s s0 s1 => by omega, fun s b s0 s1 => by omega, fun k _ _ => rfl, rfl, by omega, by omega⟩
  obtain ⟨q1, q2, q3, q4, q5, q6⟩ := hinv
  have e1 : τ 1 = σ 1 := q3 1 (by decide) (by decide)
  refine Wp.rg (fun hR2 => ?_)
  refine w_iload_n dX1_follow_4 rfl ?_
  refine w_aload_n dX1_follow_5 rfl ?_
  refine gf_X1_47 rfl dX1_follow_6 ?_
  refine w_icmp_ge (tgt := 66) dX1_follow_9 (by decide) (by omega) (by rw [e1]; omega) (fun c_9 => ?_) (fun c_9 => ?_)
  · refine w_ret dX1_follow_66 rfl ?_
    exact ⟨fun s s0 s1 => q1 s s0 (by rw [e1] at c_9; omega), fun s b s0 s1 => q2 s b s0 (by rw [e1] at c_9; omega), q3⟩
  · rw [e1] at c_9
    have hmi := hm i h0 c_9 f q5 q6
    have em : τ (36 + i.toNat) = σ (36 + i.toNat) := q3 _ (by omega) (by omega)
    refine w_aload_n dX1_follow_12 rfl ?_
    refine gf_X1_15 rfl dX1_follow_13 ?_
    refine w_iload_n dX1_follow_16 rfl ?_
    refine w_aload_n dX1_follow_17 rfl ?_
    refine gf_X1_38 rfl dX1_follow_18 ?_
    refine w_iload_n dX1_follow_21 rfl ?_
    refine w_aald rfl (by omega) dX1_follow_22 ?_
    refine w_iload_n dX1_follow_23 rfl ?_
    refine w_iald (sh_most (by omega) (by omega)) (by omega) dX1_follow_24 ?_
    rw [em]
    refine w_iast rfl (by omega) (hR _ _) dX1_follow_25 ?_
    refine w_iload_n dX1_follow_26 rfl ?_
    refine w_aload_n dX1_follow_27 rfl ?_
    refine gf_X1_15 rfl dX1_follow_28 ?_
    refine w_iload_n dX1_follow_31 rfl ?_
    refine w_iald rfl (by omega) dX1_follow_32 ?_
    refine w_iadd dX1_follow_33 ?_
    refine w_istore_n dX1_follow_34 (Nat.le_of_ble_eq_true rfl) ?_
    refine w_iload_n dX1_follow_35 rfl ?_
    refine w_istore dX1_follow_36 (Nat.le_of_ble_eq_true rfl) ?_
    simp only [put_eq, if_true]
    obtain ⟨e, he⟩ : ∃ e, e = f + σ (36 + i.toNat) f := ⟨_, rfl⟩
    rw [← he]
    refine up_to (e) (fun j => f ≤ j → ∀ (τ : St), ((∀ s, 0 ≤ s → s < i → τ 15 s = σ (36 + s.toNat) (sumF (τ 15) 0 s)) ∧ (∀ s b, 0 ≤ s → s < i → sumF (τ 15) 0 s ≤ b → b < sumF (τ 15) 0 (s + 1) → τ 14 b = s) ∧ (∀ k, k ≠ 14 → k ≠ 15 → τ k = σ k) ∧ f = sumF (τ 15) 0 i ∧ e = f + τ 15 i ∧ τ 15 i = σ (36 + i.toNat) f ∧ (∀ b, f ≤ b → b < j → τ 14 b = i)) → Wp mX1_follow 0 (fun z τ => (∀ s, 0 ≤ s → s < σ 1 9 → τ 15 s = σ (36 + s.toNat) (sumF (τ 15) 0 s)) ∧ (∀ s b, 0 ≤ s → s < σ 1 9 → sumF (τ 15) 0 s ≤ b → b < sumF (τ 15) 0 (s + 1) → τ 14 b = s) ∧ (∀ k, k ≠ 14 → k ≠ 15 → τ k = σ k)) 38 [some (.inr 1), some (.inl f), some (.inl i), some (.inl e), some (.inl j)] [] τ) (fun j hi2 ih2 h02 τ hinv2 => ?_) (f) (by omega) (by omega) _ ⟨?_, ?_, ?_, ?_, ?_, ?_, fun b b1 b2 => by omega⟩
    rotate_left 1
    · intro s s0 s1
      rw [put_row, pos_put _ _ _ (by omega)]
      unfold upF
      rw [if_neg (by omega)]
      exact q1 s s0 s1
    · intro s b s0 s1 b1 b2
      rw [put_row, pos_put _ _ _ (by omega)] at b1 b2
      rw [put_ne (by decide)]
      exact q2 s b s0 s1 b1 b2
    · intro k k1 k2
      rw [put_ne k2]; exact q3 k k1 k2
    · rw [put_row, pos_put _ _ _ (by omega)]; exact q4
    · simp [put_eq, he]
    · simp [put_eq]
    obtain ⟨r1, r2, r3, r4, r5, r6, r7⟩ := hinv2
    have e1 : τ 1 = σ 1 := r3 1 (by decide) (by decide)
    have hpos : ∀ s, 0 ≤ s → s < i → sumF (τ 15) 0 (s + 1) ≤ f := by
      intro s s0 s1
      rw [r4]
      refine sumF_mono (n := i) (fun k k1 k2 => ?_) (by omega) (by omega) (by omega)
      rw [r1 k k1 k2]
      have hpk := hpb τ i r1 (by omega) k k1 (by omega)
      exact (hm k k1 (by omega) _ hpk.1 hpk.2).1
    refine w_iload dX1_follow_38 rfl ?_
    refine w_iload_n dX1_follow_40 rfl ?_
    refine w_icmp_ge (tgt := 58) dX1_follow_41 (by decide) (by omega) (by omega) (fun c_41 => ?_) (fun c_41 => ?_)
    · refine w_iload_n dX1_follow_58 rfl ?_
      refine w_istore_n dX1_follow_59 (Nat.le_of_ble_eq_true rfl) ?_
      refine w_iinc dX1_follow_60 (Nat.le_of_ble_eq_true rfl) rfl ?_
      refine w_goto (tgt := 4) dX1_follow_63 (by decide) ?_
      refine ih (by omega) (by omega) _ _ _ _ ⟨?_, ?_, r3, ?_, by omega, by omega⟩
      · intro s s0 s1
        by_cases q : s = i
        · subst q; rw [r6, ← r4]
        · exact r1 s s0 (by omega)
      · intro s b s0 s1 b1 b2
        by_cases q : s = i
        · subst q
          rw [← r4] at b1
          rw [pos_s _ s0, ← r4] at b2
          exact r7 b b1 (by omega)
        · exact r2 s b s0 (by omega) b1 b2
      · rw [pos_s _ h0, ← r4]; exact r5
    · refine w_aload_n dX1_follow_44 rfl ?_
      refine gf_X1_9 rfl dX1_follow_45 ?_
      refine w_iload dX1_follow_48 rfl ?_
      refine w_iload_n dX1_follow_50 rfl ?_
      refine w_iast rfl (by omega) (by omega) dX1_follow_51 ?_
      refine w_iinc dX1_follow_52 (Nat.le_of_ble_eq_true rfl) rfl ?_
      refine w_goto (tgt := 38) dX1_follow_55 (by decide) ?_
      refine ih2 (by omega) (by omega) _ ⟨?_, ?_, fun k k1 k2 => by rw [put_ne k1]; exact r3 k k1 k2, by rw [put_ne (by decide)]; exact r4, by rw [put_ne (by decide)]; exact r5, by rw [put_ne (by decide)]; exact r6, fun b b1 b2 => ?_⟩
      · rw [put_ne (by decide)]; exact r1
      · rw [put_ne (by decide)]
        intro s b s0 s1 b1 b2
        have hp := hpos s s0 s1
        rw [put_eq, if_pos rfl, if_neg (by omega)]
        exact r2 s b s0 s1 b1 b2
      · rw [put_eq, if_pos rfl]
        by_cases q : b = j
        · rw [if_pos q]
        · rw [if_neg q]; exact r7 b b1 (by omega)

def BaseR (τ : St) (ns n : Int) : Prop := ∀ b, 0 ≤ b → b ≤ n → τ (22 + ns.toNat) b = if b = n then 0 else 1000000000
def GoodE (c : CP) (n : Int) (τ : St) (s f : Int) : Prop := IsMn c n (τ (22 + (s + 1).toNat)) s f (τ (22 + s.toNat) f) ∧ IsMost c n (τ (22 + (s + 1).toNat)) s f (τ (22 + s.toNat) f) (τ (36 + s.toNat) f) ∧ 0 ≤ τ (22 + s.toNat) f ∧ τ (22 + s.toNat) f ≤ 1000000000
theorem GoodE.keep {c : CP} {n s f : Int} {τ υ : St} (h : GoodE c n τ s f) (e1 : υ (22 + (s + 1).toNat) = τ (22 + (s + 1).toNat)) (e2 : υ (22 + s.toNat) f = τ (22 + s.toNat) f) (e3 : υ (36 + s.toNat) f = τ (36 + s.toNat) f) : GoodE c n υ s f := by
  unfold GoodE
  rw [e1, e2, e3]
  exact h

set_option maxRecDepth 100000 in
set_option maxHeartbeats 4000000 in
theorem ct_X1_findCuts (σ : St) (hc : CPok (σ 16, σ 17, σ 18, σ 19, σ 20) (σ 1 9) (σ 1 10)) : Wp mX1_findCuts 2 (fun z τ => ∃ L, TblL (σ 16, σ 17, σ 18, σ 19, σ 20) (σ 1 9) (σ 1 10) L ∧ L 0 0 = τ 1 11 ∧ ((z = 1 ∧ L 0 0 < 1000000000 ∧ IsCut (σ 16, σ 17, σ 18, σ 19, σ 20) (σ 1 9) (σ 1 10) L (τ 15) ∧ GoIs (τ 15) (τ 14) (σ 1 9)) ∨ (z = 0 ∧ 1000000000 ≤ L 0 0)) ∧ (∀ j, j ≠ 11 → τ 1 j = σ 1 j) ∧ (∀ k, k ≠ 1 → k ≠ 14 → k ≠ 15 → (k < 22 ∨ 47 < k) → τ k = σ k)) 0 [some (.inr 1), none, none] [] σ := by
  refine Wp.rg (fun hR => ?_)
  have hns := hc.1
  have hn := hc.2.1
  refine w_iconst dX1_findCuts_0 ?_
  refine w_istore_n dX1_findCuts_1 (Nat.le_of_ble_eq_true rfl) ?_
  refine up_to (σ 1 10) (fun i => 0 ≤ i → ∀ (τ : St), ((∀ b, 0 ≤ b → b < i → τ (22 + (σ 1 9).toNat) b = 1000000000) ∧ (∀ k, (k < 22 ∨ 47 < k) → τ k = σ k)) → Wp mX1_findCuts 2 (fun z τ => ∃ L, TblL (σ 16, σ 17, σ 18, σ 19, σ 20) (σ 1 9) (σ 1 10) L ∧ L 0 0 = τ 1 11 ∧ ((z = 1 ∧ L 0 0 < 1000000000 ∧ IsCut (σ 16, σ 17, σ 18, σ 19, σ 20) (σ 1 9) (σ 1 10) L (τ 15) ∧ GoIs (τ 15) (τ 14) (σ 1 9)) ∨ (z = 0 ∧ 1000000000 ≤ L 0 0)) ∧ (∀ j, j ≠ 11 → τ 1 j = σ 1 j) ∧ (∀ k, k ≠ 1 → k ≠ 14 → k ≠ 15 → (k < 22 ∨ 47 < k) → τ k = σ k)) 2 [some (.inr 1), some (.inl i), none] [] τ) (fun i hi ih h0 τ hinv => ?_) (0) (by omega) (by omega) σ ⟨fun b b0 b1 => by omega, fun k _ => rfl⟩
  obtain ⟨p1, p2⟩ := hinv
  have e1 : τ 1 = σ 1 := p2 1 (by omega)
  refine w_iload_n dX1_findCuts_2 rfl ?_
  refine w_aload_n dX1_findCuts_3 rfl ?_
  refine gf_X1_55 rfl dX1_findCuts_4 ?_
  refine w_icmp_ge (tgt := 29) dX1_findCuts_7 (by decide) (by omega) (by rw [e1]; omega) (fun c_7 => ?_) (fun c_7 => ?_)
  · rw [e1] at c_7
    refine w_aload_n dX1_findCuts_29 rfl ?_
    refine gf_X1_35 rfl dX1_findCuts_30 ?_
    refine w_aload_n dX1_findCuts_33 rfl ?_
    refine gf_X1_47 rfl dX1_findCuts_34 ?_
    refine w_aald rfl (by rw [e1]; omega) dX1_findCuts_37 ?_
    refine w_aload_n dX1_findCuts_38 rfl ?_
    refine gf_X1_55 rfl dX1_findCuts_39 ?_
    refine w_iconst dX1_findCuts_42 ?_
    refine w_iast (sh_least (by rw [e1]; omega) (by rw [e1]; omega)) (by rw [e1]; omega) (by omega) dX1_findCuts_43 ?_
    refine w_aload_n dX1_findCuts_44 rfl ?_
    refine gf_X1_47 rfl dX1_findCuts_45 ?_
    refine w_iconst dX1_findCuts_48 ?_
    refine w_isub dX1_findCuts_49 ?_
    refine w_istore_n dX1_findCuts_50 (Nat.le_of_ble_eq_true rfl) ?_
    rw [e1, put_ne (show (1 : Nat) ≠ 22 + (σ 1 9).toNat by omega), e1]
    refine down_to (-1) (fun i => i < σ 1 9 → ∀ (τ : St) (x2 : Option PV), (BaseR τ (σ 1 9) (σ 1 10) ∧ (∀ s, i < s → s < σ 1 9 → ∀ f, 0 ≤ f → f ≤ σ 1 10 → GoodE (σ 16, σ 17, σ 18, σ 19, σ 20) (σ 1 10) τ s f) ∧ (∀ k, (k < 22 ∨ 47 < k) → τ k = σ k)) → Wp mX1_findCuts 2 (fun z τ => ∃ L, TblL (σ 16, σ 17, σ 18, σ 19, σ 20) (σ 1 9) (σ 1 10) L ∧ L 0 0 = τ 1 11 ∧ ((z = 1 ∧ L 0 0 < 1000000000 ∧ IsCut (σ 16, σ 17, σ 18, σ 19, σ 20) (σ 1 9) (σ 1 10) L (τ 15) ∧ GoIs (τ 15) (τ 14) (σ 1 9)) ∨ (z = 0 ∧ 1000000000 ≤ L 0 0)) ∧ (∀ j, j ≠ 11 → τ 1 j = σ 1 j) ∧ (∀ k, k ≠ 1 → k ≠ 14 → k ≠ 15 → (k < 22 ∨ 47 < k) → τ k = σ k)) 51 [some (.inr 1), some (.inl i), x2] [] τ) (fun i hi ih h0 τ x2 hinv => ?_) (σ 1 9 - 1) (by omega) (by omega) _ _ ⟨?_, fun s s0 s1 => by omega, ?_⟩
    rotate_left 1
    · intro b b0 b1
      rw [put_eq, if_pos rfl]
      by_cases q : b = σ 1 10
      · rw [if_pos q, if_pos q]
      · rw [if_neg q, if_neg q]; exact p1 b b0 (by omega)
    · intro k hk
      rw [put_ne (by omega)]; exact p2 k hk
    obtain ⟨q1, q2, q3⟩ := hinv
    have e1 : τ 1 = σ 1 := q3 1 (by omega)
    refine Wp.rg (fun hR2 => ?_)
    refine w_iload_n dX1_findCuts_51 rfl ?_
    refine w_if_lt (tgt := 83) dX1_findCuts_52 (by decide) (by omega) (fun c_52 => ?_) (fun c_52 => ?_)
    · have hT : TblL (σ 16, σ 17, σ 18, σ 19, σ 20) (σ 1 9) (σ 1 10) (fun s b => τ (22 + s.toNat) b) := ⟨q1, fun s s0 s1 f f0 f1 => (q2 s (by omega) s1 f f0 f1).1⟩
      refine w_aload_n dX1_findCuts_83 rfl ?_
      refine w_aload_n dX1_findCuts_84 rfl ?_
      refine gf_X1_35 rfl dX1_findCuts_85 ?_
      refine w_iconst dX1_findCuts_88 ?_
      refine w_aald rfl (by omega) dX1_findCuts_89 ?_
      refine w_iconst dX1_findCuts_90 ?_
      refine w_iald (sh_least (by omega) (by omega)) (by omega) dX1_findCuts_91 ?_
      refine pf_X1_78 rfl (hR2 _ _) dX1_findCuts_92 ?_
      refine w_aload_n dX1_findCuts_95 rfl ?_
      refine gf_X1_78 rfl dX1_findCuts_96 ?_
      refine w_ldc (n := 1000000000) dX1_findCuts_99 tw_368 ?_
      refine w_icmp_lt (tgt := 106) dX1_findCuts_101 (by decide) (by simp only [put_eq]; simp; exact hR2 _ _) (by omega) (fun c_101 => ?_) (fun c_101 => ?_)
      · have hfm : ∀ s, 0 ≤ s → s < put τ 1 11 (τ 22 0) 1 9 → ∀ f, 0 ≤ f → f ≤ put τ 1 11 (τ 22 0) 1 10 → 0 ≤ put τ 1 11 (τ 22 0) (36 + s.toNat) f ∧ f + put τ 1 11 (τ 22 0) (36 + s.toNat) f ≤ put τ 1 11 (τ 22 0) 1 10 := by
          simp only [put_eq]
          simp
          rw [e1]
          intro s s0 s1 f f0 f1
          rw [if_neg (by omega)]
          have := (q2 s (by omega) s1 f f0 f1).2.1.1
          exact ⟨this.1, this.2.1⟩
        refine w_aload_n dX1_findCuts_106 rfl ?_
        refine cv_X1_81 rfl dX1_findCuts_107 (Nat.le_of_ble_eq_true rfl) (Nat.le_of_ble_eq_true rfl) (Wp.mono (ct_X1_follow _ (by simp only [put_eq]; simp; rw [e1]; omega) (by simp only [put_eq]; simp; rw [e1]; omega) hfm) (fun z_ τ_ hq_ => ?_))
        obtain ⟨g1, g2, g3⟩ := hq_
        rw [show (22 + Int.toNat 0) = 22 from rfl] at g1 g2 g3
        refine w_iconst dX1_findCuts_110 ?_
        refine w_zret dX1_findCuts_111 rfl (by omega) ?_
        have e9 : put τ 1 11 (τ 22 0) 1 9 = σ 1 9 := by simp [put_eq, e1]
        rw [e9] at g1 g2
        have g11 : τ_ 1 = put τ 1 11 (τ 22 0) 1 := g3 1 (by decide) (by decide)
        refine ⟨fun s b => τ (22 + s.toNat) b, hT, by rw [g11]; simp [put_eq], Or.inl ⟨rfl, ?_, ?_, fun s b s0 s1 b0 b1 => g2 s b s0 s1 b0 b1⟩, fun j hj => by rw [g11]; simp [put_eq, hj, e1], fun k k1 k2 k3 hk => by rw [g3 k k2 k3, put_ne k1]; exact q3 k hk⟩
        · simp [put_eq] at c_101; exact c_101
        · have key : ∀ j : Nat, (j : Int) ≤ σ 1 9 → 0 ≤ sumF (τ_ 15) 0 j ∧ sumF (τ_ 15) 0 j ≤ σ 1 10 := by
            intro j
            induction j with
            | zero => intro _; rw [show ((0 : Nat) : Int) = 0 from rfl, sumF_0]; have := hc.2.1; omega
            | succ j ihj =>
              intro hj
              have ihj := ihj (by omega)
              rw [show ((j + 1 : Nat) : Int) = (j : Int) + 1 by omega, pos_s _ (by omega), g1 j (by omega) (by omega), put_ne (by omega)]
              have := (q2 j (by omega) (by omega) _ ihj.1 ihj.2).2.1.1
              have a1 := this.1
              have a2 := this.2.1
              omega
          intro s s0 s1
          have kp := key s.toNat (by omega)
          rw [show ((s.toNat : Nat) : Int) = s by omega] at kp
          have a1 := (q2 s (by omega) s1 _ kp.1 kp.2).2.1
          have a2 := g1 s s0 s1
          rw [put_ne (by omega)] at a2
          rw [a2]
          exact a1
      · refine w_iconst dX1_findCuts_104 ?_
        refine w_zret dX1_findCuts_105 rfl (by omega) ?_
        refine ⟨fun s b => τ (22 + s.toNat) b, hT, by simp [put_eq], Or.inr ⟨rfl, ?_⟩, fun j hj => by simp [put_eq, hj, e1], fun k k1 k2 k3 hk => by rw [put_ne k1]; exact q3 k hk⟩
        simp [put_eq] at c_101
        exact c_101
    · refine w_iconst dX1_findCuts_55 ?_
      refine w_istore_n dX1_findCuts_56 (Nat.le_of_ble_eq_true rfl) ?_
      clear e1
      refine up_to (σ 1 10 + 1) (fun j => 0 ≤ j → ∀ (τ : St), (BaseR τ (σ 1 9) (σ 1 10) ∧ (∀ s, i < s → s < σ 1 9 → ∀ f, 0 ≤ f → f ≤ σ 1 10 → GoodE (σ 16, σ 17, σ 18, σ 19, σ 20) (σ 1 10) τ s f) ∧ (∀ f, 0 ≤ f → f < j → GoodE (σ 16, σ 17, σ 18, σ 19, σ 20) (σ 1 10) τ i f) ∧ (∀ k, (k < 22 ∨ 47 < k) → τ k = σ k)) → Wp mX1_findCuts 2 (fun z τ => ∃ L, TblL (σ 16, σ 17, σ 18, σ 19, σ 20) (σ 1 9) (σ 1 10) L ∧ L 0 0 = τ 1 11 ∧ ((z = 1 ∧ L 0 0 < 1000000000 ∧ IsCut (σ 16, σ 17, σ 18, σ 19, σ 20) (σ 1 9) (σ 1 10) L (τ 15) ∧ GoIs (τ 15) (τ 14) (σ 1 9)) ∨ (z = 0 ∧ 1000000000 ≤ L 0 0)) ∧ (∀ j, j ≠ 11 → τ 1 j = σ 1 j) ∧ (∀ k, k ≠ 1 → k ≠ 14 → k ≠ 15 → (k < 22 ∨ 47 < k) → τ k = σ k)) 57 [some (.inr 1), some (.inl i), some (.inl j)] [] τ) (fun j hi2 ih2 h02 τ hinv2 => ?_) (0) (by omega) (by omega) _ ⟨q1, q2, fun f f0 f1 => by omega, q3⟩
      obtain ⟨r1, r2, r3, r4⟩ := hinv2
      have e1 : τ 1 = σ 1 := r4 1 (by omega)
      have e16 : τ 16 = σ 16 := r4 16 (by omega)
      have e17 : τ 17 = σ 17 := r4 17 (by omega)
      have e18 : τ 18 = σ 18 := r4 18 (by omega)
      have e19 : τ 19 = σ 19 := r4 19 (by omega)
      have e20 : τ 20 = σ 20 := r4 20 (by omega)
      refine w_iload_n dX1_findCuts_57 rfl ?_
      refine w_aload_n dX1_findCuts_58 rfl ?_
      refine gf_X1_55 rfl dX1_findCuts_59 ?_
      refine w_icmp_gt (tgt := 77) dX1_findCuts_62 (by decide) (by omega) (by rw [e1]; omega) (fun c_62 => ?_) (fun c_62 => ?_)
      · refine w_iinc dX1_findCuts_77 (Nat.le_of_ble_eq_true rfl) rfl ?_
        refine w_goto (tgt := 51) dX1_findCuts_80 (by decide) ?_
        refine ih (by omega) (by omega) _ _ ⟨r1, ?_, r4⟩
        intro s s0 s1 f f0 f1
        rw [e1] at c_62
        by_cases q : s = i
        · subst q; exact r3 f f0 (by omega)
        · exact r2 s (by omega) s1 f f0 f1
      · have hrow : ∀ b, j ≤ b → b ≤ τ 1 10 → 0 ≤ τ (22 + (i + 1).toNat) b ∧ τ (22 + (i + 1).toNat) b ≤ 1000000000 := by
          rw [e1]
          intro b b0 b1
          by_cases q : i + 1 = σ 1 9
          · rw [q, r1 b (by omega) b1]
            split <;> omega
          · have := r2 (i + 1) (by omega) (by omega) b (by omega) b1
            exact this.2.2
        refine w_aload_n dX1_findCuts_65 rfl ?_
        refine w_iload_n dX1_findCuts_66 rfl ?_
        refine w_iload_n dX1_findCuts_67 rfl ?_
        refine cv_X1_74 rfl dX1_findCuts_68 (Nat.le_of_ble_eq_true rfl) (Nat.le_of_ble_eq_true rfl) (Wp.mono (ct_X1_chooseMost τ i j (by rw [e16, e17, e18, e19, e20, e1]; exact hc) (by rw [e1]; omega) (by rw [e1] at c_62 ⊢; omega) hrow) (fun z_ τ_ hq_ => ?_))
        obtain ⟨v, m, g1, g2, g3, g4, hs_⟩ := hq_
        rw [e16, e17, e18, e19, e20, e1] at g1 g2
        subst τ_
        rw [e1] at c_62
        refine w_iinc dX1_findCuts_71 (Nat.le_of_ble_eq_true rfl) rfl ?_
        refine w_goto (tgt := 57) dX1_findCuts_74 (by decide) ?_
        refine ih2 (by omega) (by omega) _ ⟨?_, ?_, ?_, ?_⟩
        · intro b b0 b1
          rw [put_ne (by omega), put_ne (by omega)]
          exact r1 b b0 b1
        · intro s s0 s1 f f0 f1
          refine (r2 s s0 s1 f f0 f1).keep ?_ ?_ ?_
          · rw [put_ne (by omega), put_ne (by omega)]
          · rw [put_ne (by omega), put_ne (by omega)]
          · rw [put_ne (by omega), put_ne (by omega)]
        · intro f f0 f1
          by_cases q : f = j
          · subst q
            unfold GoodE
            have a1 : put (put τ (22 + i.toNat) f v) (36 + i.toNat) f m (22 + i.toNat) f = v := by
              rw [put_ne (by omega)]; simp [put_eq]
            have a2 : put (put τ (22 + i.toNat) f v) (36 + i.toNat) f m (36 + i.toNat) f = m := by simp [put_eq]
            have a3 : put (put τ (22 + i.toNat) f v) (36 + i.toNat) f m (22 + (i + 1).toNat) = τ (22 + (i + 1).toNat) := by rw [put_ne (by omega), put_ne (by omega)]
            rw [a1, a2, a3]
            exact ⟨g1, g2, g3, g4⟩
          · refine (r3 f f0 (by omega)).keep ?_ ?_ ?_
            · rw [put_ne (by omega), put_ne (by omega)]
            · rw [put_ne (by omega), put_eq, if_pos rfl, if_neg q]
            · rw [put_eq, if_pos rfl, if_neg q, put_ne (by omega)]
        · intro k hk
          rw [put_ne (by omega), put_ne (by omega)]
          exact r4 k hk
  · refine w_aload_n dX1_findCuts_10 rfl ?_
    refine gf_X1_35 rfl dX1_findCuts_11 ?_
    refine w_aload_n dX1_findCuts_14 rfl ?_
    refine gf_X1_47 rfl dX1_findCuts_15 ?_
    refine w_aald rfl (by rw [e1]; omega) dX1_findCuts_18 ?_
    refine w_iload_n dX1_findCuts_19 rfl ?_
    refine w_ldc (n := 1000000000) dX1_findCuts_20 tw_368 ?_
    refine w_iast (sh_least (by rw [e1]; omega) (by rw [e1]; omega)) (by omega) (by omega) dX1_findCuts_22 ?_
    refine w_iinc dX1_findCuts_23 (Nat.le_of_ble_eq_true rfl) rfl ?_
    refine w_goto (tgt := 2) dX1_findCuts_26 (by decide) ?_
    rw [e1]
    rw [e1] at c_7
    refine ih (by omega) (by omega) _ ⟨fun b b0 b1 => ?_, fun k hk => by rw [put_ne (by omega)]; exact p2 k hk⟩
    rw [put_eq, if_pos rfl]
    by_cases q : b = i
    · rw [if_pos q]
    · rw [if_neg q]; exact p1 b b0 (by omega)

def IsFill (len kind span : Int → Int) (kd ns n : Int) (q : Int → Int) : Prop := q 0 = 0 ∧ ∀ s, 0 ≤ s → s < ns → (kind s ≤ kd → IsDay span (q s) n (len s) (q (s + 1) - q s)) ∧ (kd < kind s → q (s + 1) = q s)
theorem IsFill.bd {len kind span q : Int → Int} {kd ns n : Int} (hn : 0 ≤ n) (h : IsFill len kind span kd ns n q) : ∀ s, 0 ≤ s → s ≤ ns → 0 ≤ q s ∧ q s ≤ n := by
  intro s s0 s1
  have key : ∀ k : Nat, (k : Int) ≤ ns → 0 ≤ q k ∧ q k ≤ n := by
    intro k
    induction k with
    | zero => intro _; rw [show ((0 : Nat) : Int) = 0 from rfl, h.1]; omega
    | succ k ih =>
      intro hk
      have ih := ih (by omega)
      have a := h.2 k (by omega) (by omega)
      rw [show ((k + 1 : Nat) : Int) = (k : Int) + 1 by omega]
      by_cases e : kind k ≤ kd
      · have b := a.1 e
        have b1 := b.1
        have b2 := b.2.1
        omega
      · have := a.2 (by omega)
        omega
  have := key s.toNat (by omega)
  rwa [show ((s.toNat : Nat) : Int) = s by omega] at this
theorem IsFill.mono {len kind span q : Int → Int} {kd ns n : Int} (h : IsFill len kind span kd ns n q) {s : Int} (s0 : 0 ≤ s) (s1 : s < ns) : q s ≤ q (s + 1) := by
  have a := h.2 s s0 s1
  by_cases e : kind s ≤ kd
  · have := (a.1 e).1; omega
  · have := a.2 (by omega); omega
theorem IsFill.monoL {len kind span q : Int → Int} {kd ns n : Int} (h : IsFill len kind span kd ns n q) {s t : Int} (s0 : 0 ≤ s) (st : s ≤ t) (t1 : t ≤ ns) : q s ≤ q t := by
  have key : ∀ k : Nat, s + k ≤ ns → q s ≤ q (s + k) := by
    intro k
    induction k with
    | zero => intro _; rw [show s + ((0 : Nat) : Int) = s by omega]; exact Int.le_refl _
    | succ k ih =>
      intro hk
      have a := ih (by omega)
      have b := h.mono (s := s + k) (by omega) (by omega)
      rw [show s + ((k + 1 : Nat) : Int) = s + k + 1 by omega]
      omega
  have := key (t - s).toNat (by omega)
  rwa [show s + (((t - s).toNat : Nat) : Int) = t by omega] at this
theorem IsFill.uniq {len kind span q q2 len2 kind2 span2 : Int → Int} {kd ns n : Int} (hn : 0 ≤ n) (hs : ∀ s, 0 ≤ s → s < ns → len s = len2 s ∧ kind s = kind2 s) (hb : ∀ b, 0 ≤ b → b < n → span b = span2 b ∧ 0 ≤ span b) (h : IsFill len kind span kd ns n q) (k : IsFill len2 kind2 span2 kd ns n q2) : ∀ s, 0 ≤ s → s ≤ ns → q s = q2 s := by
  intro s s0 s1
  have key : ∀ j : Nat, (j : Int) ≤ ns → q j = q2 j := by
    intro j
    induction j with
    | zero => intro _; rw [show ((0 : Nat) : Int) = 0 from rfl, h.1, k.1]
    | succ j ih =>
      intro hj
      have ih := ih (by omega)
      have p := h.bd hn j (by omega) (by omega)
      have a := h.2 j (by omega) (by omega)
      have b := k.2 j (by omega) (by omega)
      have e := hs j (by omega) (by omega)
      rw [← e.1, ← e.2, ← ih] at b
      rw [show ((j + 1 : Nat) : Int) = (j : Int) + 1 by omega]
      by_cases c : kind j ≤ kd
      · have a1 := a.1 c
        have b1 := (b.1 c).congr (u := span) (fun x x1 x2 => (hb x (by omega) x2).1.symm)
        have := IsDay.uniq (fun x x1 x2 => (hb x (by omega) x2).2) a1 b1
        omega
      · have a1 := a.2 (by omega)
        have b1 := b.2 (by omega)
        omega
  have := key s.toNat (by omega)
  rwa [show ((s.toNat : Nat) : Int) = s by omega] at this

set_option maxRecDepth 100000 in
set_option maxHeartbeats 4000000 in
theorem ct_X1_shelvesFilled (σ : St) (kd : Int) (hk : InR kd) (hns : 0 ≤ σ 1 9 ∧ σ 1 9 ≤ 12) (hn : 0 ≤ σ 1 10 ∧ σ 1 10 ≤ 60) (hl : ∀ s, 0 ≤ s → s < σ 1 9 → 0 ≤ σ 16 s ∧ σ 16 s ≤ 200) (hsp : ∀ b, 0 ≤ b → b < σ 1 10 → 0 ≤ σ 19 b) : Wp mX1_shelvesFilled 1 (fun z τ => (∃ q, IsFill (σ 16) (σ 17) (σ 19) kd (σ 1 9) (σ 1 10) q ∧ ((q (σ 1 9) = σ 1 10 ∧ 0 ≤ z ∧ z ≤ σ 1 9 ∧ q z = σ 1 10 ∧ ∀ s, 0 ≤ s → s < z → q s < σ 1 10) ∨ (q (σ 1 9) < σ 1 10 ∧ z = -1))) ∧ τ = σ) 0 [some (.inr 1), some (.inl kd), none, none] [] σ := by
  refine Wp.rg (fun hR => ?_)
  refine w_iconst dX1_shelvesFilled_0 ?_
  refine w_istore_n dX1_shelvesFilled_1 (Nat.le_of_ble_eq_true rfl) ?_
  refine w_iconst dX1_shelvesFilled_2 ?_
  refine w_istore_n dX1_shelvesFilled_3 (Nat.le_of_ble_eq_true rfl) ?_
  refine up_to (σ 1 9) (fun i => 0 ≤ i → ∀ a, (∃ q, IsFill (σ 16) (σ 17) (σ 19) kd i (σ 1 10) q ∧ q i = a ∧ ∀ s, 0 ≤ s → s < i → q s < σ 1 10) → Wp mX1_shelvesFilled 1 (fun z τ => (∃ q, IsFill (σ 16) (σ 17) (σ 19) kd (σ 1 9) (σ 1 10) q ∧ ((q (σ 1 9) = σ 1 10 ∧ 0 ≤ z ∧ z ≤ σ 1 9 ∧ q z = σ 1 10 ∧ ∀ s, 0 ≤ s → s < z → q s < σ 1 10) ∨ (q (σ 1 9) < σ 1 10 ∧ z = -1))) ∧ τ = σ) 4 [some (.inr 1), some (.inl kd), some (.inl a), some (.inl i)] [] σ) (fun i hi ih h0 a hinv => ?_) (0) (by omega) (by omega) 0 ⟨fun _ => 0, ⟨rfl, fun s s0 s1 => by omega⟩, rfl, fun s s0 s1 => by omega⟩
  obtain ⟨q, f1, f2, f3⟩ := hinv
  have fb := f1.bd hn.1 i h0 (Int.le_refl i)
  refine w_iload_n dX1_shelvesFilled_4 rfl ?_
  refine w_aload_n dX1_shelvesFilled_5 rfl ?_
  refine gf_X1_47 rfl dX1_shelvesFilled_6 ?_
  refine w_icmp_ge (tgt := 43) dX1_shelvesFilled_9 (by decide) (by omega) (by omega) (fun c_9 => ?_) (fun c_9 => ?_)
  · refine w_iload_n dX1_shelvesFilled_43 rfl ?_
    refine w_aload_n dX1_shelvesFilled_44 rfl ?_
    refine gf_X1_55 rfl dX1_shelvesFilled_45 ?_
    refine w_icmp_ne (tgt := 55) dX1_shelvesFilled_48 (by decide) (by omega) (by omega) (fun c_48 => ?_) (fun c_48 => ?_)
    · refine w_iconst dX1_shelvesFilled_55 ?_
      refine w_iret dX1_shelvesFilled_56 rfl ?_
      first
      | exact absurd c_48 (by omega)
      | (refine ⟨⟨fun s => if s ≤ i then q s else σ 1 10, ⟨by dsimp only; rw [if_pos (by omega)]; exact f1.1, fun s s0 s1 => ?_⟩, ?_⟩, rfl⟩
         · dsimp only
           by_cases e : s < i
           · rw [if_pos (by omega), if_pos (by omega)]; exact f1.2 s s0 e
           · have eq2 : (if s ≤ i then q s else σ 1 10) = σ 1 10 := by
               by_cases e2 : s ≤ i
               · rw [if_pos e2, show s = i by omega]; omega
               · rw [if_neg e2]
             rw [eq2, if_neg (by omega)]
             have hls := hl s s0 s1
             exact ⟨fun _ => ⟨by omega, by omega, by rw [Int.sub_self, sumF_0]; omega, Or.inl (by omega)⟩, fun _ => rfl⟩
         · dsimp only
           refine Or.inl ⟨?_, by omega, by omega, by rw [if_pos (by omega)]; omega, fun s s0 s1 => by rw [if_pos (by omega)]; exact f3 s s0 s1⟩
           by_cases e : σ 1 9 ≤ i
           · rw [if_pos e, show σ 1 9 = i by omega]; omega
           · rw [if_neg e])
      | (exact ⟨⟨q, by rw [show σ 1 9 = i by omega]; exact f1, Or.inr ⟨by rw [show σ 1 9 = i by omega]; omega, rfl⟩⟩, rfl⟩)
    · refine w_iload_n dX1_shelvesFilled_51 rfl ?_
      refine w_goto (tgt := 56) dX1_shelvesFilled_52 (by decide) ?_
      refine w_iret dX1_shelvesFilled_56 rfl ?_
      first
      | exact absurd c_48 (by omega)
      | (refine ⟨⟨fun s => if s ≤ i then q s else σ 1 10, ⟨by dsimp only; rw [if_pos (by omega)]; exact f1.1, fun s s0 s1 => ?_⟩, ?_⟩, rfl⟩
         · dsimp only
           by_cases e : s < i
           · rw [if_pos (by omega), if_pos (by omega)]; exact f1.2 s s0 e
           · have eq2 : (if s ≤ i then q s else σ 1 10) = σ 1 10 := by
               by_cases e2 : s ≤ i
               · rw [if_pos e2, show s = i by omega]; omega
               · rw [if_neg e2]
             rw [eq2, if_neg (by omega)]
             have hls := hl s s0 s1
             exact ⟨fun _ => ⟨by omega, by omega, by rw [Int.sub_self, sumF_0]; omega, Or.inl (by omega)⟩, fun _ => rfl⟩
         · dsimp only
           refine Or.inl ⟨?_, by omega, by omega, by rw [if_pos (by omega)]; omega, fun s s0 s1 => by rw [if_pos (by omega)]; exact f3 s s0 s1⟩
           by_cases e : σ 1 9 ≤ i
           · rw [if_pos e, show σ 1 9 = i by omega]; omega
           · rw [if_neg e])
      | (exact ⟨⟨q, by rw [show σ 1 9 = i by omega]; exact f1, Or.inr ⟨by rw [show σ 1 9 = i by omega]; omega, rfl⟩⟩, rfl⟩)
  · refine w_iload_n dX1_shelvesFilled_12 rfl ?_
    refine w_aload_n dX1_shelvesFilled_13 rfl ?_
    refine gf_X1_55 rfl dX1_shelvesFilled_14 ?_
    refine w_icmp_ge (tgt := 43) dX1_shelvesFilled_17 (by decide) (by omega) (by omega) (fun c_17 => ?_) (fun c_17 => ?_)
    · refine w_iload_n dX1_shelvesFilled_43 rfl ?_
      refine w_aload_n dX1_shelvesFilled_44 rfl ?_
      refine gf_X1_55 rfl dX1_shelvesFilled_45 ?_
      refine w_icmp_ne (tgt := 55) dX1_shelvesFilled_48 (by decide) (by omega) (by omega) (fun c_48 => ?_) (fun c_48 => ?_)
      · refine w_iconst dX1_shelvesFilled_55 ?_
        refine w_iret dX1_shelvesFilled_56 rfl ?_
        first
        | exact absurd c_48 (by omega)
        | (refine ⟨⟨fun s => if s ≤ i then q s else σ 1 10, ⟨by dsimp only; rw [if_pos (by omega)]; exact f1.1, fun s s0 s1 => ?_⟩, ?_⟩, rfl⟩
           · dsimp only
             by_cases e : s < i
             · rw [if_pos (by omega), if_pos (by omega)]; exact f1.2 s s0 e
             · have eq2 : (if s ≤ i then q s else σ 1 10) = σ 1 10 := by
                 by_cases e2 : s ≤ i
                 · rw [if_pos e2, show s = i by omega]; omega
                 · rw [if_neg e2]
               rw [eq2, if_neg (by omega)]
               have hls := hl s s0 s1
               exact ⟨fun _ => ⟨by omega, by omega, by rw [Int.sub_self, sumF_0]; omega, Or.inl (by omega)⟩, fun _ => rfl⟩
           · dsimp only
             refine Or.inl ⟨?_, by omega, by omega, by rw [if_pos (by omega)]; omega, fun s s0 s1 => by rw [if_pos (by omega)]; exact f3 s s0 s1⟩
             by_cases e : σ 1 9 ≤ i
             · rw [if_pos e, show σ 1 9 = i by omega]; omega
             · rw [if_neg e])
        | (exact ⟨⟨q, by rw [show σ 1 9 = i by omega]; exact f1, Or.inr ⟨by rw [show σ 1 9 = i by omega]; omega, rfl⟩⟩, rfl⟩)
      · refine w_iload_n dX1_shelvesFilled_51 rfl ?_
        refine w_goto (tgt := 56) dX1_shelvesFilled_52 (by decide) ?_
        refine w_iret dX1_shelvesFilled_56 rfl ?_
        first
        | exact absurd c_48 (by omega)
        | (refine ⟨⟨fun s => if s ≤ i then q s else σ 1 10, ⟨by dsimp only; rw [if_pos (by omega)]; exact f1.1, fun s s0 s1 => ?_⟩, ?_⟩, rfl⟩
           · dsimp only
             by_cases e : s < i
             · rw [if_pos (by omega), if_pos (by omega)]; exact f1.2 s s0 e
             · have eq2 : (if s ≤ i then q s else σ 1 10) = σ 1 10 := by
                 by_cases e2 : s ≤ i
                 · rw [if_pos e2, show s = i by omega]; omega
                 · rw [if_neg e2]
               rw [eq2, if_neg (by omega)]
               have hls := hl s s0 s1
               exact ⟨fun _ => ⟨by omega, by omega, by rw [Int.sub_self, sumF_0]; omega, Or.inl (by omega)⟩, fun _ => rfl⟩
           · dsimp only
             refine Or.inl ⟨?_, by omega, by omega, by rw [if_pos (by omega)]; omega, fun s s0 s1 => by rw [if_pos (by omega)]; exact f3 s s0 s1⟩
             by_cases e : σ 1 9 ≤ i
             · rw [if_pos e, show σ 1 9 = i by omega]; omega
             · rw [if_neg e])
        | (exact ⟨⟨q, by rw [show σ 1 9 = i by omega]; exact f1, Or.inr ⟨by rw [show σ 1 9 = i by omega]; omega, rfl⟩⟩, rfl⟩)
    · refine w_aload_n dX1_shelvesFilled_20 rfl ?_
      refine gf_X1_21 rfl dX1_shelvesFilled_21 ?_
      refine w_iload_n dX1_shelvesFilled_24 rfl ?_
      refine w_iald rfl (by omega) dX1_shelvesFilled_25 ?_
      refine w_iload_n dX1_shelvesFilled_26 rfl ?_
      refine w_icmp_gt (tgt := 37) dX1_shelvesFilled_27 (by decide) (hR _ _) hk (fun c_27 => ?_) (fun c_27 => ?_)
      · refine w_iinc dX1_shelvesFilled_37 (Nat.le_of_ble_eq_true rfl) rfl ?_
        refine w_goto (tgt := 4) dX1_shelvesFilled_40 (by decide) ?_
        first
        | (refine ih (by omega) (by omega) _ ⟨upF q (i + 1) z_, ⟨by unfold upF; rw [if_neg (by omega)]; exact f1.1, fun s s0 s1 => ?_⟩, by unfold upF; rw [if_pos rfl], fun s s0 s1 => ?_⟩
           · unfold upF
             by_cases e : s = i
             · subst e
               rw [if_neg (by omega), if_pos rfl, f2]
               exact ⟨fun _ => hz_, fun q2 => by omega⟩
             · rw [if_neg (by omega), if_neg (by omega)]
               exact f1.2 s s0 (by omega)
           · unfold upF
             rw [if_neg (by omega)]
             by_cases e : s = i
             · subst e; omega
             · exact f3 s s0 (by omega))
        | (refine ih (by omega) (by omega) _ ⟨upF q (i + 1) a, ⟨by unfold upF; rw [if_neg (by omega)]; exact f1.1, fun s s0 s1 => ?_⟩, by unfold upF; rw [if_pos rfl], fun s s0 s1 => ?_⟩
           · unfold upF
             by_cases e : s = i
             · subst e
               rw [if_neg (by omega), if_pos rfl, f2]
               exact ⟨fun q2 => by omega, fun _ => rfl⟩
             · rw [if_neg (by omega), if_neg (by omega)]
               exact f1.2 s s0 (by omega)
           · unfold upF
             rw [if_neg (by omega)]
             by_cases e : s = i
             · subst e; omega
             · exact f3 s s0 (by omega))
      · refine w_aload_n dX1_shelvesFilled_30 rfl ?_
        refine w_iload_n dX1_shelvesFilled_31 rfl ?_
        refine w_iload_n dX1_shelvesFilled_32 rfl ?_
        refine cv_X1_69 rfl dX1_shelvesFilled_33 (Nat.le_of_ble_eq_true rfl) (Nat.le_of_ble_eq_true rfl) (Wp.mono (ct_X1_fill σ a i (by omega) (by omega) (hl i h0 (by omega)) hsp) (fun z_ τ_ hq_ => ?_))
        obtain ⟨hz_, hs_⟩ := hq_
        subst τ_
        refine w_istore_n dX1_shelvesFilled_36 (Nat.le_of_ble_eq_true rfl) ?_
        refine w_iinc dX1_shelvesFilled_37 (Nat.le_of_ble_eq_true rfl) rfl ?_
        refine w_goto (tgt := 4) dX1_shelvesFilled_40 (by decide) ?_
        first
        | (refine ih (by omega) (by omega) _ ⟨upF q (i + 1) z_, ⟨by unfold upF; rw [if_neg (by omega)]; exact f1.1, fun s s0 s1 => ?_⟩, by unfold upF; rw [if_pos rfl], fun s s0 s1 => ?_⟩
           · unfold upF
             by_cases e : s = i
             · subst e
               rw [if_neg (by omega), if_pos rfl, f2]
               exact ⟨fun _ => hz_, fun q2 => by omega⟩
             · rw [if_neg (by omega), if_neg (by omega)]
               exact f1.2 s s0 (by omega)
           · unfold upF
             rw [if_neg (by omega)]
             by_cases e : s = i
             · subst e; omega
             · exact f3 s s0 (by omega))
        | (refine ih (by omega) (by omega) _ ⟨upF q (i + 1) a, ⟨by unfold upF; rw [if_neg (by omega)]; exact f1.1, fun s s0 s1 => ?_⟩, by unfold upF; rw [if_pos rfl], fun s s0 s1 => ?_⟩
           · unfold upF
             by_cases e : s = i
             · subst e
               rw [if_neg (by omega), if_pos rfl, f2]
               exact ⟨fun q2 => by omega, fun _ => rfl⟩
             · rw [if_neg (by omega), if_neg (by omega)]
               exact f1.2 s s0 (by omega)
           · unfold upF
             rw [if_neg (by omega)]
             by_cases e : s = i
             · subst e; omega
             · exact f3 s s0 (by omega))

set_option maxRecDepth 100000 in
set_option maxHeartbeats 4000000 in
theorem ct_X1_partOfPrice (σ : St) (w : Int) (hw : 0 ≤ w ∧ w ≤ 2) (hp : 0 ≤ σ 1 11 ∧ σ 1 11 ≤ 1000000000) : Wp mX1_partOfPrice 0 (fun z τ => z = (if w = 0 then σ 1 11 / 1000000 else if w = 1 then σ 1 11 % 1000000 / 100 else σ 1 11 % 100) ∧ τ = σ) 0 [some (.inr 1), some (.inl w)] [] σ := by
  refine Wp.rg (fun hR => ?_)
  refine w_iload_n dX1_partOfPrice_0 rfl ?_
  rcases (show w = 0 ∨ w = 1 ∨ w = 2 by omega) with rfl | rfl | rfl
  · refine w_lsw (off := 27) (tgt := 28) dX1_partOfPrice_1 (by decide) (by omega) (by decide) (by decide) ?_
    refine w_aload_n dX1_partOfPrice_28 rfl ?_
    refine gf_X1_78 rfl dX1_partOfPrice_29 ?_
    refine w_ldc (n := 1000000) dX1_partOfPrice_32 tw_373 ?_
    refine w_idivN dX1_partOfPrice_34 (by omega) (by omega) (by omega) (by omega) ?_
    refine w_iret dX1_partOfPrice_35 rfl ?_
    exact ⟨by simp, rfl⟩
  · refine w_lsw (off := 35) (tgt := 36) dX1_partOfPrice_1 (by decide) (by omega) (by decide) (by decide) ?_
    refine w_aload_n dX1_partOfPrice_36 rfl ?_
    refine gf_X1_78 rfl dX1_partOfPrice_37 ?_
    refine w_ldc (n := 1000000) dX1_partOfPrice_40 tw_373 ?_
    refine w_iremN dX1_partOfPrice_42 (by omega) (by omega) (by omega) (by omega) ?_
    refine w_bipush dX1_partOfPrice_43 (by decide) ?_
    refine w_idivN dX1_partOfPrice_45 (by omega) (by omega) (by omega) (by omega) ?_
    refine w_iret dX1_partOfPrice_46 rfl ?_
    exact ⟨by simp, rfl⟩
  · refine w_lsw (off := 46) (tgt := 47) dX1_partOfPrice_1 (by decide) (by omega) (by decide) (by decide) ?_
    refine w_aload_n dX1_partOfPrice_47 rfl ?_
    refine gf_X1_78 rfl dX1_partOfPrice_48 ?_
    refine w_bipush dX1_partOfPrice_51 (by decide) ?_
    refine w_iremN dX1_partOfPrice_53 (by omega) (by omega) (by omega) (by omega) ?_
    refine w_iret dX1_partOfPrice_54 rfl ?_
    exact ⟨by simp, rfl⟩
end
