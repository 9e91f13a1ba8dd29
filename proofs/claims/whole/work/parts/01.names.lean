-- ===== PART A: goes FIRST, ahead of the names: the tables' words, and 'selects' of the private methods out of them =====
/-- a private method of a class that the tables say can be made, by its rows of tables_1 -/
def lw_okq (q : MethodName × Nat) : Prop := (q.1.cls ≠ "java/lang/invoke/MethodHandle" ∧ q.1.cls ≠ "java/lang/invoke/VarHandle") ∧ Cond.instantiable q.1.cls q.2 ∈ tables_1 ∧ Cond.privateMethod q.1 ∈ tables_1 ∧ Cond.instanceMethod q.1 ∈ tables_1
theorem lw_p0 : lw_okq (⟨"ShelfShift", "hasShelf", "(I)Z"⟩, 7) := ⟨⟨by decide +kernel, by decide +kernel⟩, List.mem_of_getElem? (i := 16) (by decide +kernel), List.mem_of_getElem? (i := 251) (by decide +kernel), List.mem_of_getElem? (i := 252) (by decide +kernel)⟩
theorem lw_p1 : lw_okq (⟨"ShelfShift", "hasGroup", "(I)Z"⟩, 7) := ⟨⟨by decide +kernel, by decide +kernel⟩, List.mem_of_getElem? (i := 16) (by decide +kernel), List.mem_of_getElem? (i := 267) (by decide +kernel), List.mem_of_getElem? (i := 268) (by decide +kernel)⟩
theorem lw_p2 : lw_okq (⟨"ShelfShift$Books", "sumWith", "([II[I)I"⟩, 8) := ⟨⟨by decide +kernel, by decide +kernel⟩, List.mem_of_getElem? (i := 62) (by decide +kernel), List.mem_of_getElem? (i := 279) (by decide +kernel), List.mem_of_getElem? (i := 280) (by decide +kernel)⟩
theorem lw_p3 : lw_okq (⟨"ShelfShift$Books", "giveOneMore", "(I)I"⟩, 8) := ⟨⟨by decide +kernel, by decide +kernel⟩, List.mem_of_getElem? (i := 62) (by decide +kernel), List.mem_of_getElem? (i := 283) (by decide +kernel), List.mem_of_getElem? (i := 284) (by decide +kernel)⟩
theorem lw_p4 : lw_okq (⟨"ShelfShift$Cutter", "chooseMost", "(II)V"⟩, 12) := ⟨⟨by decide +kernel, by decide +kernel⟩, List.mem_of_getElem? (i := 107) (by decide +kernel), List.mem_of_getElem? (i := 311) (by decide +kernel), List.mem_of_getElem? (i := 312) (by decide +kernel)⟩
theorem lw_p5 : lw_okq (⟨"ShelfShift$Cutter", "priceOfMove", "(II)I"⟩, 12) := ⟨⟨by decide +kernel, by decide +kernel⟩, List.mem_of_getElem? (i := 107) (by decide +kernel), List.mem_of_getElem? (i := 316) (by decide +kernel), List.mem_of_getElem? (i := 317) (by decide +kernel)⟩
theorem lw_p6 : lw_okq (⟨"ShelfShift$Cutter", "follow", "()V"⟩, 12) := ⟨⟨by decide +kernel, by decide +kernel⟩, List.mem_of_getElem? (i := 107) (by decide +kernel), List.mem_of_getElem? (i := 320) (by decide +kernel), List.mem_of_getElem? (i := 321) (by decide +kernel)⟩
theorem lw_p7 : lw_okq (⟨"ShelfShift", "moveAtOnce", "()V"⟩, 7) := ⟨⟨by decide +kernel, by decide +kernel⟩, List.mem_of_getElem? (i := 16) (by decide +kernel), List.mem_of_getElem? (i := 328) (by decide +kernel), List.mem_of_getElem? (i := 329) (by decide +kernel)⟩
theorem lw_p8 : lw_okq (⟨"ShelfShift$Plan", "add", "(LShelfShift$Books;I)V"⟩, 8) := ⟨⟨by decide +kernel, by decide +kernel⟩, List.mem_of_getElem? (i := 154) (by decide +kernel), List.mem_of_getElem? (i := 338) (by decide +kernel), List.mem_of_getElem? (i := 339) (by decide +kernel)⟩
theorem lw_p9 : lw_okq (⟨"ShelfShift", "makeNextMove", "()I"⟩, 7) := ⟨⟨by decide +kernel, by decide +kernel⟩, List.mem_of_getElem? (i := 16) (by decide +kernel), List.mem_of_getElem? (i := 342) (by decide +kernel), List.mem_of_getElem? (i := 343) (by decide +kernel)⟩
theorem lw_p10 : lw_okq (⟨"ShelfShift$Books", "openGap", "([II)V"⟩, 8) := ⟨⟨by decide +kernel, by decide +kernel⟩, List.mem_of_getElem? (i := 62) (by decide +kernel), List.mem_of_getElem? (i := 369) (by decide +kernel), List.mem_of_getElem? (i := 370) (by decide +kernel)⟩
theorem lw_p11 : lw_okq (⟨"ShelfShift", "hasBook", "(I)Z"⟩, 7) := ⟨⟨by decide +kernel, by decide +kernel⟩, List.mem_of_getElem? (i := 16) (by decide +kernel), List.mem_of_getElem? (i := 378) (by decide +kernel), List.mem_of_getElem? (i := 379) (by decide +kernel)⟩
theorem lw_p12 : lw_okq (⟨"ShelfShift$Books", "closeGap", "([II)V"⟩, 8) := ⟨⟨by decide +kernel, by decide +kernel⟩, List.mem_of_getElem? (i := 62) (by decide +kernel), List.mem_of_getElem? (i := 386) (by decide +kernel), List.mem_of_getElem? (i := 387) (by decide +kernel)⟩
theorem lw_p13 : lw_okq (⟨"ShelfShift$Books", "countWith", "([II)I"⟩, 8) := ⟨⟨by decide +kernel, by decide +kernel⟩, List.mem_of_getElem? (i := 62) (by decide +kernel), List.mem_of_getElem? (i := 418) (by decide +kernel), List.mem_of_getElem? (i := 419) (by decide +kernel)⟩
theorem lw_p14 : lw_okq (⟨"ShelfShift", "yearsOn", "(I)I"⟩, 7) := ⟨⟨by decide +kernel, by decide +kernel⟩, List.mem_of_getElem? (i := 16) (by decide +kernel), List.mem_of_getElem? (i := 422) (by decide +kernel), List.mem_of_getElem? (i := 423) (by decide +kernel)⟩
theorem lw_p15 : lw_okq (⟨"ShelfShift", "roomOn", "(I)I"⟩, 7) := ⟨⟨by decide +kernel, by decide +kernel⟩, List.mem_of_getElem? (i := 16) (by decide +kernel), List.mem_of_getElem? (i := 430) (by decide +kernel), List.mem_of_getElem? (i := 431) (by decide +kernel)⟩
def lw_privs_1 : List (MethodName × Nat) := [(⟨"ShelfShift", "hasShelf", "(I)Z"⟩, 7), (⟨"ShelfShift", "hasGroup", "(I)Z"⟩, 7), (⟨"ShelfShift$Books", "sumWith", "([II[I)I"⟩, 8), (⟨"ShelfShift$Books", "giveOneMore", "(I)I"⟩, 8), (⟨"ShelfShift$Cutter", "chooseMost", "(II)V"⟩, 12), (⟨"ShelfShift$Cutter", "priceOfMove", "(II)I"⟩, 12), (⟨"ShelfShift$Cutter", "follow", "()V"⟩, 12), (⟨"ShelfShift", "moveAtOnce", "()V"⟩, 7), (⟨"ShelfShift$Plan", "add", "(LShelfShift$Books;I)V"⟩, 8), (⟨"ShelfShift", "makeNextMove", "()I"⟩, 7), (⟨"ShelfShift$Books", "openGap", "([II)V"⟩, 8), (⟨"ShelfShift", "hasBook", "(I)Z"⟩, 7), (⟨"ShelfShift$Books", "closeGap", "([II)V"⟩, 8), (⟨"ShelfShift$Books", "countWith", "([II)I"⟩, 8), (⟨"ShelfShift", "yearsOn", "(I)I"⟩, 7), (⟨"ShelfShift", "roomOn", "(I)I"⟩, 7)]
theorem lw_r1 : ∀ q ∈ lw_privs_1, lw_okq q := List.forall_mem_cons.mpr ⟨lw_p0, List.forall_mem_cons.mpr ⟨lw_p1, List.forall_mem_cons.mpr ⟨lw_p2, List.forall_mem_cons.mpr ⟨lw_p3, List.forall_mem_cons.mpr ⟨lw_p4, List.forall_mem_cons.mpr ⟨lw_p5, List.forall_mem_cons.mpr ⟨lw_p6, List.forall_mem_cons.mpr ⟨lw_p7, List.forall_mem_cons.mpr ⟨lw_p8, List.forall_mem_cons.mpr ⟨lw_p9, List.forall_mem_cons.mpr ⟨lw_p10, List.forall_mem_cons.mpr ⟨lw_p11, List.forall_mem_cons.mpr ⟨lw_p12, List.forall_mem_cons.mpr ⟨lw_p13, List.forall_mem_cons.mpr ⟨lw_p14, List.forall_mem_cons.mpr ⟨lw_p15, fun _ h => absurd h List.not_mem_nil⟩⟩⟩⟩⟩⟩⟩⟩⟩⟩⟩⟩⟩⟩⟩⟩
theorem lw_p16 : lw_okq (⟨"ShelfShift", "hasCuts", "(I)Z"⟩, 7) := ⟨⟨by decide +kernel, by decide +kernel⟩, List.mem_of_getElem? (i := 16) (by decide +kernel), List.mem_of_getElem? (i := 443) (by decide +kernel), List.mem_of_getElem? (i := 444) (by decide +kernel)⟩
theorem lw_p17 : lw_okq (⟨"ShelfShift", "isRoomFor", "(II)Z"⟩, 7) := ⟨⟨by decide +kernel, by decide +kernel⟩, List.mem_of_getElem? (i := 16) (by decide +kernel), List.mem_of_getElem? (i := 459) (by decide +kernel), List.mem_of_getElem? (i := 460) (by decide +kernel)⟩
theorem lw_p18 : lw_okq (⟨"ShelfShift$Cutter", "fill", "(II)I"⟩, 12) := ⟨⟨by decide +kernel, by decide +kernel⟩, List.mem_of_getElem? (i := 107) (by decide +kernel), List.mem_of_getElem? (i := 467) (by decide +kernel), List.mem_of_getElem? (i := 468) (by decide +kernel)⟩
theorem lw_p19 : lw_okq (⟨"java/lang/Throwable", "fillInStackTrace", "(I)Ljava/lang/Throwable;"⟩, 6) := ⟨⟨by decide +kernel, by decide +kernel⟩, List.mem_of_getElem? (i := 584) (by decide +kernel), List.mem_of_getElem? (i := 582) (by decide +kernel), List.mem_of_getElem? (i := 583) (by decide +kernel)⟩
theorem lw_p20 : lw_okq (⟨"ShelfShift$Books", "firstWith", "([II)I"⟩, 8) := ⟨⟨by decide +kernel, by decide +kernel⟩, List.mem_of_getElem? (i := 62) (by decide +kernel), List.mem_of_getElem? (i := 618) (by decide +kernel), List.mem_of_getElem? (i := 619) (by decide +kernel)⟩
theorem lw_p21 : lw_okq (⟨"ShelfShiftModel", "isShelf", "(I)Z"⟩, 29) := ⟨⟨by decide +kernel, by decide +kernel⟩, List.mem_of_getElem? (i := 656) (by decide +kernel), List.mem_of_getElem? (i := 765) (by decide +kernel), List.mem_of_getElem? (i := 766) (by decide +kernel)⟩
theorem lw_p22 : lw_okq (⟨"ShelfShiftModel", "cuts", "(I)Z"⟩, 29) := ⟨⟨by decide +kernel, by decide +kernel⟩, List.mem_of_getElem? (i := 656) (by decide +kernel), List.mem_of_getElem? (i := 772) (by decide +kernel), List.mem_of_getElem? (i := 773) (by decide +kernel)⟩
theorem lw_p23 : lw_okq (⟨"ShelfShiftModel", "laysNeeds", "()V"⟩, 29) := ⟨⟨by decide +kernel, by decide +kernel⟩, List.mem_of_getElem? (i := 656) (by decide +kernel), List.mem_of_getElem? (i := 776) (by decide +kernel), List.mem_of_getElem? (i := 777) (by decide +kernel)⟩
theorem lw_p24 : lw_okq (⟨"ShelfShiftModel", "widthOf", "(I)I"⟩, 29) := ⟨⟨by decide +kernel, by decide +kernel⟩, List.mem_of_getElem? (i := 656) (by decide +kernel), List.mem_of_getElem? (i := 780) (by decide +kernel), List.mem_of_getElem? (i := 781) (by decide +kernel)⟩
theorem lw_p25 : lw_okq (⟨"ShelfShiftModel", "cell", "(II)I"⟩, 29) := ⟨⟨by decide +kernel, by decide +kernel⟩, List.mem_of_getElem? (i := 656) (by decide +kernel), List.mem_of_getElem? (i := 784) (by decide +kernel), List.mem_of_getElem? (i := 785) (by decide +kernel)⟩
theorem lw_p26 : lw_okq (⟨"ShelfShiftModel", "laysLeast", "(II)V"⟩, 29) := ⟨⟨by decide +kernel, by decide +kernel⟩, List.mem_of_getElem? (i := 656) (by decide +kernel), List.mem_of_getElem? (i := 789) (by decide +kernel), List.mem_of_getElem? (i := 790) (by decide +kernel)⟩
theorem lw_p27 : lw_okq (⟨"ShelfShiftModel", "mostOn", "(II)I"⟩, 29) := ⟨⟨by decide +kernel, by decide +kernel⟩, List.mem_of_getElem? (i := 656) (by decide +kernel), List.mem_of_getElem? (i := 793) (by decide +kernel), List.mem_of_getElem? (i := 794) (by decide +kernel)⟩
theorem lw_p28 : lw_okq (⟨"ShelfShiftModel", "costOf", "(III)I"⟩, 29) := ⟨⟨by decide +kernel, by decide +kernel⟩, List.mem_of_getElem? (i := 656) (by decide +kernel), List.mem_of_getElem? (i := 797) (by decide +kernel), List.mem_of_getElem? (i := 798) (by decide +kernel)⟩
theorem lw_p29 : lw_okq (⟨"ShelfShiftModel", "fits", "(IZ)Z"⟩, 29) := ⟨⟨by decide +kernel, by decide +kernel⟩, List.mem_of_getElem? (i := 656) (by decide +kernel), List.mem_of_getElem? (i := 810) (by decide +kernel), List.mem_of_getElem? (i := 811) (by decide +kernel)⟩
theorem lw_p30 : lw_okq (⟨"ShelfShiftModel", "isGroup", "(I)Z"⟩, 29) := ⟨⟨by decide +kernel, by decide +kernel⟩, List.mem_of_getElem? (i := 656) (by decide +kernel), List.mem_of_getElem? (i := 822) (by decide +kernel), List.mem_of_getElem? (i := 823) (by decide +kernel)⟩
theorem lw_p31 : lw_okq (⟨"ShelfShiftModel", "behind", "(I)I"⟩, 29) := ⟨⟨by decide +kernel, by decide +kernel⟩, List.mem_of_getElem? (i := 656) (by decide +kernel), List.mem_of_getElem? (i := 826) (by decide +kernel), List.mem_of_getElem? (i := 827) (by decide +kernel)⟩
def lw_privs_2 : List (MethodName × Nat) := [(⟨"ShelfShift", "hasCuts", "(I)Z"⟩, 7), (⟨"ShelfShift", "isRoomFor", "(II)Z"⟩, 7), (⟨"ShelfShift$Cutter", "fill", "(II)I"⟩, 12), (⟨"java/lang/Throwable", "fillInStackTrace", "(I)Ljava/lang/Throwable;"⟩, 6), (⟨"ShelfShift$Books", "firstWith", "([II)I"⟩, 8), (⟨"ShelfShiftModel", "isShelf", "(I)Z"⟩, 29), (⟨"ShelfShiftModel", "cuts", "(I)Z"⟩, 29), (⟨"ShelfShiftModel", "laysNeeds", "()V"⟩, 29), (⟨"ShelfShiftModel", "widthOf", "(I)I"⟩, 29), (⟨"ShelfShiftModel", "cell", "(II)I"⟩, 29), (⟨"ShelfShiftModel", "laysLeast", "(II)V"⟩, 29), (⟨"ShelfShiftModel", "mostOn", "(II)I"⟩, 29), (⟨"ShelfShiftModel", "costOf", "(III)I"⟩, 29), (⟨"ShelfShiftModel", "fits", "(IZ)Z"⟩, 29), (⟨"ShelfShiftModel", "isGroup", "(I)Z"⟩, 29), (⟨"ShelfShiftModel", "behind", "(I)I"⟩, 29)]
theorem lw_r2 : ∀ q ∈ lw_privs_2, lw_okq q := List.forall_mem_cons.mpr ⟨lw_p16, List.forall_mem_cons.mpr ⟨lw_p17, List.forall_mem_cons.mpr ⟨lw_p18, List.forall_mem_cons.mpr ⟨lw_p19, List.forall_mem_cons.mpr ⟨lw_p20, List.forall_mem_cons.mpr ⟨lw_p21, List.forall_mem_cons.mpr ⟨lw_p22, List.forall_mem_cons.mpr ⟨lw_p23, List.forall_mem_cons.mpr ⟨lw_p24, List.forall_mem_cons.mpr ⟨lw_p25, List.forall_mem_cons.mpr ⟨lw_p26, List.forall_mem_cons.mpr ⟨lw_p27, List.forall_mem_cons.mpr ⟨lw_p28, List.forall_mem_cons.mpr ⟨lw_p29, List.forall_mem_cons.mpr ⟨lw_p30, List.forall_mem_cons.mpr ⟨lw_p31, fun _ h => absurd h List.not_mem_nil⟩⟩⟩⟩⟩⟩⟩⟩⟩⟩⟩⟩⟩⟩⟩⟩
theorem lw_p32 : lw_okq (⟨"ShelfShiftModel", "comes", "(III)V"⟩, 29) := ⟨⟨by decide +kernel, by decide +kernel⟩, List.mem_of_getElem? (i := 656) (by decide +kernel), List.mem_of_getElem? (i := 830) (by decide +kernel), List.mem_of_getElem? (i := 831) (by decide +kernel)⟩
theorem lw_p33 : lw_okq (⟨"ShelfShiftModel", "opens", "(I)V"⟩, 29) := ⟨⟨by decide +kernel, by decide +kernel⟩, List.mem_of_getElem? (i := 656) (by decide +kernel), List.mem_of_getElem? (i := 834) (by decide +kernel), List.mem_of_getElem? (i := 835) (by decide +kernel)⟩
theorem lw_p34 : lw_okq (⟨"ShelfShiftModel", "closes", "(I)V"⟩, 29) := ⟨⟨by decide +kernel, by decide +kernel⟩, List.mem_of_getElem? (i := 656) (by decide +kernel), List.mem_of_getElem? (i := 838) (by decide +kernel), List.mem_of_getElem? (i := 839) (by decide +kernel)⟩
theorem lw_p35 : lw_okq (⟨"ShelfShiftModel", "laysGoals", "()V"⟩, 29) := ⟨⟨by decide +kernel, by decide +kernel⟩, List.mem_of_getElem? (i := 656) (by decide +kernel), List.mem_of_getElem? (i := 842) (by decide +kernel), List.mem_of_getElem? (i := 843) (by decide +kernel)⟩
theorem lw_p36 : lw_okq (⟨"ShelfShiftModel", "ends", "()V"⟩, 29) := ⟨⟨by decide +kernel, by decide +kernel⟩, List.mem_of_getElem? (i := 656) (by decide +kernel), List.mem_of_getElem? (i := 846) (by decide +kernel), List.mem_of_getElem? (i := 847) (by decide +kernel)⟩
theorem lw_p37 : lw_okq (⟨"ShelfShiftModel", "moves", "(II)V"⟩, 29) := ⟨⟨by decide +kernel, by decide +kernel⟩, List.mem_of_getElem? (i := 656) (by decide +kernel), List.mem_of_getElem? (i := 850) (by decide +kernel), List.mem_of_getElem? (i := 851) (by decide +kernel)⟩
theorem lw_p38 : lw_okq (⟨"ShelfShiftModel", "notes", "(IIII)V"⟩, 29) := ⟨⟨by decide +kernel, by decide +kernel⟩, List.mem_of_getElem? (i := 656) (by decide +kernel), List.mem_of_getElem? (i := 854) (by decide +kernel), List.mem_of_getElem? (i := 855) (by decide +kernel)⟩
theorem lw_p39 : lw_okq (⟨"ShelfShiftModel", "isBook", "(I)Z"⟩, 29) := ⟨⟨by decide +kernel, by decide +kernel⟩, List.mem_of_getElem? (i := 656) (by decide +kernel), List.mem_of_getElem? (i := 862) (by decide +kernel), List.mem_of_getElem? (i := 863) (by decide +kernel)⟩
theorem lw_p40 : lw_okq (⟨"ShelfShiftModel", "plans", "(I)V"⟩, 29) := ⟨⟨by decide +kernel, by decide +kernel⟩, List.mem_of_getElem? (i := 656) (by decide +kernel), List.mem_of_getElem? (i := 874) (by decide +kernel), List.mem_of_getElem? (i := 875) (by decide +kernel)⟩
theorem lw_p41 : lw_okq (⟨"ShelfShiftModel", "goesOn", "()I"⟩, 29) := ⟨⟨by decide +kernel, by decide +kernel⟩, List.mem_of_getElem? (i := 656) (by decide +kernel), List.mem_of_getElem? (i := 886) (by decide +kernel), List.mem_of_getElem? (i := 887) (by decide +kernel)⟩
theorem lw_p42 : lw_okq (⟨"ShelfShiftModel", "dayOf", "(III)I"⟩, 29) := ⟨⟨by decide +kernel, by decide +kernel⟩, List.mem_of_getElem? (i := 656) (by decide +kernel), List.mem_of_getElem? (i := 898) (by decide +kernel), List.mem_of_getElem? (i := 899) (by decide +kernel)⟩
theorem lw_p43 : lw_okq (⟨"ShelfShiftModel", "tripOf", "(II)I"⟩, 29) := ⟨⟨by decide +kernel, by decide +kernel⟩, List.mem_of_getElem? (i := 656) (by decide +kernel), List.mem_of_getElem? (i := 902) (by decide +kernel), List.mem_of_getElem? (i := 903) (by decide +kernel)⟩
theorem lw_p44 : lw_okq (⟨"ShelfShiftModel", "taken", "(I)I"⟩, 29) := ⟨⟨by decide +kernel, by decide +kernel⟩, List.mem_of_getElem? (i := 656) (by decide +kernel), List.mem_of_getElem? (i := 906) (by decide +kernel), List.mem_of_getElem? (i := 907) (by decide +kernel)⟩
theorem lw_p45 : lw_okq (⟨"ShelfShiftModel", "leftWidths", "()I"⟩, 29) := ⟨⟨by decide +kernel, by decide +kernel⟩, List.mem_of_getElem? (i := 656) (by decide +kernel), List.mem_of_getElem? (i := 914) (by decide +kernel), List.mem_of_getElem? (i := 915) (by decide +kernel)⟩
theorem lw_p46 : lw_okq (⟨"ShelfShiftModel", "leftRight", "()I"⟩, 29) := ⟨⟨by decide +kernel, by decide +kernel⟩, List.mem_of_getElem? (i := 656) (by decide +kernel), List.mem_of_getElem? (i := 918) (by decide +kernel), List.mem_of_getElem? (i := 919) (by decide +kernel)⟩
theorem lw_p47 : lw_okq (⟨"ShelfShiftModel", "allWidths", "()I"⟩, 29) := ⟨⟨by decide +kernel, by decide +kernel⟩, List.mem_of_getElem? (i := 656) (by decide +kernel), List.mem_of_getElem? (i := 950) (by decide +kernel), List.mem_of_getElem? (i := 951) (by decide +kernel)⟩
def lw_privs_3 : List (MethodName × Nat) := [(⟨"ShelfShiftModel", "comes", "(III)V"⟩, 29), (⟨"ShelfShiftModel", "opens", "(I)V"⟩, 29), (⟨"ShelfShiftModel", "closes", "(I)V"⟩, 29), (⟨"ShelfShiftModel", "laysGoals", "()V"⟩, 29), (⟨"ShelfShiftModel", "ends", "()V"⟩, 29), (⟨"ShelfShiftModel", "moves", "(II)V"⟩, 29), (⟨"ShelfShiftModel", "notes", "(IIII)V"⟩, 29), (⟨"ShelfShiftModel", "isBook", "(I)Z"⟩, 29), (⟨"ShelfShiftModel", "plans", "(I)V"⟩, 29), (⟨"ShelfShiftModel", "goesOn", "()I"⟩, 29), (⟨"ShelfShiftModel", "dayOf", "(III)I"⟩, 29), (⟨"ShelfShiftModel", "tripOf", "(II)I"⟩, 29), (⟨"ShelfShiftModel", "taken", "(I)I"⟩, 29), (⟨"ShelfShiftModel", "leftWidths", "()I"⟩, 29), (⟨"ShelfShiftModel", "leftRight", "()I"⟩, 29), (⟨"ShelfShiftModel", "allWidths", "()I"⟩, 29)]
theorem lw_r3 : ∀ q ∈ lw_privs_3, lw_okq q := List.forall_mem_cons.mpr ⟨lw_p32, List.forall_mem_cons.mpr ⟨lw_p33, List.forall_mem_cons.mpr ⟨lw_p34, List.forall_mem_cons.mpr ⟨lw_p35, List.forall_mem_cons.mpr ⟨lw_p36, List.forall_mem_cons.mpr ⟨lw_p37, List.forall_mem_cons.mpr ⟨lw_p38, List.forall_mem_cons.mpr ⟨lw_p39, List.forall_mem_cons.mpr ⟨lw_p40, List.forall_mem_cons.mpr ⟨lw_p41, List.forall_mem_cons.mpr ⟨lw_p42, List.forall_mem_cons.mpr ⟨lw_p43, List.forall_mem_cons.mpr ⟨lw_p44, List.forall_mem_cons.mpr ⟨lw_p45, List.forall_mem_cons.mpr ⟨lw_p46, List.forall_mem_cons.mpr ⟨lw_p47, fun _ h => absurd h List.not_mem_nil⟩⟩⟩⟩⟩⟩⟩⟩⟩⟩⟩⟩⟩⟩⟩⟩
theorem lw_p48 : lw_okq (⟨"ShelfShiftModel", "openLengths", "()I"⟩, 29) := ⟨⟨by decide +kernel, by decide +kernel⟩, List.mem_of_getElem? (i := 656) (by decide +kernel), List.mem_of_getElem? (i := 954) (by decide +kernel), List.mem_of_getElem? (i := 955) (by decide +kernel)⟩
theorem lw_p49 : lw_okq (⟨"ShelfShiftModel", "loadOf", "(I)I"⟩, 29) := ⟨⟨by decide +kernel, by decide +kernel⟩, List.mem_of_getElem? (i := 656) (by decide +kernel), List.mem_of_getElem? (i := 962) (by decide +kernel), List.mem_of_getElem? (i := 963) (by decide +kernel)⟩
theorem lw_p50 : lw_okq (⟨"ShelfShiftModel", "rateOf", "(I)I"⟩, 29) := ⟨⟨by decide +kernel, by decide +kernel⟩, List.mem_of_getElem? (i := 656) (by decide +kernel), List.mem_of_getElem? (i := 966) (by decide +kernel), List.mem_of_getElem? (i := 967) (by decide +kernel)⟩
theorem lw_p51 : lw_okq (⟨"ShelfShiftModel", "lastsOf", "(I)I"⟩, 29) := ⟨⟨by decide +kernel, by decide +kernel⟩, List.mem_of_getElem? (i := 656) (by decide +kernel), List.mem_of_getElem? (i := 970) (by decide +kernel), List.mem_of_getElem? (i := 971) (by decide +kernel)⟩
theorem lw_p52 : lw_okq (⟨"ShelfShiftModel", "firstOn", "(I)I"⟩, 29) := ⟨⟨by decide +kernel, by decide +kernel⟩, List.mem_of_getElem? (i := 656) (by decide +kernel), List.mem_of_getElem? (i := 974) (by decide +kernel), List.mem_of_getElem? (i := 975) (by decide +kernel)⟩
theorem lw_p53 : lw_okq (⟨"ShelfShiftModel", "manyOn", "(I)I"⟩, 29) := ⟨⟨by decide +kernel, by decide +kernel⟩, List.mem_of_getElem? (i := 656) (by decide +kernel), List.mem_of_getElem? (i := 978) (by decide +kernel), List.mem_of_getElem? (i := 979) (by decide +kernel)⟩
theorem lw_p54 : lw_okq (⟨"ShelfShiftModel", "booksOf", "(I)I"⟩, 29) := ⟨⟨by decide +kernel, by decide +kernel⟩, List.mem_of_getElem? (i := 656) (by decide +kernel), List.mem_of_getElem? (i := 986) (by decide +kernel), List.mem_of_getElem? (i := 987) (by decide +kernel)⟩
theorem lw_p55 : lw_okq (⟨"ShelfShiftModel", "firstOf", "(I)I"⟩, 29) := ⟨⟨by decide +kernel, by decide +kernel⟩, List.mem_of_getElem? (i := 656) (by decide +kernel), List.mem_of_getElem? (i := 990) (by decide +kernel), List.mem_of_getElem? (i := 991) (by decide +kernel)⟩
theorem lw_p56 : lw_okq (⟨"ShelfShiftModel", "shelvesOf", "(I)I"⟩, 29) := ⟨⟨by decide +kernel, by decide +kernel⟩, List.mem_of_getElem? (i := 656) (by decide +kernel), List.mem_of_getElem? (i := 994) (by decide +kernel), List.mem_of_getElem? (i := 995) (by decide +kernel)⟩
theorem lw_p57 : lw_okq (⟨"ShelfShiftModel", "needOf", "(I)I"⟩, 29) := ⟨⟨by decide +kernel, by decide +kernel⟩, List.mem_of_getElem? (i := 656) (by decide +kernel), List.mem_of_getElem? (i := 1002) (by decide +kernel), List.mem_of_getElem? (i := 1003) (by decide +kernel)⟩
theorem lw_p58 : lw_okq (⟨"ShelfShiftModel", "ahead", "(I)I"⟩, 29) := ⟨⟨by decide +kernel, by decide +kernel⟩, List.mem_of_getElem? (i := 656) (by decide +kernel), List.mem_of_getElem? (i := 1006) (by decide +kernel), List.mem_of_getElem? (i := 1007) (by decide +kernel)⟩
def lw_privs_4 : List (MethodName × Nat) := [(⟨"ShelfShiftModel", "openLengths", "()I"⟩, 29), (⟨"ShelfShiftModel", "loadOf", "(I)I"⟩, 29), (⟨"ShelfShiftModel", "rateOf", "(I)I"⟩, 29), (⟨"ShelfShiftModel", "lastsOf", "(I)I"⟩, 29), (⟨"ShelfShiftModel", "firstOn", "(I)I"⟩, 29), (⟨"ShelfShiftModel", "manyOn", "(I)I"⟩, 29), (⟨"ShelfShiftModel", "booksOf", "(I)I"⟩, 29), (⟨"ShelfShiftModel", "firstOf", "(I)I"⟩, 29), (⟨"ShelfShiftModel", "shelvesOf", "(I)I"⟩, 29), (⟨"ShelfShiftModel", "needOf", "(I)I"⟩, 29), (⟨"ShelfShiftModel", "ahead", "(I)I"⟩, 29)]
theorem lw_r4 : ∀ q ∈ lw_privs_4, lw_okq q := List.forall_mem_cons.mpr ⟨lw_p48, List.forall_mem_cons.mpr ⟨lw_p49, List.forall_mem_cons.mpr ⟨lw_p50, List.forall_mem_cons.mpr ⟨lw_p51, List.forall_mem_cons.mpr ⟨lw_p52, List.forall_mem_cons.mpr ⟨lw_p53, List.forall_mem_cons.mpr ⟨lw_p54, List.forall_mem_cons.mpr ⟨lw_p55, List.forall_mem_cons.mpr ⟨lw_p56, List.forall_mem_cons.mpr ⟨lw_p57, List.forall_mem_cons.mpr ⟨lw_p58, fun _ h => absurd h List.not_mem_nil⟩⟩⟩⟩⟩⟩⟩⟩⟩⟩⟩
def lw_privs : List (MethodName × Nat) := lw_privs_1 ++ (lw_privs_2 ++ (lw_privs_3 ++ (lw_privs_4)))
def lw_tbl : List Cond := k2_sels lw_privs ++ tables_1
theorem lw_privs_ok : ∀ q ∈ lw_privs, lw_okq q := by
  show ∀ q ∈ lw_privs_1 ++ (lw_privs_2 ++ (lw_privs_3 ++ (lw_privs_4))), lw_okq q
  exact List.forall_mem_append.mpr ⟨lw_r1, List.forall_mem_append.mpr ⟨lw_r2, List.forall_mem_append.mpr ⟨lw_r3, lw_r4⟩⟩⟩
def RX0 : String := "ShelfShift$Books"
def TX0 : u_T := fun k => match k with
  | 0 => ("ShelfShift$Books", "group", "[I", true)
  | 1 => ("ShelfShift$Books", "width", "[I", true)
  | 2 => ("ShelfShift$Books", "need", "[I", true)
  | 3 => ("ShelfShift$Books", "shelf", "[I", true)
  | 4 => ("ShelfShift$Books", "handled", "[I", true)
  | 5 => ("ShelfShift$Books", "lost", "[I", true)
  | 6 => ("ShelfShift$Books", "count", "I", false)
  | _ => ("ShelfShift$Books", "handledInAll", "I", false)
def tyX0 : Nat → FieldType := fun k => match k with
  | 0 => .array .int
  | 1 => .array .int
  | 2 => .array .int
  | 3 => .array .int
  | 4 => .array .int
  | 5 => .array .int
  | 6 => .int
  | _ => .int
abbrev wsX00 : List Cond := u_ws RX0 TX0 8
theorem nmX0 : ∀ a, a < 8 → ∀ b, b < 8 → a ≠ b → (TX0 a).2.1 ≠ (TX0 b).2.1 := by decide +kernel
theorem tyX0_ok : ∀ k, k < 8 → parseFieldDescriptor (TX0 k).2.2.1 = some (tyX0 k) := by decide +kernel
abbrev cX0_init : ByteArray := prog_2_method_1_code
def yX0_init : MethodName := ⟨RX0, "<init>", "()V"⟩
abbrev cX0_numberBehind : ByteArray := prog_2_method_2_code
def yX0_numberBehind : MethodName := ⟨RX0, "numberBehind", "(I)I"⟩
abbrev cX0_insert : ByteArray := prog_2_method_3_code
def yX0_insert : MethodName := ⟨RX0, "insert", "(IIII)V"⟩
abbrev cX0_openGap : ByteArray := prog_2_method_4_code
def yX0_openGap : MethodName := ⟨RX0, "openGap", "([II)V"⟩
abbrev cX0_remove : ByteArray := prog_2_method_5_code
def yX0_remove : MethodName := ⟨RX0, "remove", "(I)V"⟩
abbrev cX0_closeGap : ByteArray := prog_2_method_6_code
def yX0_closeGap : MethodName := ⟨RX0, "closeGap", "([II)V"⟩
abbrev cX0_carry : ByteArray := prog_2_method_7_code
def yX0_carry : MethodName := ⟨RX0, "carry", "(II)V"⟩
abbrev cX0_shareGrowth : ByteArray := prog_2_method_8_code
def yX0_shareGrowth : MethodName := ⟨RX0, "shareGrowth", "(II)V"⟩
abbrev cX0_giveOneMore : ByteArray := prog_2_method_9_code
def yX0_giveOneMore : MethodName := ⟨RX0, "giveOneMore", "(I)I"⟩
abbrev cX0_allWidths : ByteArray := prog_2_method_10_code
def yX0_allWidths : MethodName := ⟨RX0, "allWidths", "()I"⟩
abbrev cX0_loadOn : ByteArray := prog_2_method_11_code
def yX0_loadOn : MethodName := ⟨RX0, "loadOn", "(I)I"⟩
abbrev cX0_rateOn : ByteArray := prog_2_method_12_code
def yX0_rateOn : MethodName := ⟨RX0, "rateOn", "(I)I"⟩
abbrev cX0_firstOn : ByteArray := prog_2_method_13_code
def yX0_firstOn : MethodName := ⟨RX0, "firstOn", "(I)I"⟩
abbrev cX0_countOn : ByteArray := prog_2_method_14_code
def yX0_countOn : MethodName := ⟨RX0, "countOn", "(I)I"⟩
abbrev cX0_firstIn : ByteArray := prog_2_method_15_code
def yX0_firstIn : MethodName := ⟨RX0, "firstIn", "(I)I"⟩
abbrev cX0_countIn : ByteArray := prog_2_method_16_code
def yX0_countIn : MethodName := ⟨RX0, "countIn", "(I)I"⟩
abbrev cX0_widthsIn : ByteArray := prog_2_method_17_code
def yX0_widthsIn : MethodName := ⟨RX0, "widthsIn", "(I)I"⟩
abbrev cX0_firstWith : ByteArray := prog_2_method_18_code
def yX0_firstWith : MethodName := ⟨RX0, "firstWith", "([II)I"⟩
abbrev cX0_sumWith : ByteArray := prog_2_method_19_code
def yX0_sumWith : MethodName := ⟨RX0, "sumWith", "([II[I)I"⟩
abbrev cX0_countWith : ByteArray := prog_2_method_20_code
def yX0_countWith : MethodName := ⟨RX0, "countWith", "([II)I"⟩
abbrev cX0_shelvesOf : ByteArray := prog_2_method_21_code
def yX0_shelvesOf : MethodName := ⟨RX0, "shelvesOf", "(I)I"⟩
abbrev cX0_widthsAheadOf : ByteArray := prog_2_method_22_code
def yX0_widthsAheadOf : MethodName := ⟨RX0, "widthsAheadOf", "(I)I"⟩
def RX1 : String := "ShelfShift$Cutter"
def TX1 : u_T := fun k => match k with
  | 0 => ("ShelfShift$Cutter", "goes", "[I", true)
  | 1 => ("ShelfShift$Cutter", "taken", "[I", true)
  | 2 => ("ShelfShift$Cutter", "length", "[I", true)
  | 3 => ("ShelfShift$Cutter", "kind", "[I", true)
  | 4 => ("ShelfShift$Cutter", "width", "[I", true)
  | 5 => ("ShelfShift$Cutter", "span", "[I", true)
  | 6 => ("ShelfShift$Cutter", "stands", "[I", true)
  | 7 => ("ShelfShift$Cutter", "least", "[[I", true)
  | 8 => ("ShelfShift$Cutter", "most", "[[I", true)
  | 9 => ("ShelfShift$Cutter", "shelfCount", "I", false)
  | 10 => ("ShelfShift$Cutter", "count", "I", false)
  | _ => ("ShelfShift$Cutter", "leastPrice", "I", false)
def tyX1 : Nat → FieldType := fun k => match k with
  | 0 => .array .int
  | 1 => .array .int
  | 2 => .array .int
  | 3 => .array .int
  | 4 => .array .int
  | 5 => .array .int
  | 6 => .array .int
  | 7 => .array (.array .int)
  | 8 => .array (.array .int)
  | 9 => .int
  | 10 => .int
  | _ => .int
abbrev wsX10 : List Cond := u_ws RX1 TX1 12
theorem nmX1 : ∀ a, a < 12 → ∀ b, b < 12 → a ≠ b → (TX1 a).2.1 ≠ (TX1 b).2.1 := by decide +kernel
theorem tyX1_ok : ∀ k, k < 12 → parseFieldDescriptor (TX1 k).2.2.1 = some (tyX1 k) := by decide +kernel
abbrev cX1_init : ByteArray := prog_3_method_1_code
def yX1_init : MethodName := ⟨RX1, "<init>", "()V"⟩
abbrev cX1_load : ByteArray := prog_3_method_2_code
def yX1_load : MethodName := ⟨RX1, "load", "(LShelfShift$Shelves;LShelfShift$Books;I)V"⟩
abbrev cX1_insert : ByteArray := prog_3_method_3_code
def yX1_insert : MethodName := ⟨RX1, "insert", "(II)V"⟩
abbrev cX1_forget : ByteArray := prog_3_method_4_code
def yX1_forget : MethodName := ⟨RX1, "forget", "(I)V"⟩
abbrev cX1_shelvesFilled : ByteArray := prog_3_method_5_code
def yX1_shelvesFilled : MethodName := ⟨RX1, "shelvesFilled", "(I)I"⟩
abbrev cX1_fill : ByteArray := prog_3_method_6_code
def yX1_fill : MethodName := ⟨RX1, "fill", "(II)I"⟩
abbrev cX1_findCuts : ByteArray := prog_3_method_7_code
def yX1_findCuts : MethodName := ⟨RX1, "findCuts", "()Z"⟩
abbrev cX1_chooseMost : ByteArray := prog_3_method_8_code
def yX1_chooseMost : MethodName := ⟨RX1, "chooseMost", "(II)V"⟩
abbrev cX1_priceOfMove : ByteArray := prog_3_method_9_code
def yX1_priceOfMove : MethodName := ⟨RX1, "priceOfMove", "(II)I"⟩
abbrev cX1_follow : ByteArray := prog_3_method_10_code
def yX1_follow : MethodName := ⟨RX1, "follow", "()V"⟩
abbrev cX1_partOfPrice : ByteArray := prog_3_method_11_code
def yX1_partOfPrice : MethodName := ⟨RX1, "partOfPrice", "(I)I"⟩
def RX2 : String := "ShelfShift$Groups"
def TX2 : u_T := fun k => match k with
  | 0 => ("ShelfShift$Groups", "growth", "[I", true)
  | _ => ("ShelfShift$Groups", "count", "I", false)
def tyX2 : Nat → FieldType := fun k => match k with
  | 0 => .array .int
  | _ => .int
abbrev wsX20 : List Cond := u_ws RX2 TX2 2
theorem nmX2 : ∀ a, a < 2 → ∀ b, b < 2 → a ≠ b → (TX2 a).2.1 ≠ (TX2 b).2.1 := by decide +kernel
theorem tyX2_ok : ∀ k, k < 2 → parseFieldDescriptor (TX2 k).2.2.1 = some (tyX2 k) := by decide +kernel
abbrev cX2_init : ByteArray := prog_4_method_1_code
def yX2_init : MethodName := ⟨RX2, "<init>", "()V"⟩
abbrev cX2_add : ByteArray := prog_4_method_2_code
def yX2_add : MethodName := ⟨RX2, "add", "(I)I"⟩
def RX3 : String := "ShelfShift$Logbook"
def TX3 : u_T := fun k => match k with
  | 0 => ("ShelfShift$Logbook", "parts", "[I", true)
  | 1 => ("ShelfShift$Logbook", "next", "I", false)
  | _ => ("ShelfShift$Logbook", "count", "I", false)
def tyX3 : Nat → FieldType := fun k => match k with
  | 0 => .array .int
  | 1 => .int
  | _ => .int
abbrev wsX30 : List Cond := u_ws RX3 TX3 3
theorem nmX3 : ∀ a, a < 3 → ∀ b, b < 3 → a ≠ b → (TX3 a).2.1 ≠ (TX3 b).2.1 := by decide +kernel
theorem tyX3_ok : ∀ k, k < 3 → parseFieldDescriptor (TX3 k).2.2.1 = some (tyX3 k) := by decide +kernel
abbrev cX3_init : ByteArray := prog_5_method_1_code
def yX3_init : MethodName := ⟨RX3, "<init>", "()V"⟩
abbrev cX3_write : ByteArray := prog_5_method_2_code
def yX3_write : MethodName := ⟨RX3, "write", "(IIIII)V"⟩
abbrev cX3_read : ByteArray := prog_5_method_3_code
def yX3_read : MethodName := ⟨RX3, "read", "(II)I"⟩
def RX4 : String := "ShelfShift$Plan"
def TX4 : u_T := fun k => match k with
  | 0 => ("ShelfShift$Plan", "goes", "[I", true)
  | 1 => ("ShelfShift$Plan", "book", "[I", true)
  | 2 => ("ShelfShift$Plan", "width", "[I", true)
  | 3 => ("ShelfShift$Plan", "from", "[I", true)
  | 4 => ("ShelfShift$Plan", "to", "[I", true)
  | 5 => ("ShelfShift$Plan", "total", "I", false)
  | 6 => ("ShelfShift$Plan", "done", "I", false)
  | _ => ("ShelfShift$Plan", "years", "I", false)
def tyX4 : Nat → FieldType := fun k => match k with
  | 0 => .array .int
  | 1 => .array .int
  | 2 => .array .int
  | 3 => .array .int
  | 4 => .array .int
  | 5 => .int
  | 6 => .int
  | _ => .int
abbrev wsX40 : List Cond := u_ws RX4 TX4 8
theorem nmX4 : ∀ a, a < 8 → ∀ b, b < 8 → a ≠ b → (TX4 a).2.1 ≠ (TX4 b).2.1 := by decide +kernel
theorem tyX4_ok : ∀ k, k < 8 → parseFieldDescriptor (TX4 k).2.2.1 = some (tyX4 k) := by decide +kernel
abbrev cX4_init : ByteArray := prog_6_method_1_code
def yX4_init : MethodName := ⟨RX4, "<init>", "()V"⟩
abbrev cX4_exists : ByteArray := prog_6_method_2_code
def yX4_exists : MethodName := ⟨RX4, "exists", "()Z"⟩
abbrev cX4_end : ByteArray := prog_6_method_3_code
def yX4_end : MethodName := ⟨RX4, "end", "()V"⟩
abbrev cX4_make : ByteArray := prog_6_method_4_code
def yX4_make : MethodName := ⟨RX4, "make", "(LShelfShift$Books;[II)V"⟩
abbrev cX4_add : ByteArray := prog_6_method_5_code
def yX4_add : MethodName := ⟨RX4, "add", "(LShelfShift$Books;I)V"⟩
abbrev cX4_stepOn : ByteArray := prog_6_method_6_code
def yX4_stepOn : MethodName := ⟨RX4, "stepOn", "()V"⟩
abbrev cX4_direction : ByteArray := prog_6_method_7_code
def yX4_direction : MethodName := ⟨RX4, "direction", "(I)I"⟩
abbrev cX4_movesOfNextDay : ByteArray := prog_6_method_8_code
def yX4_movesOfNextDay : MethodName := ⟨RX4, "movesOfNextDay", "(I)I"⟩
abbrev cX4_days : ByteArray := prog_6_method_9_code
def yX4_days : MethodName := ⟨RX4, "days", "(III)I"⟩
abbrev cX4_trips : ByteArray := prog_6_method_10_code
def yX4_trips : MethodName := ⟨RX4, "trips", "(II)I"⟩
abbrev cX4_takenAheadOf : ByteArray := prog_6_method_11_code
def yX4_takenAheadOf : MethodName := ⟨RX4, "takenAheadOf", "(I)I"⟩
abbrev cX4_widthsLeft : ByteArray := prog_6_method_12_code
def yX4_widthsLeft : MethodName := ⟨RX4, "widthsLeft", "()I"⟩
abbrev cX4_rightsLeft : ByteArray := prog_6_method_13_code
def yX4_rightsLeft : MethodName := ⟨RX4, "rightsLeft", "()I"⟩
def RX5 : String := "ShelfShift$Shelves"
def TX5 : u_T := fun k => match k with
  | 0 => ("ShelfShift$Shelves", "length", "[I", true)
  | 1 => ("ShelfShift$Shelves", "kind", "[I", true)
  | _ => ("ShelfShift$Shelves", "count", "I", false)
def tyX5 : Nat → FieldType := fun k => match k with
  | 0 => .array .int
  | 1 => .array .int
  | _ => .int
abbrev wsX50 : List Cond := u_ws RX5 TX5 3
theorem nmX5 : ∀ a, a < 3 → ∀ b, b < 3 → a ≠ b → (TX5 a).2.1 ≠ (TX5 b).2.1 := by decide +kernel
theorem tyX5_ok : ∀ k, k < 3 → parseFieldDescriptor (TX5 k).2.2.1 = some (tyX5 k) := by decide +kernel
abbrev cX5_init : ByteArray := prog_7_method_1_code
def yX5_init : MethodName := ⟨RX5, "<init>", "()V"⟩
abbrev cX5_add : ByteArray := prog_7_method_2_code
def yX5_add : MethodName := ⟨RX5, "add", "(II)I"⟩
abbrev cX5_openLengths : ByteArray := prog_7_method_3_code
def yX5_openLengths : MethodName := ⟨RX5, "openLengths", "()I"⟩
def RX6 : String := "ShelfShift"
def TX6 : u_T := fun k => match k with
  | 0 => ("ShelfShift", "shelves", "LShelfShift$Shelves;", true)
  | 1 => ("ShelfShift", "groups", "LShelfShift$Groups;", true)
  | 2 => ("ShelfShift", "books", "LShelfShift$Books;", true)
  | 3 => ("ShelfShift", "cutter", "LShelfShift$Cutter;", true)
  | 4 => ("ShelfShift", "plan", "LShelfShift$Plan;", true)
  | 5 => ("ShelfShift", "logbook", "LShelfShift$Logbook;", true)
  | _ => ("ShelfShift", "dayLimit", "I", false)
def tyX6 : Nat → FieldType := fun k => match k with
  | 0 => .object "ShelfShift$Shelves"
  | 1 => .object "ShelfShift$Groups"
  | 2 => .object "ShelfShift$Books"
  | 3 => .object "ShelfShift$Cutter"
  | 4 => .object "ShelfShift$Plan"
  | 5 => .object "ShelfShift$Logbook"
  | _ => .int
abbrev wsX60 : List Cond := u_ws RX6 TX6 7
theorem nmX6 : ∀ a, a < 7 → ∀ b, b < 7 → a ≠ b → (TX6 a).2.1 ≠ (TX6 b).2.1 := by decide +kernel
theorem tyX6_ok : ∀ k, k < 7 → parseFieldDescriptor (TX6 k).2.2.1 = some (tyX6 k) := by decide +kernel
abbrev cX6_init : ByteArray := prog_1_method_1_code
def yX6_init : MethodName := ⟨RX6, "<init>", "()V"⟩
abbrev cX6_shelf : ByteArray := prog_1_method_2_code
def yX6_shelf : MethodName := ⟨RX6, "shelf", "(II)I"⟩
abbrev cX6_turn : ByteArray := prog_1_method_3_code
def yX6_turn : MethodName := ⟨RX6, "turn", "(II)Z"⟩
abbrev cX6_group : ByteArray := prog_1_method_4_code
def yX6_group : MethodName := ⟨RX6, "group", "(I)I"⟩
abbrev cX6_grow : ByteArray := prog_1_method_5_code
def yX6_grow : MethodName := ⟨RX6, "grow", "(II)Z"⟩
abbrev cX6_book : ByteArray := prog_1_method_6_code
def yX6_book : MethodName := ⟨RX6, "book", "(II)I"⟩
abbrev cX6_gone : ByteArray := prog_1_method_7_code
def yX6_gone : MethodName := ⟨RX6, "gone", "(I)I"⟩
abbrev cX6_limit : ByteArray := prog_1_method_8_code
def yX6_limit : MethodName := ⟨RX6, "limit", "(I)Z"⟩
abbrev cX6_count : ByteArray := prog_1_method_9_code
def yX6_count : MethodName := ⟨RX6, "count", "(I)I"⟩
abbrev cX6_on : ByteArray := prog_1_method_10_code
def yX6_on : MethodName := ⟨RX6, "on", "(II)I"⟩
abbrev cX6_in : ByteArray := prog_1_method_11_code
def yX6_in : MethodName := ⟨RX6, "in", "(II)I"⟩
abbrev cX6_of : ByteArray := prog_1_method_12_code
def yX6_of : MethodName := ⟨RX6, "of", "(II)I"⟩
abbrev cX6_lasts : ByteArray := prog_1_method_13_code
def yX6_lasts : MethodName := ⟨RX6, "lasts", "()I"⟩
abbrev cX6_cut : ByteArray := prog_1_method_14_code
def yX6_cut : MethodName := ⟨RX6, "cut", "(II)I"⟩
abbrev cX6_price : ByteArray := prog_1_method_15_code
def yX6_price : MethodName := ⟨RX6, "price", "(II)I"⟩
abbrev cX6_best : ByteArray := prog_1_method_16_code
def yX6_best : MethodName := ⟨RX6, "best", "(Z)I"⟩
abbrev cX6_tight : ByteArray := prog_1_method_17_code
def yX6_tight : MethodName := ⟨RX6, "tight", "()I"⟩
abbrev cX6_more : ByteArray := prog_1_method_18_code
def yX6_more : MethodName := ⟨RX6, "more", "(II)I"⟩
abbrev cX6_plan : ByteArray := prog_1_method_19_code
def yX6_plan : MethodName := ⟨RX6, "plan", "(I)I"⟩
abbrev cX6_drop : ByteArray := prog_1_method_20_code
def yX6_drop : MethodName := ⟨RX6, "drop", "()I"⟩
abbrev cX6_move : ByteArray := prog_1_method_21_code
def yX6_move : MethodName := ⟨RX6, "move", "()I"⟩
abbrev cX6_day : ByteArray := prog_1_method_22_code
def yX6_day : MethodName := ⟨RX6, "day", "()I"⟩
abbrev cX6_planned : ByteArray := prog_1_method_23_code
def yX6_planned : MethodName := ⟨RX6, "planned", "(II)I"⟩
abbrev cX6_left : ByteArray := prog_1_method_24_code
def yX6_left : MethodName := ⟨RX6, "left", "(I)I"⟩
abbrev cX6_enough : ByteArray := prog_1_method_25_code
def yX6_enough : MethodName := ⟨RX6, "enough", "(I)I"⟩
abbrev cX6_log : ByteArray := prog_1_method_26_code
def yX6_log : MethodName := ⟨RX6, "log", "(II)I"⟩
abbrev cX6_isWithin : ByteArray := prog_1_method_27_code
def yX6_isWithin : MethodName := ⟨RX6, "isWithin", "(III)Z"⟩
abbrev cX6_hasShelf : ByteArray := prog_1_method_28_code
def yX6_hasShelf : MethodName := ⟨RX6, "hasShelf", "(I)Z"⟩
abbrev cX6_hasGroup : ByteArray := prog_1_method_29_code
def yX6_hasGroup : MethodName := ⟨RX6, "hasGroup", "(I)Z"⟩
abbrev cX6_hasBook : ByteArray := prog_1_method_30_code
def yX6_hasBook : MethodName := ⟨RX6, "hasBook", "(I)Z"⟩
abbrev cX6_roomOn : ByteArray := prog_1_method_31_code
def yX6_roomOn : MethodName := ⟨RX6, "roomOn", "(I)I"⟩
abbrev cX6_yearsOn : ByteArray := prog_1_method_32_code
def yX6_yearsOn : MethodName := ⟨RX6, "yearsOn", "(I)I"⟩
abbrev cX6_hasCuts : ByteArray := prog_1_method_33_code
def yX6_hasCuts : MethodName := ⟨RX6, "hasCuts", "(I)Z"⟩
abbrev cX6_isRoomFor : ByteArray := prog_1_method_34_code
def yX6_isRoomFor : MethodName := ⟨RX6, "isRoomFor", "(II)Z"⟩
abbrev cX6_moveAtOnce : ByteArray := prog_1_method_35_code
def yX6_moveAtOnce : MethodName := ⟨RX6, "moveAtOnce", "()V"⟩
abbrev cX6_makeNextMove : ByteArray := prog_1_method_36_code
def yX6_makeNextMove : MethodName := ⟨RX6, "makeNextMove", "()I"⟩
def RX7 : String := "ShelfShiftModel"
def TX7 : u_T := fun k => match k with
  | 0 => ("ShelfShiftModel", "raised", "I", false)
  | 1 => ("ShelfShiftModel", "shelves", "I", false)
  | 2 => ("ShelfShiftModel", "length", "[I", true)
  | 3 => ("ShelfShiftModel", "kind", "[I", true)
  | 4 => ("ShelfShiftModel", "groups", "I", false)
  | 5 => ("ShelfShiftModel", "growth", "[I", true)
  | 6 => ("ShelfShiftModel", "books", "I", false)
  | 7 => ("ShelfShiftModel", "group", "[I", true)
  | 8 => ("ShelfShiftModel", "width", "[I", true)
  | 9 => ("ShelfShiftModel", "shelf", "[I", true)
  | 10 => ("ShelfShiftModel", "handled", "[I", true)
  | 11 => ("ShelfShiftModel", "handledAll", "I", false)
  | 12 => ("ShelfShiftModel", "limit", "I", false)
  | 13 => ("ShelfShiftModel", "logs", "[I", true)
  | 14 => ("ShelfShiftModel", "logMany", "I", false)
  | 15 => ("ShelfShiftModel", "need", "[I", true)
  | 16 => ("ShelfShiftModel", "lost", "[I", true)
  | 17 => ("ShelfShiftModel", "least", "[I", true)
  | 18 => ("ShelfShiftModel", "cutMany", "[I", true)
  | 19 => ("ShelfShiftModel", "takes", "[I", true)
  | 20 => ("ShelfShiftModel", "goal", "[I", true)
  | 21 => ("ShelfShiftModel", "isPlanned", "Z", false)
  | 22 => ("ShelfShiftModel", "planYears", "I", false)
  | 23 => ("ShelfShiftModel", "planMany", "I", false)
  | 24 => ("ShelfShiftModel", "planDone", "I", false)
  | 25 => ("ShelfShiftModel", "planBook", "[I", true)
  | 26 => ("ShelfShiftModel", "planFrom", "[I", true)
  | 27 => ("ShelfShiftModel", "planTo", "[I", true)
  | _ => ("ShelfShiftModel", "planGoal", "[I", true)
def tyX7 : Nat → FieldType := fun k => match k with
  | 0 => .int
  | 1 => .int
  | 2 => .array .int
  | 3 => .array .int
  | 4 => .int
  | 5 => .array .int
  | 6 => .int
  | 7 => .array .int
  | 8 => .array .int
  | 9 => .array .int
  | 10 => .array .int
  | 11 => .int
  | 12 => .int
  | 13 => .array .int
  | 14 => .int
  | 15 => .array .int
  | 16 => .array .int
  | 17 => .array .int
  | 18 => .array .int
  | 19 => .array .int
  | 20 => .array .int
  | 21 => .boolean
  | 22 => .int
  | 23 => .int
  | 24 => .int
  | 25 => .array .int
  | 26 => .array .int
  | 27 => .array .int
  | _ => .array .int
abbrev wsX70 : List Cond := u_ws RX7 TX7 29
theorem nmX7 : ∀ a, a < 29 → ∀ b, b < 29 → a ≠ b → (TX7 a).2.1 ≠ (TX7 b).2.1 := by decide +kernel
theorem tyX7_ok : ∀ k, k < 29 → parseFieldDescriptor (TX7 k).2.2.1 = some (tyX7 k) := by decide +kernel
abbrev cX7_init : ByteArray := prog_9_method_1_code
def yX7_init : MethodName := ⟨RX7, "<init>", "()V"⟩
abbrev cX7_thrown : ByteArray := prog_9_method_2_code
def yX7_thrown : MethodName := ⟨RX7, "thrown", "()I"⟩
abbrev cX7_isIn : ByteArray := prog_9_method_3_code
def yX7_isIn : MethodName := ⟨RX7, "isIn", "(III)Z"⟩
abbrev cX7_isShelf : ByteArray := prog_9_method_4_code
def yX7_isShelf : MethodName := ⟨RX7, "isShelf", "(I)Z"⟩
abbrev cX7_isGroup : ByteArray := prog_9_method_5_code
def yX7_isGroup : MethodName := ⟨RX7, "isGroup", "(I)Z"⟩
abbrev cX7_isBook : ByteArray := prog_9_method_6_code
def yX7_isBook : MethodName := ⟨RX7, "isBook", "(I)Z"⟩
abbrev cX7_notes : ByteArray := prog_9_method_7_code
def yX7_notes : MethodName := ⟨RX7, "notes", "(IIII)V"⟩
abbrev cX7_log : ByteArray := prog_9_method_8_code
def yX7_log : MethodName := ⟨RX7, "log", "(II)I"⟩
abbrev cX7_widthOf : ByteArray := prog_9_method_9_code
def yX7_widthOf : MethodName := ⟨RX7, "widthOf", "(I)I"⟩
abbrev cX7_laysNeeds : ByteArray := prog_9_method_10_code
def yX7_laysNeeds : MethodName := ⟨RX7, "laysNeeds", "()V"⟩
abbrev cX7_loadOf : ByteArray := prog_9_method_11_code
def yX7_loadOf : MethodName := ⟨RX7, "loadOf", "(I)I"⟩
abbrev cX7_rateOf : ByteArray := prog_9_method_12_code
def yX7_rateOf : MethodName := ⟨RX7, "rateOf", "(I)I"⟩
abbrev cX7_lastsOf : ByteArray := prog_9_method_13_code
def yX7_lastsOf : MethodName := ⟨RX7, "lastsOf", "(I)I"⟩
abbrev cX7_firstOn : ByteArray := prog_9_method_14_code
def yX7_firstOn : MethodName := ⟨RX7, "firstOn", "(I)I"⟩
abbrev cX7_manyOn : ByteArray := prog_9_method_15_code
def yX7_manyOn : MethodName := ⟨RX7, "manyOn", "(I)I"⟩
abbrev cX7_cell : ByteArray := prog_9_method_16_code
def yX7_cell : MethodName := ⟨RX7, "cell", "(II)I"⟩
abbrev cX7_costOf : ByteArray := prog_9_method_17_code
def yX7_costOf : MethodName := ⟨RX7, "costOf", "(III)I"⟩
abbrev cX7_mostOn : ByteArray := prog_9_method_18_code
def yX7_mostOn : MethodName := ⟨RX7, "mostOn", "(II)I"⟩
abbrev cX7_cuts : ByteArray := prog_9_method_19_code
def yX7_cuts : MethodName := ⟨RX7, "cuts", "(I)Z"⟩
abbrev cX7_laysLeast : ByteArray := prog_9_method_20_code
def yX7_laysLeast : MethodName := ⟨RX7, "laysLeast", "(II)V"⟩
abbrev cX7_isYears : ByteArray := prog_9_method_21_code
def yX7_isYears : MethodName := ⟨RX7, "isYears", "(I)Z"⟩
abbrev cX7_cut : ByteArray := prog_9_method_22_code
def yX7_cut : MethodName := ⟨RX7, "cut", "(II)I"⟩
abbrev cX7_price : ByteArray := prog_9_method_23_code
def yX7_price : MethodName := ⟨RX7, "price", "(II)I"⟩
abbrev cX7_fits : ByteArray := prog_9_method_24_code
def yX7_fits : MethodName := ⟨RX7, "fits", "(IZ)Z"⟩
abbrev cX7_best : ByteArray := prog_9_method_25_code
def yX7_best : MethodName := ⟨RX7, "best", "(Z)I"⟩
abbrev cX7_tight : ByteArray := prog_9_method_26_code
def yX7_tight : MethodName := ⟨RX7, "tight", "()I"⟩
abbrev cX7_opens : ByteArray := prog_9_method_27_code
def yX7_opens : MethodName := ⟨RX7, "opens", "(I)V"⟩
abbrev cX7_closes : ByteArray := prog_9_method_28_code
def yX7_closes : MethodName := ⟨RX7, "closes", "(I)V"⟩
abbrev cX7_behind : ByteArray := prog_9_method_29_code
def yX7_behind : MethodName := ⟨RX7, "behind", "(I)I"⟩
abbrev cX7_comes : ByteArray := prog_9_method_30_code
def yX7_comes : MethodName := ⟨RX7, "comes", "(III)V"⟩
abbrev cX7_laysGoals : ByteArray := prog_9_method_31_code
def yX7_laysGoals : MethodName := ⟨RX7, "laysGoals", "()V"⟩
abbrev cX7_book : ByteArray := prog_9_method_32_code
def yX7_book : MethodName := ⟨RX7, "book", "(II)I"⟩
abbrev cX7_gone : ByteArray := prog_9_method_33_code
def yX7_gone : MethodName := ⟨RX7, "gone", "(I)I"⟩
abbrev cX7_more : ByteArray := prog_9_method_34_code
def yX7_more : MethodName := ⟨RX7, "more", "(II)I"⟩
abbrev cX7_ends : ByteArray := prog_9_method_35_code
def yX7_ends : MethodName := ⟨RX7, "ends", "()V"⟩
abbrev cX7_moves : ByteArray := prog_9_method_36_code
def yX7_moves : MethodName := ⟨RX7, "moves", "(II)V"⟩
abbrev cX7_plans : ByteArray := prog_9_method_37_code
def yX7_plans : MethodName := ⟨RX7, "plans", "(I)V"⟩
abbrev cX7_plan : ByteArray := prog_9_method_38_code
def yX7_plan : MethodName := ⟨RX7, "plan", "(I)I"⟩
abbrev cX7_drop : ByteArray := prog_9_method_39_code
def yX7_drop : MethodName := ⟨RX7, "drop", "()I"⟩
abbrev cX7_goesOn : ByteArray := prog_9_method_40_code
def yX7_goesOn : MethodName := ⟨RX7, "goesOn", "()I"⟩
abbrev cX7_move : ByteArray := prog_9_method_41_code
def yX7_move : MethodName := ⟨RX7, "move", "()I"⟩
abbrev cX7_day : ByteArray := prog_9_method_42_code
def yX7_day : MethodName := ⟨RX7, "day", "()I"⟩
abbrev cX7_dayOf : ByteArray := prog_9_method_43_code
def yX7_dayOf : MethodName := ⟨RX7, "dayOf", "(III)I"⟩
abbrev cX7_tripOf : ByteArray := prog_9_method_44_code
def yX7_tripOf : MethodName := ⟨RX7, "tripOf", "(II)I"⟩
abbrev cX7_taken : ByteArray := prog_9_method_45_code
def yX7_taken : MethodName := ⟨RX7, "taken", "(I)I"⟩
abbrev cX7_planned : ByteArray := prog_9_method_46_code
def yX7_planned : MethodName := ⟨RX7, "planned", "(II)I"⟩
abbrev cX7_leftWidths : ByteArray := prog_9_method_47_code
def yX7_leftWidths : MethodName := ⟨RX7, "leftWidths", "()I"⟩
abbrev cX7_leftRight : ByteArray := prog_9_method_48_code
def yX7_leftRight : MethodName := ⟨RX7, "leftRight", "()I"⟩
abbrev cX7_left : ByteArray := prog_9_method_49_code
def yX7_left : MethodName := ⟨RX7, "left", "(I)I"⟩
abbrev cX7_enough : ByteArray := prog_9_method_50_code
def yX7_enough : MethodName := ⟨RX7, "enough", "(I)I"⟩
abbrev cX7_shelf : ByteArray := prog_9_method_51_code
def yX7_shelf : MethodName := ⟨RX7, "shelf", "(II)I"⟩
abbrev cX7_turn : ByteArray := prog_9_method_52_code
def yX7_turn : MethodName := ⟨RX7, "turn", "(II)Z"⟩
abbrev cX7_group : ByteArray := prog_9_method_53_code
def yX7_group : MethodName := ⟨RX7, "group", "(I)I"⟩
abbrev cX7_grow : ByteArray := prog_9_method_54_code
def yX7_grow : MethodName := ⟨RX7, "grow", "(II)Z"⟩
abbrev cX7_limit : ByteArray := prog_9_method_55_code
def yX7_limit : MethodName := ⟨RX7, "limit", "(I)Z"⟩
abbrev cX7_allWidths : ByteArray := prog_9_method_56_code
def yX7_allWidths : MethodName := ⟨RX7, "allWidths", "()I"⟩
abbrev cX7_openLengths : ByteArray := prog_9_method_57_code
def yX7_openLengths : MethodName := ⟨RX7, "openLengths", "()I"⟩
abbrev cX7_count : ByteArray := prog_9_method_58_code
def yX7_count : MethodName := ⟨RX7, "count", "(I)I"⟩
abbrev cX7_on : ByteArray := prog_9_method_59_code
def yX7_on : MethodName := ⟨RX7, "on", "(II)I"⟩
abbrev cX7_booksOf : ByteArray := prog_9_method_60_code
def yX7_booksOf : MethodName := ⟨RX7, "booksOf", "(I)I"⟩
abbrev cX7_firstOf : ByteArray := prog_9_method_61_code
def yX7_firstOf : MethodName := ⟨RX7, "firstOf", "(I)I"⟩
abbrev cX7_shelvesOf : ByteArray := prog_9_method_62_code
def yX7_shelvesOf : MethodName := ⟨RX7, "shelvesOf", "(I)I"⟩
abbrev cX7_in : ByteArray := prog_9_method_63_code
def yX7_in : MethodName := ⟨RX7, "in", "(II)I"⟩
abbrev cX7_needOf : ByteArray := prog_9_method_64_code
def yX7_needOf : MethodName := ⟨RX7, "needOf", "(I)I"⟩
abbrev cX7_ahead : ByteArray := prog_9_method_65_code
def yX7_ahead : MethodName := ⟨RX7, "ahead", "(I)I"⟩
abbrev cX7_of : ByteArray := prog_9_method_66_code
def yX7_of : MethodName := ⟨RX7, "of", "(II)I"⟩
abbrev cX7_lasts : ByteArray := prog_9_method_67_code
def yX7_lasts : MethodName := ⟨RX7, "lasts", "()I"⟩
def RJx145de : String := "java/io/Serializable"
def TJx145de : u_T := fun k => match k with
  | _ => ("", "", "", false)
def tyJx145de : Nat → FieldType := fun k => match k with
  | _ => .int
abbrev wsJx145de0 : List Cond := u_ws RJx145de TJx145de 0
theorem nmJx145de : ∀ a, a < 0 → ∀ b, b < 0 → a ≠ b → (TJx145de a).2.1 ≠ (TJx145de b).2.1 := by decide +kernel
theorem tyJx145de_ok : ∀ k, k < 0 → parseFieldDescriptor (TJx145de k).2.2.1 = some (tyJx145de k) := by decide +kernel
def RJ9 : String := "java/lang/Math"
def TJ9 : u_T := fun k => match k with
  | _ => ("", "", "", false)
def tyJ9 : Nat → FieldType := fun k => match k with
  | _ => .int
abbrev wsJ90 : List Cond := u_ws RJ9 TJ9 0
theorem nmJ9 : ∀ a, a < 0 → ∀ b, b < 0 → a ≠ b → (TJ9 a).2.1 ≠ (TJ9 b).2.1 := by decide +kernel
theorem tyJ9_ok : ∀ k, k < 0 → parseFieldDescriptor (TJ9 k).2.2.1 = some (tyJ9 k) := by decide +kernel
abbrev cJ9_min_7cf53 : ByteArray := prog_12_method_69_code
def yJ9_min_7cf53 : MethodName := ⟨RJ9, "min", "(II)I"⟩
def RJ0 : String := "java/lang/String"
def TJ0 : u_T := fun k => match k with
  | _ => ("", "", "", false)
def tyJ0 : Nat → FieldType := fun k => match k with
  | _ => .int
abbrev wsJ00 : List Cond := u_ws RJ0 TJ0 0
theorem nmJ0 : ∀ a, a < 0 → ∀ b, b < 0 → a ≠ b → (TJ0 a).2.1 ≠ (TJ0 b).2.1 := by decide +kernel
theorem tyJ0_ok : ∀ k, k < 0 → parseFieldDescriptor (TJ0 k).2.2.1 = some (tyJ0 k) := by decide +kernel
def RJ10 : String := "java/lang/System"
def TJ10 : u_T := fun k => match k with
  | _ => ("", "", "", false)
def tyJ10 : Nat → FieldType := fun k => match k with
  | _ => .int
abbrev wsJ100 : List Cond := u_ws RJ10 TJ10 0
theorem nmJ10 : ∀ a, a < 0 → ∀ b, b < 0 → a ≠ b → (TJ10 a).2.1 ≠ (TJ10 b).2.1 := by decide +kernel
theorem tyJ10_ok : ∀ k, k < 0 → parseFieldDescriptor (TJ10 k).2.2.1 = some (tyJ10 k) := by decide +kernel
def RL : String := "ShelfShiftLaw"
abbrev cL_on : ByteArray := method_3_code
def yL_on : MethodName := ⟨RL, "on", "(LShelfShift;II[J)I"⟩
abbrev cL_in : ByteArray := method_4_code
def yL_in : MethodName := ⟨RL, "in", "(LShelfShift;II[J)I"⟩
abbrev cL_of : ByteArray := method_5_code
def yL_of : MethodName := ⟨RL, "of", "(LShelfShift;II[J)I"⟩
abbrev cL_law : ByteArray := code
def yL_law : MethodName := ⟨RL, "law", "([I)Z"⟩
abbrev vwCl : List vw_C := [(RX0, TX0, 8), (RX1, TX1, 12), (RX2, TX2, 2), (RX3, TX3, 3), (RX4, TX4, 8), (RX5, TX5, 3), (RX6, TX6, 7), (RX7, TX7, 29)]
